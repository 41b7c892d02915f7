theorem dJ0_length_8abf5_0 : decode cJ0_length_8abf5 0 = .ok (.aload_n 0, 1) := by decide +kernel
theorem dJ0_length_8abf5_1 : decode cJ0_length_8abf5 1 = .ok (.getfield 9, 3) := by decide +kernel
theorem dJ0_length_8abf5_4 : decode cJ0_length_8abf5 4 = .ok (.arraylength, 1) := by decide +kernel
theorem dJ0_length_8abf5_5 : decode cJ0_length_8abf5 5 = .ok (.aload_n 0, 1) := by decide +kernel
theorem dJ0_length_8abf5_6 : decode cJ0_length_8abf5 6 = .ok (.invokevirtual 335, 3) := by decide +kernel
theorem dJ0_length_8abf5_9 : decode cJ0_length_8abf5 9 = .ok (.ishr, 1) := by decide +kernel
theorem dJ0_length_8abf5_10 : decode cJ0_length_8abf5 10 = .ok (.ireturn, 1) := by decide +kernel
theorem dJ0_charAt_5068e_0 : decode cJ0_charAt_5068e 0 = .ok (.aload_n 0, 1) := by decide +kernel
theorem dJ0_charAt_5068e_1 : decode cJ0_charAt_5068e 1 = .ok (.invokevirtual 492, 3) := by decide +kernel
theorem dJ0_charAt_5068e_4 : decode cJ0_charAt_5068e 4 = .ok (.ifCond .eq 12, 3) := by decide +kernel
theorem dJ0_charAt_5068e_7 : decode cJ0_charAt_5068e 7 = .ok (.aload_n 0, 1) := by decide +kernel
theorem dJ0_charAt_5068e_8 : decode cJ0_charAt_5068e 8 = .ok (.getfield 9, 3) := by decide +kernel
theorem dJ0_charAt_5068e_11 : decode cJ0_charAt_5068e 11 = .ok (.iload_n 1, 1) := by decide +kernel
theorem dJ0_charAt_5068e_12 : decode cJ0_charAt_5068e 12 = .ok (.invokestatic 495, 3) := by decide +kernel
theorem dJ0_charAt_5068e_15 : decode cJ0_charAt_5068e 15 = .ok (.ireturn, 1) := by decide +kernel
theorem dJ0_charAt_5068e_16 : decode cJ0_charAt_5068e 16 = .ok (.aload_n 0, 1) := by decide +kernel
theorem dJ0_charAt_5068e_17 : decode cJ0_charAt_5068e 17 = .ok (.getfield 9, 3) := by decide +kernel
theorem dJ0_charAt_5068e_20 : decode cJ0_charAt_5068e 20 = .ok (.iload_n 1, 1) := by decide +kernel
theorem dJ0_charAt_5068e_21 : decode cJ0_charAt_5068e 21 = .ok (.invokestatic 498, 3) := by decide +kernel
theorem dJ0_charAt_5068e_24 : decode cJ0_charAt_5068e 24 = .ok (.ireturn, 1) := by decide +kernel
theorem dJ0_coder_7d493_0 : decode cJ0_coder_7d493 0 = .ok (.getstatic 38, 3) := by decide +kernel
theorem dJ0_coder_7d493_3 : decode cJ0_coder_7d493 3 = .ok (.ifCond .eq 10, 3) := by decide +kernel
theorem dJ0_coder_7d493_6 : decode cJ0_coder_7d493 6 = .ok (.aload_n 0, 1) := by decide +kernel
theorem dJ0_coder_7d493_7 : decode cJ0_coder_7d493 7 = .ok (.getfield 15, 3) := by decide +kernel
theorem dJ0_coder_7d493_10 : decode cJ0_coder_7d493 10 = .ok (.goto 4, 3) := by decide +kernel
theorem dJ0_coder_7d493_13 : decode cJ0_coder_7d493 13 = .ok (.iconst 1, 1) := by decide +kernel
theorem dJ0_coder_7d493_14 : decode cJ0_coder_7d493 14 = .ok (.ireturn, 1) := by decide +kernel
theorem dJ0_isLatin1_aae02_0 : decode cJ0_isLatin1_aae02 0 = .ok (.getstatic 38, 3) := by decide +kernel
theorem dJ0_isLatin1_aae02_3 : decode cJ0_isLatin1_aae02 3 = .ok (.ifCond .eq 14, 3) := by decide +kernel
theorem dJ0_isLatin1_aae02_6 : decode cJ0_isLatin1_aae02 6 = .ok (.aload_n 0, 1) := by decide +kernel
theorem dJ0_isLatin1_aae02_7 : decode cJ0_isLatin1_aae02 7 = .ok (.getfield 15, 3) := by decide +kernel
theorem dJ0_isLatin1_aae02_10 : decode cJ0_isLatin1_aae02 10 = .ok (.ifCond .ne 7, 3) := by decide +kernel
theorem dJ0_isLatin1_aae02_13 : decode cJ0_isLatin1_aae02 13 = .ok (.iconst 1, 1) := by decide +kernel
theorem dJ0_isLatin1_aae02_14 : decode cJ0_isLatin1_aae02 14 = .ok (.goto 4, 3) := by decide +kernel
theorem dJ0_isLatin1_aae02_17 : decode cJ0_isLatin1_aae02 17 = .ok (.iconst 0, 1) := by decide +kernel
theorem dJ0_isLatin1_aae02_18 : decode cJ0_isLatin1_aae02 18 = .ok (.ireturn, 1) := by decide +kernel
theorem dJ0_checkIndex_df160_0 : decode cJ0_checkIndex_df160 0 = .ok (.iload_n 0, 1) := by decide +kernel
theorem dJ0_checkIndex_df160_1 : decode cJ0_checkIndex_df160 1 = .ok (.iload_n 1, 1) := by decide +kernel
theorem dJ0_checkIndex_df160_2 : decode cJ0_checkIndex_df160 2 = .ok (.getstatic 1053, 3) := by decide +kernel
theorem dJ0_checkIndex_df160_5 : decode cJ0_checkIndex_df160 5 = .ok (.invokestatic 1059, 3) := by decide +kernel
theorem dJ0_checkIndex_df160_8 : decode cJ0_checkIndex_df160 8 = .ok (.pop, 1) := by decide +kernel
theorem dJ0_checkIndex_df160_9 : decode cJ0_checkIndex_df160 9 = .ok (.return_, 1) := by decide +kernel
theorem dJ1_charAt_3b067_0 : decode cJ1_charAt_3b067 0 = .ok (.iload_n 1, 1) := by decide +kernel
theorem dJ1_charAt_3b067_1 : decode cJ1_charAt_3b067 1 = .ok (.aload_n 0, 1) := by decide +kernel
theorem dJ1_charAt_3b067_2 : decode cJ1_charAt_3b067 2 = .ok (.arraylength, 1) := by decide +kernel
theorem dJ1_charAt_3b067_3 : decode cJ1_charAt_3b067 3 = .ok (.invokestatic 9, 3) := by decide +kernel
theorem dJ1_charAt_3b067_6 : decode cJ1_charAt_3b067 6 = .ok (.aload_n 0, 1) := by decide +kernel
theorem dJ1_charAt_3b067_7 : decode cJ1_charAt_3b067 7 = .ok (.iload_n 1, 1) := by decide +kernel
theorem dJ1_charAt_3b067_8 : decode cJ1_charAt_3b067 8 = .ok (.baload, 1) := by decide +kernel
theorem dJ1_charAt_3b067_9 : decode cJ1_charAt_3b067 9 = .ok (.sipush 255, 3) := by decide +kernel
theorem dJ1_charAt_3b067_12 : decode cJ1_charAt_3b067 12 = .ok (.iand, 1) := by decide +kernel
theorem dJ1_charAt_3b067_13 : decode cJ1_charAt_3b067 13 = .ok (.i2c, 1) := by decide +kernel
theorem dJ1_charAt_3b067_14 : decode cJ1_charAt_3b067 14 = .ok (.ireturn, 1) := by decide +kernel
theorem dJ2_getChar_3b067_0 : decode cJ2_getChar_3b067 0 = .ok (.getstatic 44, 3) := by decide +kernel
theorem dJ2_getChar_3b067_3 : decode cJ2_getChar_3b067 3 = .ok (.ifCond .ne 25, 3) := by decide +kernel
theorem dJ2_getChar_3b067_6 : decode cJ2_getChar_3b067 6 = .ok (.iload_n 1, 1) := by decide +kernel
theorem dJ2_getChar_3b067_7 : decode cJ2_getChar_3b067 7 = .ok (.ifCond .lt 11, 3) := by decide +kernel
theorem dJ2_getChar_3b067_10 : decode cJ2_getChar_3b067 10 = .ok (.iload_n 1, 1) := by decide +kernel
theorem dJ2_getChar_3b067_11 : decode cJ2_getChar_3b067 11 = .ok (.aload_n 0, 1) := by decide +kernel
theorem dJ2_getChar_3b067_12 : decode cJ2_getChar_3b067 12 = .ok (.invokestatic 48, 3) := by decide +kernel
theorem dJ2_getChar_3b067_15 : decode cJ2_getChar_3b067 15 = .ok (.if_icmp .lt 13, 3) := by decide +kernel
theorem dJ2_getChar_3b067_18 : decode cJ2_getChar_3b067 18 = .ok (.new 52, 3) := by decide +kernel
theorem dJ2_getChar_3b067_21 : decode cJ2_getChar_3b067 21 = .ok (.dup, 1) := by decide +kernel
theorem dJ2_getChar_3b067_22 : decode cJ2_getChar_3b067 22 = .ok (.ldc 54, 2) := by decide +kernel
theorem dJ2_getChar_3b067_24 : decode cJ2_getChar_3b067 24 = .ok (.invokespecial 56, 3) := by decide +kernel
theorem dJ2_getChar_3b067_27 : decode cJ2_getChar_3b067 27 = .ok (.athrow, 1) := by decide +kernel
theorem dJ2_getChar_3b067_28 : decode cJ2_getChar_3b067 28 = .ok (.iload_n 1, 1) := by decide +kernel
theorem dJ2_getChar_3b067_29 : decode cJ2_getChar_3b067 29 = .ok (.iconst 1, 1) := by decide +kernel
theorem dJ2_getChar_3b067_30 : decode cJ2_getChar_3b067 30 = .ok (.ishl, 1) := by decide +kernel
theorem dJ2_getChar_3b067_31 : decode cJ2_getChar_3b067 31 = .ok (.istore_n 1, 1) := by decide +kernel
theorem dJ2_getChar_3b067_32 : decode cJ2_getChar_3b067 32 = .ok (.aload_n 0, 1) := by decide +kernel
theorem dJ2_getChar_3b067_33 : decode cJ2_getChar_3b067 33 = .ok (.iload_n 1, 1) := by decide +kernel
theorem dJ2_getChar_3b067_34 : decode cJ2_getChar_3b067 34 = .ok (.iinc 1 1, 3) := by decide +kernel
theorem dJ2_getChar_3b067_37 : decode cJ2_getChar_3b067 37 = .ok (.baload, 1) := by decide +kernel
theorem dJ2_getChar_3b067_38 : decode cJ2_getChar_3b067 38 = .ok (.sipush 255, 3) := by decide +kernel
theorem dJ2_getChar_3b067_41 : decode cJ2_getChar_3b067 41 = .ok (.iand, 1) := by decide +kernel
theorem dJ2_getChar_3b067_42 : decode cJ2_getChar_3b067 42 = .ok (.getstatic 59, 3) := by decide +kernel
theorem dJ2_getChar_3b067_45 : decode cJ2_getChar_3b067 45 = .ok (.ishl, 1) := by decide +kernel
theorem dJ2_getChar_3b067_46 : decode cJ2_getChar_3b067 46 = .ok (.aload_n 0, 1) := by decide +kernel
theorem dJ2_getChar_3b067_47 : decode cJ2_getChar_3b067 47 = .ok (.iload_n 1, 1) := by decide +kernel
theorem dJ2_getChar_3b067_48 : decode cJ2_getChar_3b067 48 = .ok (.baload, 1) := by decide +kernel
theorem dJ2_getChar_3b067_49 : decode cJ2_getChar_3b067 49 = .ok (.sipush 255, 3) := by decide +kernel
theorem dJ2_getChar_3b067_52 : decode cJ2_getChar_3b067 52 = .ok (.iand, 1) := by decide +kernel
theorem dJ2_getChar_3b067_53 : decode cJ2_getChar_3b067 53 = .ok (.getstatic 63, 3) := by decide +kernel
theorem dJ2_getChar_3b067_56 : decode cJ2_getChar_3b067 56 = .ok (.ishl, 1) := by decide +kernel
theorem dJ2_getChar_3b067_57 : decode cJ2_getChar_3b067 57 = .ok (.ior, 1) := by decide +kernel
theorem dJ2_getChar_3b067_58 : decode cJ2_getChar_3b067 58 = .ok (.i2c, 1) := by decide +kernel
theorem dJ2_getChar_3b067_59 : decode cJ2_getChar_3b067 59 = .ok (.ireturn, 1) := by decide +kernel
theorem dJ2_length_9d52b_0 : decode cJ2_length_9d52b 0 = .ok (.aload_n 0, 1) := by decide +kernel
theorem dJ2_length_9d52b_1 : decode cJ2_length_9d52b 1 = .ok (.arraylength, 1) := by decide +kernel
theorem dJ2_length_9d52b_2 : decode cJ2_length_9d52b 2 = .ok (.iconst 1, 1) := by decide +kernel
theorem dJ2_length_9d52b_3 : decode cJ2_length_9d52b 3 = .ok (.ishr, 1) := by decide +kernel
theorem dJ2_length_9d52b_4 : decode cJ2_length_9d52b 4 = .ok (.ireturn, 1) := by decide +kernel
theorem dJ2_charAt_3b067_0 : decode cJ2_charAt_3b067 0 = .ok (.iload_n 1, 1) := by decide +kernel
theorem dJ2_charAt_3b067_1 : decode cJ2_charAt_3b067 1 = .ok (.aload_n 0, 1) := by decide +kernel
theorem dJ2_charAt_3b067_2 : decode cJ2_charAt_3b067 2 = .ok (.invokestatic 67, 3) := by decide +kernel
theorem dJ2_charAt_3b067_5 : decode cJ2_charAt_3b067 5 = .ok (.aload_n 0, 1) := by decide +kernel
theorem dJ2_charAt_3b067_6 : decode cJ2_charAt_3b067 6 = .ok (.iload_n 1, 1) := by decide +kernel
theorem dJ2_charAt_3b067_7 : decode cJ2_charAt_3b067 7 = .ok (.invokestatic 71, 3) := by decide +kernel
theorem dJ2_charAt_3b067_10 : decode cJ2_charAt_3b067 10 = .ok (.ireturn, 1) := by decide +kernel
theorem dJ2_checkIndex_2214a_0 : decode cJ2_checkIndex_2214a 0 = .ok (.iload_n 0, 1) := by decide +kernel
theorem dJ2_checkIndex_2214a_1 : decode cJ2_checkIndex_2214a 1 = .ok (.aload_n 1, 1) := by decide +kernel
theorem dJ2_checkIndex_2214a_2 : decode cJ2_checkIndex_2214a 2 = .ok (.invokestatic 48, 3) := by decide +kernel
theorem dJ2_checkIndex_2214a_5 : decode cJ2_checkIndex_2214a 5 = .ok (.invokestatic 414, 3) := by decide +kernel
theorem dJ2_checkIndex_2214a_8 : decode cJ2_checkIndex_2214a 8 = .ok (.return_, 1) := by decide +kernel
theorem dJ3_checkIndex_8e157_0 : decode cJ3_checkIndex_8e157 0 = .ok (.iload_n 0, 1) := by decide +kernel
theorem dJ3_checkIndex_8e157_1 : decode cJ3_checkIndex_8e157 1 = .ok (.ifCond .lt 8, 3) := by decide +kernel
theorem dJ3_checkIndex_8e157_4 : decode cJ3_checkIndex_8e157 4 = .ok (.iload_n 0, 1) := by decide +kernel
theorem dJ3_checkIndex_8e157_5 : decode cJ3_checkIndex_8e157 5 = .ok (.iload_n 1, 1) := by decide +kernel
theorem dJ3_checkIndex_8e157_6 : decode cJ3_checkIndex_8e157 6 = .ok (.if_icmp .lt 10, 3) := by decide +kernel
theorem dJ3_checkIndex_8e157_9 : decode cJ3_checkIndex_8e157 9 = .ok (.aload_n 2, 1) := by decide +kernel
theorem dJ3_checkIndex_8e157_10 : decode cJ3_checkIndex_8e157 10 = .ok (.iload_n 0, 1) := by decide +kernel
theorem dJ3_checkIndex_8e157_11 : decode cJ3_checkIndex_8e157 11 = .ok (.iload_n 1, 1) := by decide +kernel
theorem dJ3_checkIndex_8e157_12 : decode cJ3_checkIndex_8e157 12 = .ok (.invokestatic 95, 3) := by decide +kernel
theorem dJ3_checkIndex_8e157_15 : decode cJ3_checkIndex_8e157 15 = .ok (.athrow, 1) := by decide +kernel
theorem dJ3_checkIndex_8e157_16 : decode cJ3_checkIndex_8e157 16 = .ok (.iload_n 0, 1) := by decide +kernel
theorem dJ3_checkIndex_8e157_17 : decode cJ3_checkIndex_8e157 17 = .ok (.ireturn, 1) := by decide +kernel
theorem dJ6_bitCount_0f7a4_0 : decode cJ6_bitCount_0f7a4 0 = .ok (.iload_n 0, 1) := by decide +kernel
theorem dJ6_bitCount_0f7a4_1 : decode cJ6_bitCount_0f7a4 1 = .ok (.iload_n 0, 1) := by decide +kernel
theorem dJ6_bitCount_0f7a4_2 : decode cJ6_bitCount_0f7a4 2 = .ok (.iconst 1, 1) := by decide +kernel
theorem dJ6_bitCount_0f7a4_3 : decode cJ6_bitCount_0f7a4 3 = .ok (.iushr, 1) := by decide +kernel
theorem dJ6_bitCount_0f7a4_4 : decode cJ6_bitCount_0f7a4 4 = .ok (.ldc_w 265, 3) := by decide +kernel
theorem dJ6_bitCount_0f7a4_7 : decode cJ6_bitCount_0f7a4 7 = .ok (.iand, 1) := by decide +kernel
theorem dJ6_bitCount_0f7a4_8 : decode cJ6_bitCount_0f7a4 8 = .ok (.isub, 1) := by decide +kernel
theorem dJ6_bitCount_0f7a4_9 : decode cJ6_bitCount_0f7a4 9 = .ok (.istore_n 0, 1) := by decide +kernel
theorem dJ6_bitCount_0f7a4_10 : decode cJ6_bitCount_0f7a4 10 = .ok (.iload_n 0, 1) := by decide +kernel
theorem dJ6_bitCount_0f7a4_11 : decode cJ6_bitCount_0f7a4 11 = .ok (.ldc_w 266, 3) := by decide +kernel
theorem dJ6_bitCount_0f7a4_14 : decode cJ6_bitCount_0f7a4 14 = .ok (.iand, 1) := by decide +kernel
theorem dJ6_bitCount_0f7a4_15 : decode cJ6_bitCount_0f7a4 15 = .ok (.iload_n 0, 1) := by decide +kernel
theorem dJ6_bitCount_0f7a4_16 : decode cJ6_bitCount_0f7a4 16 = .ok (.iconst 2, 1) := by decide +kernel
theorem dJ6_bitCount_0f7a4_17 : decode cJ6_bitCount_0f7a4 17 = .ok (.iushr, 1) := by decide +kernel
theorem dJ6_bitCount_0f7a4_18 : decode cJ6_bitCount_0f7a4 18 = .ok (.ldc_w 266, 3) := by decide +kernel
theorem dJ6_bitCount_0f7a4_21 : decode cJ6_bitCount_0f7a4 21 = .ok (.iand, 1) := by decide +kernel
theorem dJ6_bitCount_0f7a4_22 : decode cJ6_bitCount_0f7a4 22 = .ok (.iadd, 1) := by decide +kernel
theorem dJ6_bitCount_0f7a4_23 : decode cJ6_bitCount_0f7a4 23 = .ok (.istore_n 0, 1) := by decide +kernel
theorem dJ6_bitCount_0f7a4_24 : decode cJ6_bitCount_0f7a4 24 = .ok (.iload_n 0, 1) := by decide +kernel
theorem dJ6_bitCount_0f7a4_25 : decode cJ6_bitCount_0f7a4 25 = .ok (.iload_n 0, 1) := by decide +kernel
theorem dJ6_bitCount_0f7a4_26 : decode cJ6_bitCount_0f7a4 26 = .ok (.iconst 4, 1) := by decide +kernel
theorem dJ6_bitCount_0f7a4_27 : decode cJ6_bitCount_0f7a4 27 = .ok (.iushr, 1) := by decide +kernel
theorem dJ6_bitCount_0f7a4_28 : decode cJ6_bitCount_0f7a4 28 = .ok (.iadd, 1) := by decide +kernel
theorem dJ6_bitCount_0f7a4_29 : decode cJ6_bitCount_0f7a4 29 = .ok (.ldc_w 267, 3) := by decide +kernel
theorem dJ6_bitCount_0f7a4_32 : decode cJ6_bitCount_0f7a4 32 = .ok (.iand, 1) := by decide +kernel
theorem dJ6_bitCount_0f7a4_33 : decode cJ6_bitCount_0f7a4 33 = .ok (.istore_n 0, 1) := by decide +kernel
theorem dJ6_bitCount_0f7a4_34 : decode cJ6_bitCount_0f7a4 34 = .ok (.iload_n 0, 1) := by decide +kernel
theorem dJ6_bitCount_0f7a4_35 : decode cJ6_bitCount_0f7a4 35 = .ok (.iload_n 0, 1) := by decide +kernel
theorem dJ6_bitCount_0f7a4_36 : decode cJ6_bitCount_0f7a4 36 = .ok (.bipush 8, 2) := by decide +kernel
theorem dJ6_bitCount_0f7a4_38 : decode cJ6_bitCount_0f7a4 38 = .ok (.iushr, 1) := by decide +kernel
theorem dJ6_bitCount_0f7a4_39 : decode cJ6_bitCount_0f7a4 39 = .ok (.iadd, 1) := by decide +kernel
theorem dJ6_bitCount_0f7a4_40 : decode cJ6_bitCount_0f7a4 40 = .ok (.istore_n 0, 1) := by decide +kernel
theorem dJ6_bitCount_0f7a4_41 : decode cJ6_bitCount_0f7a4 41 = .ok (.iload_n 0, 1) := by decide +kernel
theorem dJ6_bitCount_0f7a4_42 : decode cJ6_bitCount_0f7a4 42 = .ok (.iload_n 0, 1) := by decide +kernel
theorem dJ6_bitCount_0f7a4_43 : decode cJ6_bitCount_0f7a4 43 = .ok (.bipush 16, 2) := by decide +kernel
theorem dJ6_bitCount_0f7a4_45 : decode cJ6_bitCount_0f7a4 45 = .ok (.iushr, 1) := by decide +kernel
theorem dJ6_bitCount_0f7a4_46 : decode cJ6_bitCount_0f7a4 46 = .ok (.iadd, 1) := by decide +kernel
theorem dJ6_bitCount_0f7a4_47 : decode cJ6_bitCount_0f7a4 47 = .ok (.istore_n 0, 1) := by decide +kernel
theorem dJ6_bitCount_0f7a4_48 : decode cJ6_bitCount_0f7a4 48 = .ok (.iload_n 0, 1) := by decide +kernel
theorem dJ6_bitCount_0f7a4_49 : decode cJ6_bitCount_0f7a4 49 = .ok (.bipush 63, 2) := by decide +kernel
theorem dJ6_bitCount_0f7a4_51 : decode cJ6_bitCount_0f7a4 51 = .ok (.iand, 1) := by decide +kernel
theorem dJ6_bitCount_0f7a4_52 : decode cJ6_bitCount_0f7a4 52 = .ok (.ireturn, 1) := by decide +kernel
theorem dJ7_fill_53178_0 : decode cJ7_fill_53178 0 = .ok (.iconst 0, 1) := by decide +kernel
theorem dJ7_fill_53178_1 : decode cJ7_fill_53178 1 = .ok (.istore_n 2, 1) := by decide +kernel
theorem dJ7_fill_53178_2 : decode cJ7_fill_53178 2 = .ok (.aload_n 0, 1) := by decide +kernel
theorem dJ7_fill_53178_3 : decode cJ7_fill_53178 3 = .ok (.arraylength, 1) := by decide +kernel
theorem dJ7_fill_53178_4 : decode cJ7_fill_53178 4 = .ok (.istore_n 3, 1) := by decide +kernel
theorem dJ7_fill_53178_5 : decode cJ7_fill_53178 5 = .ok (.iload_n 2, 1) := by decide +kernel
theorem dJ7_fill_53178_6 : decode cJ7_fill_53178 6 = .ok (.iload_n 3, 1) := by decide +kernel
theorem dJ7_fill_53178_7 : decode cJ7_fill_53178 7 = .ok (.if_icmp .ge 13, 3) := by decide +kernel
theorem dJ7_fill_53178_10 : decode cJ7_fill_53178 10 = .ok (.aload_n 0, 1) := by decide +kernel
theorem dJ7_fill_53178_11 : decode cJ7_fill_53178 11 = .ok (.iload_n 2, 1) := by decide +kernel
theorem dJ7_fill_53178_12 : decode cJ7_fill_53178 12 = .ok (.iload_n 1, 1) := by decide +kernel
theorem dJ7_fill_53178_13 : decode cJ7_fill_53178 13 = .ok (.iastore, 1) := by decide +kernel
theorem dJ7_fill_53178_14 : decode cJ7_fill_53178 14 = .ok (.iinc 2 1, 3) := by decide +kernel
theorem dJ7_fill_53178_17 : decode cJ7_fill_53178 17 = .ok (.goto (-12), 3) := by decide +kernel
theorem dJ7_fill_53178_20 : decode cJ7_fill_53178 20 = .ok (.return_, 1) := by decide +kernel
theorem dJ9_max_7cf53_0 : decode cJ9_max_7cf53 0 = .ok (.iload_n 0, 1) := by decide +kernel
theorem dJ9_max_7cf53_1 : decode cJ9_max_7cf53 1 = .ok (.iload_n 1, 1) := by decide +kernel
theorem dJ9_max_7cf53_2 : decode cJ9_max_7cf53 2 = .ok (.if_icmp .lt 7, 3) := by decide +kernel
theorem dJ9_max_7cf53_5 : decode cJ9_max_7cf53 5 = .ok (.iload_n 0, 1) := by decide +kernel
theorem dJ9_max_7cf53_6 : decode cJ9_max_7cf53 6 = .ok (.goto 4, 3) := by decide +kernel
theorem dJ9_max_7cf53_9 : decode cJ9_max_7cf53 9 = .ok (.iload_n 1, 1) := by decide +kernel
theorem dJ9_max_7cf53_10 : decode cJ9_max_7cf53 10 = .ok (.ireturn, 1) := by decide +kernel
theorem dJ9_min_7cf53_0 : decode cJ9_min_7cf53 0 = .ok (.iload_n 0, 1) := by decide +kernel
theorem dJ9_min_7cf53_1 : decode cJ9_min_7cf53 1 = .ok (.iload_n 1, 1) := by decide +kernel
theorem dJ9_min_7cf53_2 : decode cJ9_min_7cf53 2 = .ok (.if_icmp .gt 7, 3) := by decide +kernel
theorem dJ9_min_7cf53_5 : decode cJ9_min_7cf53 5 = .ok (.iload_n 0, 1) := by decide +kernel
theorem dJ9_min_7cf53_6 : decode cJ9_min_7cf53 6 = .ok (.goto 4, 3) := by decide +kernel
theorem dJ9_min_7cf53_9 : decode cJ9_min_7cf53 9 = .ok (.iload_n 1, 1) := by decide +kernel
theorem dJ9_min_7cf53_10 : decode cJ9_min_7cf53 10 = .ok (.ireturn, 1) := by decide +kernel
theorem dX0_init_0 : decode cX0_init 0 = .ok (.aload_n 0, 1) := by decide +kernel
theorem dX0_init_1 : decode cX0_init 1 = .ok (.invokespecial 3, 3) := by decide +kernel
theorem dX0_init_4 : decode cX0_init 4 = .ok (.aload_n 0, 1) := by decide +kernel
theorem dX0_init_5 : decode cX0_init 5 = .ok (.bipush 30, 2) := by decide +kernel
theorem dX0_init_7 : decode cX0_init 7 = .ok (.newarray .int, 2) := by decide +kernel
theorem dX0_init_9 : decode cX0_init 9 = .ok (.putfield 9, 3) := by decide +kernel
theorem dX0_init_12 : decode cX0_init 12 = .ok (.aload_n 0, 1) := by decide +kernel
theorem dX0_init_13 : decode cX0_init 13 = .ok (.bipush 30, 2) := by decide +kernel
theorem dX0_init_15 : decode cX0_init 15 = .ok (.newarray .int, 2) := by decide +kernel
theorem dX0_init_17 : decode cX0_init 17 = .ok (.putfield 15, 3) := by decide +kernel
theorem dX0_init_20 : decode cX0_init 20 = .ok (.aload_n 0, 1) := by decide +kernel
theorem dX0_init_21 : decode cX0_init 21 = .ok (.bipush 30, 2) := by decide +kernel
theorem dX0_init_23 : decode cX0_init 23 = .ok (.newarray .int, 2) := by decide +kernel
theorem dX0_init_25 : decode cX0_init 25 = .ok (.putfield 18, 3) := by decide +kernel
theorem dX0_init_28 : decode cX0_init 28 = .ok (.aload_n 0, 1) := by decide +kernel
theorem dX0_init_29 : decode cX0_init 29 = .ok (.bipush 30, 2) := by decide +kernel
theorem dX0_init_31 : decode cX0_init 31 = .ok (.newarray .int, 2) := by decide +kernel
theorem dX0_init_33 : decode cX0_init 33 = .ok (.putfield 21, 3) := by decide +kernel
theorem dX0_init_36 : decode cX0_init 36 = .ok (.aload_n 0, 1) := by decide +kernel
theorem dX0_init_37 : decode cX0_init 37 = .ok (.iconst 0, 1) := by decide +kernel
theorem dX0_init_38 : decode cX0_init 38 = .ok (.putfield 24, 3) := by decide +kernel
theorem dX0_init_41 : decode cX0_init 41 = .ok (.return_, 1) := by decide +kernel
theorem dX0_size_0 : decode cX0_size 0 = .ok (.aload_n 0, 1) := by decide +kernel
theorem dX0_size_1 : decode cX0_size 1 = .ok (.getfield 24, 3) := by decide +kernel
theorem dX0_size_4 : decode cX0_size 4 = .ok (.ireturn, 1) := by decide +kernel
theorem dX0_clear_0 : decode cX0_clear 0 = .ok (.aload_n 0, 1) := by decide +kernel
theorem dX0_clear_1 : decode cX0_clear 1 = .ok (.iconst 0, 1) := by decide +kernel
theorem dX0_clear_2 : decode cX0_clear 2 = .ok (.putfield 24, 3) := by decide +kernel
theorem dX0_clear_5 : decode cX0_clear 5 = .ok (.return_, 1) := by decide +kernel
theorem dX0_has_0 : decode cX0_has 0 = .ok (.iload_n 1, 1) := by decide +kernel
theorem dX0_has_1 : decode cX0_has 1 = .ok (.ifCond .lt 15, 3) := by decide +kernel
theorem dX0_has_4 : decode cX0_has 4 = .ok (.iload_n 1, 1) := by decide +kernel
theorem dX0_has_5 : decode cX0_has 5 = .ok (.aload_n 0, 1) := by decide +kernel
theorem dX0_has_6 : decode cX0_has 6 = .ok (.getfield 24, 3) := by decide +kernel
theorem dX0_has_9 : decode cX0_has 9 = .ok (.if_icmp .ge 7, 3) := by decide +kernel
theorem dX0_has_12 : decode cX0_has 12 = .ok (.iconst 1, 1) := by decide +kernel
theorem dX0_has_13 : decode cX0_has 13 = .ok (.goto 4, 3) := by decide +kernel
theorem dX0_has_16 : decode cX0_has 16 = .ok (.iconst 0, 1) := by decide +kernel
theorem dX0_has_17 : decode cX0_has 17 = .ok (.ireturn, 1) := by decide +kernel
theorem dX0_add_0 : decode cX0_add 0 = .ok (.aload_n 0, 1) := by decide +kernel
theorem dX0_add_1 : decode cX0_add 1 = .ok (.getfield 24, 3) := by decide +kernel
theorem dX0_add_4 : decode cX0_add 4 = .ok (.bipush 30, 2) := by decide +kernel
theorem dX0_add_6 : decode cX0_add 6 = .ok (.if_icmp .lt 5, 3) := by decide +kernel
theorem dX0_add_9 : decode cX0_add 9 = .ok (.iconst (-1), 1) := by decide +kernel
theorem dX0_add_10 : decode cX0_add 10 = .ok (.ireturn, 1) := by decide +kernel
theorem dX0_add_11 : decode cX0_add 11 = .ok (.aload_n 0, 1) := by decide +kernel
theorem dX0_add_12 : decode cX0_add 12 = .ok (.getfield 9, 3) := by decide +kernel
theorem dX0_add_15 : decode cX0_add 15 = .ok (.aload_n 0, 1) := by decide +kernel
theorem dX0_add_16 : decode cX0_add 16 = .ok (.getfield 24, 3) := by decide +kernel
theorem dX0_add_19 : decode cX0_add 19 = .ok (.iload_n 1, 1) := by decide +kernel
theorem dX0_add_20 : decode cX0_add 20 = .ok (.iastore, 1) := by decide +kernel
theorem dX0_add_21 : decode cX0_add 21 = .ok (.aload_n 0, 1) := by decide +kernel
theorem dX0_add_22 : decode cX0_add 22 = .ok (.getfield 15, 3) := by decide +kernel
theorem dX0_add_25 : decode cX0_add 25 = .ok (.aload_n 0, 1) := by decide +kernel
theorem dX0_add_26 : decode cX0_add 26 = .ok (.getfield 24, 3) := by decide +kernel
theorem dX0_add_29 : decode cX0_add 29 = .ok (.iconst (-1), 1) := by decide +kernel
theorem dX0_add_30 : decode cX0_add 30 = .ok (.iastore, 1) := by decide +kernel
theorem dX0_add_31 : decode cX0_add 31 = .ok (.aload_n 0, 1) := by decide +kernel
theorem dX0_add_32 : decode cX0_add 32 = .ok (.getfield 18, 3) := by decide +kernel
theorem dX0_add_35 : decode cX0_add 35 = .ok (.aload_n 0, 1) := by decide +kernel
theorem dX0_add_36 : decode cX0_add 36 = .ok (.getfield 24, 3) := by decide +kernel
theorem dX0_add_39 : decode cX0_add 39 = .ok (.iload_n 2, 1) := by decide +kernel
theorem dX0_add_40 : decode cX0_add 40 = .ok (.iastore, 1) := by decide +kernel
theorem dX0_add_41 : decode cX0_add 41 = .ok (.aload_n 0, 1) := by decide +kernel
theorem dX0_add_42 : decode cX0_add 42 = .ok (.getfield 21, 3) := by decide +kernel
theorem dX0_add_45 : decode cX0_add 45 = .ok (.aload_n 0, 1) := by decide +kernel
theorem dX0_add_46 : decode cX0_add 46 = .ok (.getfield 24, 3) := by decide +kernel
theorem dX0_add_49 : decode cX0_add 49 = .ok (.iconst (-1), 1) := by decide +kernel
theorem dX0_add_50 : decode cX0_add 50 = .ok (.iastore, 1) := by decide +kernel
theorem dX0_add_51 : decode cX0_add 51 = .ok (.aload_n 0, 1) := by decide +kernel
theorem dX0_add_52 : decode cX0_add 52 = .ok (.dup, 1) := by decide +kernel
theorem dX0_add_53 : decode cX0_add 53 = .ok (.getfield 24, 3) := by decide +kernel
theorem dX0_add_56 : decode cX0_add 56 = .ok (.iconst 1, 1) := by decide +kernel
theorem dX0_add_57 : decode cX0_add 57 = .ok (.iadd, 1) := by decide +kernel
theorem dX0_add_58 : decode cX0_add 58 = .ok (.putfield 24, 3) := by decide +kernel
theorem dX0_add_61 : decode cX0_add 61 = .ok (.aload_n 0, 1) := by decide +kernel
theorem dX0_add_62 : decode cX0_add 62 = .ok (.getfield 24, 3) := by decide +kernel
theorem dX0_add_65 : decode cX0_add 65 = .ok (.iconst 1, 1) := by decide +kernel
theorem dX0_add_66 : decode cX0_add 66 = .ok (.isub, 1) := by decide +kernel
theorem dX0_add_67 : decode cX0_add 67 = .ok (.ireturn, 1) := by decide +kernel
theorem dX0_groupOf_0 : decode cX0_groupOf 0 = .ok (.iconst 0, 1) := by decide +kernel
theorem dX0_groupOf_1 : decode cX0_groupOf 1 = .ok (.istore_n 2, 1) := by decide +kernel
theorem dX0_groupOf_2 : decode cX0_groupOf 2 = .ok (.iload_n 2, 1) := by decide +kernel
theorem dX0_groupOf_3 : decode cX0_groupOf 3 = .ok (.aload_n 0, 1) := by decide +kernel
theorem dX0_groupOf_4 : decode cX0_groupOf 4 = .ok (.getfield 24, 3) := by decide +kernel
theorem dX0_groupOf_7 : decode cX0_groupOf 7 = .ok (.if_icmp .ge 29, 3) := by decide +kernel
theorem dX0_groupOf_10 : decode cX0_groupOf 10 = .ok (.aload_n 0, 1) := by decide +kernel
theorem dX0_groupOf_11 : decode cX0_groupOf 11 = .ok (.iload_n 2, 1) := by decide +kernel
theorem dX0_groupOf_12 : decode cX0_groupOf 12 = .ok (.invokevirtual 28, 3) := by decide +kernel
theorem dX0_groupOf_15 : decode cX0_groupOf 15 = .ok (.ifCond .eq 15, 3) := by decide +kernel
theorem dX0_groupOf_18 : decode cX0_groupOf 18 = .ok (.aload_n 0, 1) := by decide +kernel
theorem dX0_groupOf_19 : decode cX0_groupOf 19 = .ok (.getfield 18, 3) := by decide +kernel
theorem dX0_groupOf_22 : decode cX0_groupOf 22 = .ok (.iload_n 2, 1) := by decide +kernel
theorem dX0_groupOf_23 : decode cX0_groupOf 23 = .ok (.iaload, 1) := by decide +kernel
theorem dX0_groupOf_24 : decode cX0_groupOf 24 = .ok (.iload_n 1, 1) := by decide +kernel
theorem dX0_groupOf_25 : decode cX0_groupOf 25 = .ok (.if_icmp .ne 5, 3) := by decide +kernel
theorem dX0_groupOf_28 : decode cX0_groupOf 28 = .ok (.iload_n 2, 1) := by decide +kernel
theorem dX0_groupOf_29 : decode cX0_groupOf 29 = .ok (.ireturn, 1) := by decide +kernel
theorem dX0_groupOf_30 : decode cX0_groupOf 30 = .ok (.iinc 2 1, 3) := by decide +kernel
theorem dX0_groupOf_33 : decode cX0_groupOf 33 = .ok (.goto (-31), 3) := by decide +kernel
theorem dX0_groupOf_36 : decode cX0_groupOf 36 = .ok (.aload_n 0, 1) := by decide +kernel
theorem dX0_groupOf_37 : decode cX0_groupOf 37 = .ok (.iconst 4, 1) := by decide +kernel
theorem dX0_groupOf_38 : decode cX0_groupOf 38 = .ok (.iload_n 1, 1) := by decide +kernel
theorem dX0_groupOf_39 : decode cX0_groupOf 39 = .ok (.invokevirtual 32, 3) := by decide +kernel
theorem dX0_groupOf_42 : decode cX0_groupOf 42 = .ok (.ireturn, 1) := by decide +kernel
theorem dX0_joinedTo_0 : decode cX0_joinedTo 0 = .ok (.aload_n 0, 1) := by decide +kernel
theorem dX0_joinedTo_1 : decode cX0_joinedTo 1 = .ok (.iload_n 1, 1) := by decide +kernel
theorem dX0_joinedTo_2 : decode cX0_joinedTo 2 = .ok (.invokevirtual 36, 3) := by decide +kernel
theorem dX0_joinedTo_5 : decode cX0_joinedTo 5 = .ok (.ifCond .eq 12, 3) := by decide +kernel
theorem dX0_joinedTo_8 : decode cX0_joinedTo 8 = .ok (.aload_n 0, 1) := by decide +kernel
theorem dX0_joinedTo_9 : decode cX0_joinedTo 9 = .ok (.getfield 15, 3) := by decide +kernel
theorem dX0_joinedTo_12 : decode cX0_joinedTo 12 = .ok (.iload_n 1, 1) := by decide +kernel
theorem dX0_joinedTo_13 : decode cX0_joinedTo 13 = .ok (.iaload, 1) := by decide +kernel
theorem dX0_joinedTo_14 : decode cX0_joinedTo 14 = .ok (.goto 4, 3) := by decide +kernel
theorem dX0_joinedTo_17 : decode cX0_joinedTo 17 = .ok (.iconst (-1), 1) := by decide +kernel
theorem dX0_joinedTo_18 : decode cX0_joinedTo 18 = .ok (.ireturn, 1) := by decide +kernel
theorem dX0_stands_0 : decode cX0_stands 0 = .ok (.aload_n 0, 1) := by decide +kernel
theorem dX0_stands_1 : decode cX0_stands 1 = .ok (.iload_n 1, 1) := by decide +kernel
theorem dX0_stands_2 : decode cX0_stands 2 = .ok (.invokevirtual 36, 3) := by decide +kernel
theorem dX0_stands_5 : decode cX0_stands 5 = .ok (.ifCond .eq 17, 3) := by decide +kernel
theorem dX0_stands_8 : decode cX0_stands 8 = .ok (.aload_n 0, 1) := by decide +kernel
theorem dX0_stands_9 : decode cX0_stands 9 = .ok (.getfield 15, 3) := by decide +kernel
theorem dX0_stands_12 : decode cX0_stands 12 = .ok (.iload_n 1, 1) := by decide +kernel
theorem dX0_stands_13 : decode cX0_stands 13 = .ok (.iaload, 1) := by decide +kernel
theorem dX0_stands_14 : decode cX0_stands 14 = .ok (.iconst (-1), 1) := by decide +kernel
theorem dX0_stands_15 : decode cX0_stands 15 = .ok (.if_icmp .ne 7, 3) := by decide +kernel
theorem dX0_stands_18 : decode cX0_stands 18 = .ok (.iconst 1, 1) := by decide +kernel
theorem dX0_stands_19 : decode cX0_stands 19 = .ok (.goto 4, 3) := by decide +kernel
theorem dX0_stands_22 : decode cX0_stands 22 = .ok (.iconst 0, 1) := by decide +kernel
theorem dX0_stands_23 : decode cX0_stands 23 = .ok (.ireturn, 1) := by decide +kernel
theorem dX0_nowOf_0 : decode cX0_nowOf 0 = .ok (.aload_n 0, 1) := by decide +kernel
theorem dX0_nowOf_1 : decode cX0_nowOf 1 = .ok (.iload_n 1, 1) := by decide +kernel
theorem dX0_nowOf_2 : decode cX0_nowOf 2 = .ok (.invokevirtual 36, 3) := by decide +kernel
theorem dX0_nowOf_5 : decode cX0_nowOf 5 = .ok (.ifCond .eq 7, 3) := by decide +kernel
theorem dX0_nowOf_8 : decode cX0_nowOf 8 = .ok (.iload_n 1, 1) := by decide +kernel
theorem dX0_nowOf_9 : decode cX0_nowOf 9 = .ok (.goto 4, 3) := by decide +kernel
theorem dX0_nowOf_12 : decode cX0_nowOf 12 = .ok (.iconst (-1), 1) := by decide +kernel
theorem dX0_nowOf_13 : decode cX0_nowOf 13 = .ok (.istore_n 2, 1) := by decide +kernel
theorem dX0_nowOf_14 : decode cX0_nowOf 14 = .ok (.iconst 0, 1) := by decide +kernel
theorem dX0_nowOf_15 : decode cX0_nowOf 15 = .ok (.istore_n 3, 1) := by decide +kernel
theorem dX0_nowOf_16 : decode cX0_nowOf 16 = .ok (.iload_n 3, 1) := by decide +kernel
theorem dX0_nowOf_17 : decode cX0_nowOf 17 = .ok (.bipush 30, 2) := by decide +kernel
theorem dX0_nowOf_19 : decode cX0_nowOf 19 = .ok (.if_icmp .ge 34, 3) := by decide +kernel
theorem dX0_nowOf_22 : decode cX0_nowOf 22 = .ok (.aload_n 0, 1) := by decide +kernel
theorem dX0_nowOf_23 : decode cX0_nowOf 23 = .ok (.iload_n 2, 1) := by decide +kernel
theorem dX0_nowOf_24 : decode cX0_nowOf 24 = .ok (.invokevirtual 36, 3) := by decide +kernel
theorem dX0_nowOf_27 : decode cX0_nowOf 27 = .ok (.ifCond .eq 26, 3) := by decide +kernel
theorem dX0_nowOf_30 : decode cX0_nowOf 30 = .ok (.aload_n 0, 1) := by decide +kernel
theorem dX0_nowOf_31 : decode cX0_nowOf 31 = .ok (.getfield 15, 3) := by decide +kernel
theorem dX0_nowOf_34 : decode cX0_nowOf 34 = .ok (.iload_n 2, 1) := by decide +kernel
theorem dX0_nowOf_35 : decode cX0_nowOf 35 = .ok (.iaload, 1) := by decide +kernel
theorem dX0_nowOf_36 : decode cX0_nowOf 36 = .ok (.iconst (-1), 1) := by decide +kernel
theorem dX0_nowOf_37 : decode cX0_nowOf 37 = .ok (.if_icmp .eq 16, 3) := by decide +kernel
theorem dX0_nowOf_40 : decode cX0_nowOf 40 = .ok (.aload_n 0, 1) := by decide +kernel
theorem dX0_nowOf_41 : decode cX0_nowOf 41 = .ok (.getfield 15, 3) := by decide +kernel
theorem dX0_nowOf_44 : decode cX0_nowOf 44 = .ok (.iload_n 2, 1) := by decide +kernel
theorem dX0_nowOf_45 : decode cX0_nowOf 45 = .ok (.iaload, 1) := by decide +kernel
theorem dX0_nowOf_46 : decode cX0_nowOf 46 = .ok (.istore_n 2, 1) := by decide +kernel
theorem dX0_nowOf_47 : decode cX0_nowOf 47 = .ok (.iinc 3 1, 3) := by decide +kernel
theorem dX0_nowOf_50 : decode cX0_nowOf 50 = .ok (.goto (-34), 3) := by decide +kernel
theorem dX0_nowOf_53 : decode cX0_nowOf 53 = .ok (.iload_n 2, 1) := by decide +kernel
theorem dX0_nowOf_54 : decode cX0_nowOf 54 = .ok (.ireturn, 1) := by decide +kernel
theorem dX0_sexOf_0 : decode cX0_sexOf 0 = .ok (.aload_n 0, 1) := by decide +kernel
theorem dX0_sexOf_1 : decode cX0_sexOf 1 = .ok (.iload_n 1, 1) := by decide +kernel
theorem dX0_sexOf_2 : decode cX0_sexOf 2 = .ok (.invokevirtual 36, 3) := by decide +kernel
theorem dX0_sexOf_5 : decode cX0_sexOf 5 = .ok (.ifCond .eq 12, 3) := by decide +kernel
theorem dX0_sexOf_8 : decode cX0_sexOf 8 = .ok (.aload_n 0, 1) := by decide +kernel
theorem dX0_sexOf_9 : decode cX0_sexOf 9 = .ok (.getfield 9, 3) := by decide +kernel
theorem dX0_sexOf_12 : decode cX0_sexOf 12 = .ok (.iload_n 1, 1) := by decide +kernel
theorem dX0_sexOf_13 : decode cX0_sexOf 13 = .ok (.iaload, 1) := by decide +kernel
theorem dX0_sexOf_14 : decode cX0_sexOf 14 = .ok (.goto 4, 3) := by decide +kernel
theorem dX0_sexOf_17 : decode cX0_sexOf 17 = .ok (.iconst 0, 1) := by decide +kernel
theorem dX0_sexOf_18 : decode cX0_sexOf 18 = .ok (.ireturn, 1) := by decide +kernel
theorem dX0_learnSex_0 : decode cX0_learnSex 0 = .ok (.aload_n 0, 1) := by decide +kernel
theorem dX0_learnSex_1 : decode cX0_learnSex 1 = .ok (.iload_n 1, 1) := by decide +kernel
theorem dX0_learnSex_2 : decode cX0_learnSex 2 = .ok (.invokevirtual 36, 3) := by decide +kernel
theorem dX0_learnSex_5 : decode cX0_learnSex 5 = .ok (.ifCond .eq 19, 3) := by decide +kernel
theorem dX0_learnSex_8 : decode cX0_learnSex 8 = .ok (.aload_n 0, 1) := by decide +kernel
theorem dX0_learnSex_9 : decode cX0_learnSex 9 = .ok (.getfield 9, 3) := by decide +kernel
theorem dX0_learnSex_12 : decode cX0_learnSex 12 = .ok (.iload_n 1, 1) := by decide +kernel
theorem dX0_learnSex_13 : decode cX0_learnSex 13 = .ok (.iaload, 1) := by decide +kernel
theorem dX0_learnSex_14 : decode cX0_learnSex 14 = .ok (.ifCond .ne 10, 3) := by decide +kernel
theorem dX0_learnSex_17 : decode cX0_learnSex 17 = .ok (.aload_n 0, 1) := by decide +kernel
theorem dX0_learnSex_18 : decode cX0_learnSex 18 = .ok (.getfield 9, 3) := by decide +kernel
theorem dX0_learnSex_21 : decode cX0_learnSex 21 = .ok (.iload_n 1, 1) := by decide +kernel
theorem dX0_learnSex_22 : decode cX0_learnSex 22 = .ok (.iload_n 2, 1) := by decide +kernel
theorem dX0_learnSex_23 : decode cX0_learnSex 23 = .ok (.iastore, 1) := by decide +kernel
theorem dX0_learnSex_24 : decode cX0_learnSex 24 = .ok (.return_, 1) := by decide +kernel
theorem dX0_isGroup_0 : decode cX0_isGroup 0 = .ok (.aload_n 0, 1) := by decide +kernel
theorem dX0_isGroup_1 : decode cX0_isGroup 1 = .ok (.iload_n 1, 1) := by decide +kernel
theorem dX0_isGroup_2 : decode cX0_isGroup 2 = .ok (.invokevirtual 36, 3) := by decide +kernel
theorem dX0_isGroup_5 : decode cX0_isGroup 5 = .ok (.ifCond .eq 17, 3) := by decide +kernel
theorem dX0_isGroup_8 : decode cX0_isGroup 8 = .ok (.aload_n 0, 1) := by decide +kernel
theorem dX0_isGroup_9 : decode cX0_isGroup 9 = .ok (.getfield 9, 3) := by decide +kernel
theorem dX0_isGroup_12 : decode cX0_isGroup 12 = .ok (.iload_n 1, 1) := by decide +kernel
theorem dX0_isGroup_13 : decode cX0_isGroup 13 = .ok (.iaload, 1) := by decide +kernel
theorem dX0_isGroup_14 : decode cX0_isGroup 14 = .ok (.iconst 4, 1) := by decide +kernel
theorem dX0_isGroup_15 : decode cX0_isGroup 15 = .ok (.if_icmp .ne 7, 3) := by decide +kernel
theorem dX0_isGroup_18 : decode cX0_isGroup 18 = .ok (.iconst 1, 1) := by decide +kernel
theorem dX0_isGroup_19 : decode cX0_isGroup 19 = .ok (.goto 4, 3) := by decide +kernel
theorem dX0_isGroup_22 : decode cX0_isGroup 22 = .ok (.iconst 0, 1) := by decide +kernel
theorem dX0_isGroup_23 : decode cX0_isGroup 23 = .ok (.ireturn, 1) := by decide +kernel
theorem dX0_membersOf_0 : decode cX0_membersOf 0 = .ok (.aload_n 0, 1) := by decide +kernel
theorem dX0_membersOf_1 : decode cX0_membersOf 1 = .ok (.iload_n 1, 1) := by decide +kernel
theorem dX0_membersOf_2 : decode cX0_membersOf 2 = .ok (.invokevirtual 36, 3) := by decide +kernel
theorem dX0_membersOf_5 : decode cX0_membersOf 5 = .ok (.ifCond .eq 12, 3) := by decide +kernel
theorem dX0_membersOf_8 : decode cX0_membersOf 8 = .ok (.aload_n 0, 1) := by decide +kernel
theorem dX0_membersOf_9 : decode cX0_membersOf 9 = .ok (.getfield 18, 3) := by decide +kernel
theorem dX0_membersOf_12 : decode cX0_membersOf 12 = .ok (.iload_n 1, 1) := by decide +kernel
theorem dX0_membersOf_13 : decode cX0_membersOf 13 = .ok (.iaload, 1) := by decide +kernel
theorem dX0_membersOf_14 : decode cX0_membersOf 14 = .ok (.goto 4, 3) := by decide +kernel
theorem dX0_membersOf_17 : decode cX0_membersOf 17 = .ok (.iconst 0, 1) := by decide +kernel
theorem dX0_membersOf_18 : decode cX0_membersOf 18 = .ok (.ireturn, 1) := by decide +kernel
theorem dX0_lastMentionOf_0 : decode cX0_lastMentionOf 0 = .ok (.aload_n 0, 1) := by decide +kernel
theorem dX0_lastMentionOf_1 : decode cX0_lastMentionOf 1 = .ok (.iload_n 1, 1) := by decide +kernel
theorem dX0_lastMentionOf_2 : decode cX0_lastMentionOf 2 = .ok (.invokevirtual 36, 3) := by decide +kernel
theorem dX0_lastMentionOf_5 : decode cX0_lastMentionOf 5 = .ok (.ifCond .eq 12, 3) := by decide +kernel
theorem dX0_lastMentionOf_8 : decode cX0_lastMentionOf 8 = .ok (.aload_n 0, 1) := by decide +kernel
theorem dX0_lastMentionOf_9 : decode cX0_lastMentionOf 9 = .ok (.getfield 21, 3) := by decide +kernel
theorem dX0_lastMentionOf_12 : decode cX0_lastMentionOf 12 = .ok (.iload_n 1, 1) := by decide +kernel
theorem dX0_lastMentionOf_13 : decode cX0_lastMentionOf 13 = .ok (.iaload, 1) := by decide +kernel
theorem dX0_lastMentionOf_14 : decode cX0_lastMentionOf 14 = .ok (.goto 4, 3) := by decide +kernel
theorem dX0_lastMentionOf_17 : decode cX0_lastMentionOf 17 = .ok (.iconst (-1), 1) := by decide +kernel
theorem dX0_lastMentionOf_18 : decode cX0_lastMentionOf 18 = .ok (.ireturn, 1) := by decide +kernel
theorem dX0_noteMention_0 : decode cX0_noteMention 0 = .ok (.aload_n 0, 1) := by decide +kernel
theorem dX0_noteMention_1 : decode cX0_noteMention 1 = .ok (.iload_n 1, 1) := by decide +kernel
theorem dX0_noteMention_2 : decode cX0_noteMention 2 = .ok (.invokevirtual 36, 3) := by decide +kernel
theorem dX0_noteMention_5 : decode cX0_noteMention 5 = .ok (.ifCond .eq 19, 3) := by decide +kernel
theorem dX0_noteMention_8 : decode cX0_noteMention 8 = .ok (.aload_n 0, 1) := by decide +kernel
theorem dX0_noteMention_9 : decode cX0_noteMention 9 = .ok (.getfield 21, 3) := by decide +kernel
theorem dX0_noteMention_12 : decode cX0_noteMention 12 = .ok (.iload_n 1, 1) := by decide +kernel
theorem dX0_noteMention_13 : decode cX0_noteMention 13 = .ok (.aload_n 0, 1) := by decide +kernel
theorem dX0_noteMention_14 : decode cX0_noteMention 14 = .ok (.getfield 21, 3) := by decide +kernel
theorem dX0_noteMention_17 : decode cX0_noteMention 17 = .ok (.iload_n 1, 1) := by decide +kernel
theorem dX0_noteMention_18 : decode cX0_noteMention 18 = .ok (.iaload, 1) := by decide +kernel
theorem dX0_noteMention_19 : decode cX0_noteMention 19 = .ok (.iload_n 2, 1) := by decide +kernel
theorem dX0_noteMention_20 : decode cX0_noteMention 20 = .ok (.invokestatic 39, 3) := by decide +kernel
theorem dX0_noteMention_23 : decode cX0_noteMention 23 = .ok (.iastore, 1) := by decide +kernel
theorem dX0_noteMention_24 : decode cX0_noteMention 24 = .ok (.return_, 1) := by decide +kernel
theorem dX0_canJoin_0 : decode cX0_canJoin 0 = .ok (.aload_n 0, 1) := by decide +kernel
theorem dX0_canJoin_1 : decode cX0_canJoin 1 = .ok (.iload_n 1, 1) := by decide +kernel
theorem dX0_canJoin_2 : decode cX0_canJoin 2 = .ok (.invokevirtual 44, 3) := by decide +kernel
theorem dX0_canJoin_5 : decode cX0_canJoin 5 = .ok (.ifCond .eq 32, 3) := by decide +kernel
theorem dX0_canJoin_8 : decode cX0_canJoin 8 = .ok (.aload_n 0, 1) := by decide +kernel
theorem dX0_canJoin_9 : decode cX0_canJoin 9 = .ok (.iload_n 2, 1) := by decide +kernel
theorem dX0_canJoin_10 : decode cX0_canJoin 10 = .ok (.invokevirtual 44, 3) := by decide +kernel
theorem dX0_canJoin_13 : decode cX0_canJoin 13 = .ok (.ifCond .eq 24, 3) := by decide +kernel
theorem dX0_canJoin_16 : decode cX0_canJoin 16 = .ok (.iload_n 1, 1) := by decide +kernel
theorem dX0_canJoin_17 : decode cX0_canJoin 17 = .ok (.iload_n 2, 1) := by decide +kernel
theorem dX0_canJoin_18 : decode cX0_canJoin 18 = .ok (.if_icmp .eq 19, 3) := by decide +kernel
theorem dX0_canJoin_21 : decode cX0_canJoin 21 = .ok (.aload_n 0, 1) := by decide +kernel
theorem dX0_canJoin_22 : decode cX0_canJoin 22 = .ok (.iload_n 1, 1) := by decide +kernel
theorem dX0_canJoin_23 : decode cX0_canJoin 23 = .ok (.invokevirtual 28, 3) := by decide +kernel
theorem dX0_canJoin_26 : decode cX0_canJoin 26 = .ok (.ifCond .ne 11, 3) := by decide +kernel
theorem dX0_canJoin_29 : decode cX0_canJoin 29 = .ok (.aload_n 0, 1) := by decide +kernel
theorem dX0_canJoin_30 : decode cX0_canJoin 30 = .ok (.iload_n 2, 1) := by decide +kernel
theorem dX0_canJoin_31 : decode cX0_canJoin 31 = .ok (.invokevirtual 28, 3) := by decide +kernel
theorem dX0_canJoin_34 : decode cX0_canJoin 34 = .ok (.ifCond .eq 5, 3) := by decide +kernel
theorem dX0_canJoin_37 : decode cX0_canJoin 37 = .ok (.iconst 0, 1) := by decide +kernel
theorem dX0_canJoin_38 : decode cX0_canJoin 38 = .ok (.ireturn, 1) := by decide +kernel
theorem dX0_canJoin_39 : decode cX0_canJoin 39 = .ok (.aload_n 0, 1) := by decide +kernel
theorem dX0_canJoin_40 : decode cX0_canJoin 40 = .ok (.getfield 9, 3) := by decide +kernel
theorem dX0_canJoin_43 : decode cX0_canJoin 43 = .ok (.iload_n 1, 1) := by decide +kernel
theorem dX0_canJoin_44 : decode cX0_canJoin 44 = .ok (.iaload, 1) := by decide +kernel
theorem dX0_canJoin_45 : decode cX0_canJoin 45 = .ok (.ifCond .eq 27, 3) := by decide +kernel
theorem dX0_canJoin_48 : decode cX0_canJoin 48 = .ok (.aload_n 0, 1) := by decide +kernel
theorem dX0_canJoin_49 : decode cX0_canJoin 49 = .ok (.getfield 9, 3) := by decide +kernel
theorem dX0_canJoin_52 : decode cX0_canJoin 52 = .ok (.iload_n 2, 1) := by decide +kernel
theorem dX0_canJoin_53 : decode cX0_canJoin 53 = .ok (.iaload, 1) := by decide +kernel
theorem dX0_canJoin_54 : decode cX0_canJoin 54 = .ok (.ifCond .eq 18, 3) := by decide +kernel
theorem dX0_canJoin_57 : decode cX0_canJoin 57 = .ok (.aload_n 0, 1) := by decide +kernel
theorem dX0_canJoin_58 : decode cX0_canJoin 58 = .ok (.getfield 9, 3) := by decide +kernel
theorem dX0_canJoin_61 : decode cX0_canJoin 61 = .ok (.iload_n 1, 1) := by decide +kernel
theorem dX0_canJoin_62 : decode cX0_canJoin 62 = .ok (.iaload, 1) := by decide +kernel
theorem dX0_canJoin_63 : decode cX0_canJoin 63 = .ok (.aload_n 0, 1) := by decide +kernel
theorem dX0_canJoin_64 : decode cX0_canJoin 64 = .ok (.getfield 9, 3) := by decide +kernel
theorem dX0_canJoin_67 : decode cX0_canJoin 67 = .ok (.iload_n 2, 1) := by decide +kernel
theorem dX0_canJoin_68 : decode cX0_canJoin 68 = .ok (.iaload, 1) := by decide +kernel
theorem dX0_canJoin_69 : decode cX0_canJoin 69 = .ok (.if_icmp .ne 7, 3) := by decide +kernel
theorem dX0_canJoin_72 : decode cX0_canJoin 72 = .ok (.iconst 1, 1) := by decide +kernel
theorem dX0_canJoin_73 : decode cX0_canJoin 73 = .ok (.goto 4, 3) := by decide +kernel
theorem dX0_canJoin_76 : decode cX0_canJoin 76 = .ok (.iconst 0, 1) := by decide +kernel
theorem dX0_canJoin_77 : decode cX0_canJoin 77 = .ok (.ireturn, 1) := by decide +kernel
theorem dX0_join_0 : decode cX0_join 0 = .ok (.aload_n 0, 1) := by decide +kernel
theorem dX0_join_1 : decode cX0_join 1 = .ok (.iload_n 1, 1) := by decide +kernel
theorem dX0_join_2 : decode cX0_join 2 = .ok (.invokevirtual 36, 3) := by decide +kernel
theorem dX0_join_5 : decode cX0_join 5 = .ok (.ifCond .eq 11, 3) := by decide +kernel
theorem dX0_join_8 : decode cX0_join 8 = .ok (.aload_n 0, 1) := by decide +kernel
theorem dX0_join_9 : decode cX0_join 9 = .ok (.iload_n 2, 1) := by decide +kernel
theorem dX0_join_10 : decode cX0_join 10 = .ok (.invokevirtual 36, 3) := by decide +kernel
theorem dX0_join_13 : decode cX0_join 13 = .ok (.ifCond .ne 4, 3) := by decide +kernel
theorem dX0_join_16 : decode cX0_join 16 = .ok (.return_, 1) := by decide +kernel
theorem dX0_join_17 : decode cX0_join 17 = .ok (.aload_n 0, 1) := by decide +kernel
theorem dX0_join_18 : decode cX0_join 18 = .ok (.getfield 15, 3) := by decide +kernel
theorem dX0_join_21 : decode cX0_join 21 = .ok (.iload_n 1, 1) := by decide +kernel
theorem dX0_join_22 : decode cX0_join 22 = .ok (.iload_n 2, 1) := by decide +kernel
theorem dX0_join_23 : decode cX0_join 23 = .ok (.iastore, 1) := by decide +kernel
theorem dX0_join_24 : decode cX0_join 24 = .ok (.aload_n 0, 1) := by decide +kernel
theorem dX0_join_25 : decode cX0_join 25 = .ok (.iload_n 2, 1) := by decide +kernel
theorem dX0_join_26 : decode cX0_join 26 = .ok (.aload_n 0, 1) := by decide +kernel
theorem dX0_join_27 : decode cX0_join 27 = .ok (.getfield 9, 3) := by decide +kernel
theorem dX0_join_30 : decode cX0_join 30 = .ok (.iload_n 1, 1) := by decide +kernel
theorem dX0_join_31 : decode cX0_join 31 = .ok (.iaload, 1) := by decide +kernel
theorem dX0_join_32 : decode cX0_join 32 = .ok (.invokevirtual 47, 3) := by decide +kernel
theorem dX0_join_35 : decode cX0_join 35 = .ok (.aload_n 0, 1) := by decide +kernel
theorem dX0_join_36 : decode cX0_join 36 = .ok (.iload_n 2, 1) := by decide +kernel
theorem dX0_join_37 : decode cX0_join 37 = .ok (.aload_n 0, 1) := by decide +kernel
theorem dX0_join_38 : decode cX0_join 38 = .ok (.getfield 21, 3) := by decide +kernel
theorem dX0_join_41 : decode cX0_join 41 = .ok (.iload_n 1, 1) := by decide +kernel
theorem dX0_join_42 : decode cX0_join 42 = .ok (.iaload, 1) := by decide +kernel
theorem dX0_join_43 : decode cX0_join 43 = .ok (.invokevirtual 51, 3) := by decide +kernel
theorem dX0_join_46 : decode cX0_join 46 = .ok (.iconst 0, 1) := by decide +kernel
theorem dX0_join_47 : decode cX0_join 47 = .ok (.istore_n 3, 1) := by decide +kernel
theorem dX0_join_48 : decode cX0_join 48 = .ok (.iload_n 3, 1) := by decide +kernel
theorem dX0_join_49 : decode cX0_join 49 = .ok (.aload_n 0, 1) := by decide +kernel
theorem dX0_join_50 : decode cX0_join 50 = .ok (.getfield 24, 3) := by decide +kernel
theorem dX0_join_53 : decode cX0_join 53 = .ok (.if_icmp .ge 44, 3) := by decide +kernel
theorem dX0_join_56 : decode cX0_join 56 = .ok (.aload_n 0, 1) := by decide +kernel
theorem dX0_join_57 : decode cX0_join 57 = .ok (.getfield 18, 3) := by decide +kernel
theorem dX0_join_60 : decode cX0_join 60 = .ok (.iload_n 3, 1) := by decide +kernel
theorem dX0_join_61 : decode cX0_join 61 = .ok (.iaload, 1) := by decide +kernel
theorem dX0_join_62 : decode cX0_join 62 = .ok (.iconst 1, 1) := by decide +kernel
theorem dX0_join_63 : decode cX0_join 63 = .ok (.iload_n 1, 1) := by decide +kernel
theorem dX0_join_64 : decode cX0_join 64 = .ok (.ishl, 1) := by decide +kernel
theorem dX0_join_65 : decode cX0_join 65 = .ok (.iand, 1) := by decide +kernel
theorem dX0_join_66 : decode cX0_join 66 = .ok (.ifCond .eq 25, 3) := by decide +kernel
theorem dX0_join_69 : decode cX0_join 69 = .ok (.aload_n 0, 1) := by decide +kernel
theorem dX0_join_70 : decode cX0_join 70 = .ok (.getfield 18, 3) := by decide +kernel
theorem dX0_join_73 : decode cX0_join 73 = .ok (.iload_n 3, 1) := by decide +kernel
theorem dX0_join_74 : decode cX0_join 74 = .ok (.aload_n 0, 1) := by decide +kernel
theorem dX0_join_75 : decode cX0_join 75 = .ok (.getfield 18, 3) := by decide +kernel
theorem dX0_join_78 : decode cX0_join 78 = .ok (.iload_n 3, 1) := by decide +kernel
theorem dX0_join_79 : decode cX0_join 79 = .ok (.iaload, 1) := by decide +kernel
theorem dX0_join_80 : decode cX0_join 80 = .ok (.iconst 1, 1) := by decide +kernel
theorem dX0_join_81 : decode cX0_join 81 = .ok (.iload_n 1, 1) := by decide +kernel
theorem dX0_join_82 : decode cX0_join 82 = .ok (.ishl, 1) := by decide +kernel
theorem dX0_join_83 : decode cX0_join 83 = .ok (.iconst (-1), 1) := by decide +kernel
theorem dX0_join_84 : decode cX0_join 84 = .ok (.ixor, 1) := by decide +kernel
theorem dX0_join_85 : decode cX0_join 85 = .ok (.iand, 1) := by decide +kernel
theorem dX0_join_86 : decode cX0_join 86 = .ok (.iconst 1, 1) := by decide +kernel
theorem dX0_join_87 : decode cX0_join 87 = .ok (.iload_n 2, 1) := by decide +kernel
theorem dX0_join_88 : decode cX0_join 88 = .ok (.ishl, 1) := by decide +kernel
theorem dX0_join_89 : decode cX0_join 89 = .ok (.ior, 1) := by decide +kernel
theorem dX0_join_90 : decode cX0_join 90 = .ok (.iastore, 1) := by decide +kernel
theorem dX0_join_91 : decode cX0_join 91 = .ok (.iinc 3 1, 3) := by decide +kernel
theorem dX0_join_94 : decode cX0_join 94 = .ok (.goto (-46), 3) := by decide +kernel
theorem dX0_join_97 : decode cX0_join 97 = .ok (.return_, 1) := by decide +kernel
theorem dX1_init_0 : decode cX1_init 0 = .ok (.aload_n 0, 1) := by decide +kernel
theorem dX1_init_1 : decode cX1_init 1 = .ok (.invokespecial 3, 3) := by decide +kernel
theorem dX1_init_4 : decode cX1_init 4 = .ok (.aload_n 0, 1) := by decide +kernel
theorem dX1_init_5 : decode cX1_init 5 = .ok (.aload_n 1, 1) := by decide +kernel
theorem dX1_init_6 : decode cX1_init 6 = .ok (.putfield 9, 3) := by decide +kernel
theorem dX1_init_9 : decode cX1_init 9 = .ok (.aload_n 0, 1) := by decide +kernel
theorem dX1_init_10 : decode cX1_init 10 = .ok (.bipush 80, 2) := by decide +kernel
theorem dX1_init_12 : decode cX1_init 12 = .ok (.newarray .int, 2) := by decide +kernel
theorem dX1_init_14 : decode cX1_init 14 = .ok (.putfield 15, 3) := by decide +kernel
theorem dX1_init_17 : decode cX1_init 17 = .ok (.aload_n 0, 1) := by decide +kernel
theorem dX1_init_18 : decode cX1_init 18 = .ok (.bipush 80, 2) := by decide +kernel
theorem dX1_init_20 : decode cX1_init 20 = .ok (.newarray .int, 2) := by decide +kernel
theorem dX1_init_22 : decode cX1_init 22 = .ok (.putfield 19, 3) := by decide +kernel
theorem dX1_init_25 : decode cX1_init 25 = .ok (.aload_n 0, 1) := by decide +kernel
theorem dX1_init_26 : decode cX1_init 26 = .ok (.bipush 80, 2) := by decide +kernel
theorem dX1_init_28 : decode cX1_init 28 = .ok (.newarray .int, 2) := by decide +kernel
theorem dX1_init_30 : decode cX1_init 30 = .ok (.putfield 22, 3) := by decide +kernel
theorem dX1_init_33 : decode cX1_init 33 = .ok (.aload_n 0, 1) := by decide +kernel
theorem dX1_init_34 : decode cX1_init 34 = .ok (.bipush 80, 2) := by decide +kernel
theorem dX1_init_36 : decode cX1_init 36 = .ok (.newarray .int, 2) := by decide +kernel
theorem dX1_init_38 : decode cX1_init 38 = .ok (.putfield 25, 3) := by decide +kernel
theorem dX1_init_41 : decode cX1_init 41 = .ok (.aload_n 0, 1) := by decide +kernel
theorem dX1_init_42 : decode cX1_init 42 = .ok (.bipush 80, 2) := by decide +kernel
theorem dX1_init_44 : decode cX1_init 44 = .ok (.newarray .int, 2) := by decide +kernel
theorem dX1_init_46 : decode cX1_init 46 = .ok (.putfield 28, 3) := by decide +kernel
theorem dX1_init_49 : decode cX1_init 49 = .ok (.aload_n 0, 1) := by decide +kernel
theorem dX1_init_50 : decode cX1_init 50 = .ok (.bipush 80, 2) := by decide +kernel
theorem dX1_init_52 : decode cX1_init 52 = .ok (.newarray .int, 2) := by decide +kernel
theorem dX1_init_54 : decode cX1_init 54 = .ok (.putfield 31, 3) := by decide +kernel
theorem dX1_init_57 : decode cX1_init 57 = .ok (.aload_n 0, 1) := by decide +kernel
theorem dX1_init_58 : decode cX1_init 58 = .ok (.bipush 80, 2) := by decide +kernel
theorem dX1_init_60 : decode cX1_init 60 = .ok (.newarray .int, 2) := by decide +kernel
theorem dX1_init_62 : decode cX1_init 62 = .ok (.putfield 34, 3) := by decide +kernel
theorem dX1_init_65 : decode cX1_init 65 = .ok (.aload_n 0, 1) := by decide +kernel
theorem dX1_init_66 : decode cX1_init 66 = .ok (.iconst 0, 1) := by decide +kernel
theorem dX1_init_67 : decode cX1_init 67 = .ok (.putfield 37, 3) := by decide +kernel
theorem dX1_init_70 : decode cX1_init 70 = .ok (.aload_n 0, 1) := by decide +kernel
theorem dX1_init_71 : decode cX1_init 71 = .ok (.iconst 0, 1) := by decide +kernel
theorem dX1_init_72 : decode cX1_init 72 = .ok (.putfield 41, 3) := by decide +kernel
theorem dX1_init_75 : decode cX1_init 75 = .ok (.return_, 1) := by decide +kernel
theorem dX1_gather_0 : decode cX1_gather 0 = .ok (.aload_n 0, 1) := by decide +kernel
theorem dX1_gather_1 : decode cX1_gather 1 = .ok (.iconst 0, 1) := by decide +kernel
theorem dX1_gather_2 : decode cX1_gather 2 = .ok (.putfield 37, 3) := by decide +kernel
theorem dX1_gather_5 : decode cX1_gather 5 = .ok (.aload_n 0, 1) := by decide +kernel
theorem dX1_gather_6 : decode cX1_gather 6 = .ok (.iconst 0, 1) := by decide +kernel
theorem dX1_gather_7 : decode cX1_gather 7 = .ok (.putfield 41, 3) := by decide +kernel
theorem dX1_gather_10 : decode cX1_gather 10 = .ok (.iconst 0, 1) := by decide +kernel
theorem dX1_gather_11 : decode cX1_gather 11 = .ok (.istore_n 2, 1) := by decide +kernel
theorem dX1_gather_12 : decode cX1_gather 12 = .ok (.iload_n 2, 1) := by decide +kernel
theorem dX1_gather_13 : decode cX1_gather 13 = .ok (.aload_n 0, 1) := by decide +kernel
theorem dX1_gather_14 : decode cX1_gather 14 = .ok (.getfield 9, 3) := by decide +kernel
theorem dX1_gather_17 : decode cX1_gather 17 = .ok (.invokevirtual 45, 3) := by decide +kernel
theorem dX1_gather_20 : decode cX1_gather 20 = .ok (.if_icmp .ge 95, 3) := by decide +kernel
theorem dX1_gather_23 : decode cX1_gather 23 = .ok (.aload_n 0, 1) := by decide +kernel
theorem dX1_gather_24 : decode cX1_gather 24 = .ok (.getfield 9, 3) := by decide +kernel
theorem dX1_gather_27 : decode cX1_gather 27 = .ok (.iload_n 2, 1) := by decide +kernel
theorem dX1_gather_28 : decode cX1_gather 28 = .ok (.invokevirtual 51, 3) := by decide +kernel
theorem dX1_gather_31 : decode cX1_gather 31 = .ok (.istore_n 3, 1) := by decide +kernel
theorem dX1_gather_32 : decode cX1_gather 32 = .ok (.iconst (-1), 1) := by decide +kernel
theorem dX1_gather_33 : decode cX1_gather 33 = .ok (.istore 4, 2) := by decide +kernel
theorem dX1_gather_35 : decode cX1_gather 35 = .ok (.iload_n 3, 1) := by decide +kernel
theorem dX1_gather_36 : decode cX1_gather 36 = .ok (.ifCond .eq 9, 3) := by decide +kernel
theorem dX1_gather_39 : decode cX1_gather 39 = .ok (.iload_n 3, 1) := by decide +kernel
theorem dX1_gather_40 : decode cX1_gather 40 = .ok (.bipush 8, 2) := by decide +kernel
theorem dX1_gather_42 : decode cX1_gather 42 = .ok (.if_icmp .ne 32, 3) := by decide +kernel
theorem dX1_gather_45 : decode cX1_gather 45 = .ok (.aload_n 1, 1) := by decide +kernel
theorem dX1_gather_46 : decode cX1_gather 46 = .ok (.aload_n 0, 1) := by decide +kernel
theorem dX1_gather_47 : decode cX1_gather 47 = .ok (.getfield 9, 3) := by decide +kernel
theorem dX1_gather_50 : decode cX1_gather 50 = .ok (.invokevirtual 55, 3) := by decide +kernel
theorem dX1_gather_53 : decode cX1_gather 53 = .ok (.aload_n 0, 1) := by decide +kernel
theorem dX1_gather_54 : decode cX1_gather 54 = .ok (.getfield 9, 3) := by decide +kernel
theorem dX1_gather_57 : decode cX1_gather 57 = .ok (.iload_n 2, 1) := by decide +kernel
theorem dX1_gather_58 : decode cX1_gather 58 = .ok (.invokevirtual 59, 3) := by decide +kernel
theorem dX1_gather_61 : decode cX1_gather 61 = .ok (.aload_n 0, 1) := by decide +kernel
theorem dX1_gather_62 : decode cX1_gather 62 = .ok (.getfield 9, 3) := by decide +kernel
theorem dX1_gather_65 : decode cX1_gather 65 = .ok (.iload_n 2, 1) := by decide +kernel
theorem dX1_gather_66 : decode cX1_gather 66 = .ok (.invokevirtual 62, 3) := by decide +kernel
theorem dX1_gather_69 : decode cX1_gather 69 = .ok (.invokevirtual 65, 3) := by decide +kernel
theorem dX1_gather_72 : decode cX1_gather 72 = .ok (.istore 4, 2) := by decide +kernel
theorem dX1_gather_74 : decode cX1_gather 74 = .ok (.iload_n 3, 1) := by decide +kernel
theorem dX1_gather_75 : decode cX1_gather 75 = .ok (.bipush 8, 2) := by decide +kernel
theorem dX1_gather_77 : decode cX1_gather 77 = .ok (.if_icmp .ne 11, 3) := by decide +kernel
theorem dX1_gather_80 : decode cX1_gather 80 = .ok (.iload 4, 2) := by decide +kernel
theorem dX1_gather_82 : decode cX1_gather 82 = .ok (.iconst (-1), 1) := by decide +kernel
theorem dX1_gather_83 : decode cX1_gather 83 = .ok (.if_icmp .eq 5, 3) := by decide +kernel
theorem dX1_gather_86 : decode cX1_gather 86 = .ok (.iconst 0, 1) := by decide +kernel
theorem dX1_gather_87 : decode cX1_gather 87 = .ok (.istore_n 3, 1) := by decide +kernel
theorem dX1_gather_88 : decode cX1_gather 88 = .ok (.iload_n 3, 1) := by decide +kernel
theorem dX1_gather_89 : decode cX1_gather 89 = .ok (.ifCond .lt 20, 3) := by decide +kernel
theorem dX1_gather_92 : decode cX1_gather 92 = .ok (.iload_n 3, 1) := by decide +kernel
theorem dX1_gather_93 : decode cX1_gather 93 = .ok (.iconst 4, 1) := by decide +kernel
theorem dX1_gather_94 : decode cX1_gather 94 = .ok (.if_icmp .gt 15, 3) := by decide +kernel
theorem dX1_gather_97 : decode cX1_gather 97 = .ok (.aload_n 0, 1) := by decide +kernel
theorem dX1_gather_98 : decode cX1_gather 98 = .ok (.iload_n 2, 1) := by decide +kernel
theorem dX1_gather_99 : decode cX1_gather 99 = .ok (.iload_n 3, 1) := by decide +kernel
theorem dX1_gather_100 : decode cX1_gather 100 = .ok (.aload_n 1, 1) := by decide +kernel
theorem dX1_gather_101 : decode cX1_gather 101 = .ok (.iload 4, 2) := by decide +kernel
theorem dX1_gather_103 : decode cX1_gather 103 = .ok (.invokevirtual 71, 3) := by decide +kernel
theorem dX1_gather_106 : decode cX1_gather 106 = .ok (.invokevirtual 74, 3) := by decide +kernel
theorem dX1_gather_109 : decode cX1_gather 109 = .ok (.iinc 2 1, 3) := by decide +kernel
theorem dX1_gather_112 : decode cX1_gather 112 = .ok (.goto (-100), 3) := by decide +kernel
theorem dX1_gather_115 : decode cX1_gather 115 = .ok (.return_, 1) := by decide +kernel
theorem dX1_add_0 : decode cX1_add 0 = .ok (.aload_n 0, 1) := by decide +kernel
theorem dX1_add_1 : decode cX1_add 1 = .ok (.getfield 37, 3) := by decide +kernel
theorem dX1_add_4 : decode cX1_add 4 = .ok (.bipush 80, 2) := by decide +kernel
theorem dX1_add_6 : decode cX1_add 6 = .ok (.if_icmp .lt 9, 3) := by decide +kernel
theorem dX1_add_9 : decode cX1_add 9 = .ok (.aload_n 0, 1) := by decide +kernel
theorem dX1_add_10 : decode cX1_add 10 = .ok (.iconst 1, 1) := by decide +kernel
theorem dX1_add_11 : decode cX1_add 11 = .ok (.putfield 41, 3) := by decide +kernel
theorem dX1_add_14 : decode cX1_add 14 = .ok (.return_, 1) := by decide +kernel
theorem dX1_add_15 : decode cX1_add 15 = .ok (.aload_n 0, 1) := by decide +kernel
theorem dX1_add_16 : decode cX1_add 16 = .ok (.getfield 15, 3) := by decide +kernel
theorem dX1_add_19 : decode cX1_add 19 = .ok (.aload_n 0, 1) := by decide +kernel
theorem dX1_add_20 : decode cX1_add 20 = .ok (.getfield 37, 3) := by decide +kernel
theorem dX1_add_23 : decode cX1_add 23 = .ok (.iload_n 1, 1) := by decide +kernel
theorem dX1_add_24 : decode cX1_add 24 = .ok (.iastore, 1) := by decide +kernel
theorem dX1_add_25 : decode cX1_add 25 = .ok (.aload_n 0, 1) := by decide +kernel
theorem dX1_add_26 : decode cX1_add 26 = .ok (.getfield 19, 3) := by decide +kernel
theorem dX1_add_29 : decode cX1_add 29 = .ok (.aload_n 0, 1) := by decide +kernel
theorem dX1_add_30 : decode cX1_add 30 = .ok (.getfield 37, 3) := by decide +kernel
theorem dX1_add_33 : decode cX1_add 33 = .ok (.aload_n 0, 1) := by decide +kernel
theorem dX1_add_34 : decode cX1_add 34 = .ok (.getfield 9, 3) := by decide +kernel
theorem dX1_add_37 : decode cX1_add 37 = .ok (.iload_n 1, 1) := by decide +kernel
theorem dX1_add_38 : decode cX1_add 38 = .ok (.invokevirtual 59, 3) := by decide +kernel
theorem dX1_add_41 : decode cX1_add 41 = .ok (.iastore, 1) := by decide +kernel
theorem dX1_add_42 : decode cX1_add 42 = .ok (.aload_n 0, 1) := by decide +kernel
theorem dX1_add_43 : decode cX1_add 43 = .ok (.getfield 22, 3) := by decide +kernel
theorem dX1_add_46 : decode cX1_add 46 = .ok (.aload_n 0, 1) := by decide +kernel
theorem dX1_add_47 : decode cX1_add 47 = .ok (.getfield 37, 3) := by decide +kernel
theorem dX1_add_50 : decode cX1_add 50 = .ok (.aload_n 0, 1) := by decide +kernel
theorem dX1_add_51 : decode cX1_add 51 = .ok (.getfield 9, 3) := by decide +kernel
theorem dX1_add_54 : decode cX1_add 54 = .ok (.iload_n 1, 1) := by decide +kernel
theorem dX1_add_55 : decode cX1_add 55 = .ok (.invokevirtual 62, 3) := by decide +kernel
theorem dX1_add_58 : decode cX1_add 58 = .ok (.iastore, 1) := by decide +kernel
theorem dX1_add_59 : decode cX1_add 59 = .ok (.aload_n 0, 1) := by decide +kernel
theorem dX1_add_60 : decode cX1_add 60 = .ok (.getfield 25, 3) := by decide +kernel
theorem dX1_add_63 : decode cX1_add 63 = .ok (.aload_n 0, 1) := by decide +kernel
theorem dX1_add_64 : decode cX1_add 64 = .ok (.getfield 37, 3) := by decide +kernel
theorem dX1_add_67 : decode cX1_add 67 = .ok (.aload_n 0, 1) := by decide +kernel
theorem dX1_add_68 : decode cX1_add 68 = .ok (.getfield 9, 3) := by decide +kernel
theorem dX1_add_71 : decode cX1_add 71 = .ok (.iload_n 1, 1) := by decide +kernel
theorem dX1_add_72 : decode cX1_add 72 = .ok (.invokevirtual 78, 3) := by decide +kernel
theorem dX1_add_75 : decode cX1_add 75 = .ok (.iastore, 1) := by decide +kernel
theorem dX1_add_76 : decode cX1_add 76 = .ok (.aload_n 0, 1) := by decide +kernel
theorem dX1_add_77 : decode cX1_add 77 = .ok (.getfield 28, 3) := by decide +kernel
theorem dX1_add_80 : decode cX1_add 80 = .ok (.aload_n 0, 1) := by decide +kernel
theorem dX1_add_81 : decode cX1_add 81 = .ok (.getfield 37, 3) := by decide +kernel
theorem dX1_add_84 : decode cX1_add 84 = .ok (.iload_n 2, 1) := by decide +kernel
theorem dX1_add_85 : decode cX1_add 85 = .ok (.iastore, 1) := by decide +kernel
theorem dX1_add_86 : decode cX1_add 86 = .ok (.aload_n 0, 1) := by decide +kernel
theorem dX1_add_87 : decode cX1_add 87 = .ok (.getfield 31, 3) := by decide +kernel
theorem dX1_add_90 : decode cX1_add 90 = .ok (.aload_n 0, 1) := by decide +kernel
theorem dX1_add_91 : decode cX1_add 91 = .ok (.getfield 37, 3) := by decide +kernel
theorem dX1_add_94 : decode cX1_add 94 = .ok (.aload_n 0, 1) := by decide +kernel
theorem dX1_add_95 : decode cX1_add 95 = .ok (.iload_n 1, 1) := by decide +kernel
theorem dX1_add_96 : decode cX1_add 96 = .ok (.iload_n 2, 1) := by decide +kernel
theorem dX1_add_97 : decode cX1_add 97 = .ok (.invokevirtual 81, 3) := by decide +kernel
theorem dX1_add_100 : decode cX1_add 100 = .ok (.iastore, 1) := by decide +kernel
theorem dX1_add_101 : decode cX1_add 101 = .ok (.aload_n 0, 1) := by decide +kernel
theorem dX1_add_102 : decode cX1_add 102 = .ok (.getfield 34, 3) := by decide +kernel
theorem dX1_add_105 : decode cX1_add 105 = .ok (.aload_n 0, 1) := by decide +kernel
theorem dX1_add_106 : decode cX1_add 106 = .ok (.getfield 37, 3) := by decide +kernel
theorem dX1_add_109 : decode cX1_add 109 = .ok (.iload_n 3, 1) := by decide +kernel
theorem dX1_add_110 : decode cX1_add 110 = .ok (.iastore, 1) := by decide +kernel
theorem dX1_add_111 : decode cX1_add 111 = .ok (.aload_n 0, 1) := by decide +kernel
theorem dX1_add_112 : decode cX1_add 112 = .ok (.dup, 1) := by decide +kernel
theorem dX1_add_113 : decode cX1_add 113 = .ok (.getfield 37, 3) := by decide +kernel
theorem dX1_add_116 : decode cX1_add 116 = .ok (.iconst 1, 1) := by decide +kernel
theorem dX1_add_117 : decode cX1_add 117 = .ok (.iadd, 1) := by decide +kernel
theorem dX1_add_118 : decode cX1_add 118 = .ok (.putfield 37, 3) := by decide +kernel
theorem dX1_add_121 : decode cX1_add 121 = .ok (.return_, 1) := by decide +kernel
theorem dX1_linkAhead_0 : decode cX1_linkAhead 0 = .ok (.aload_n 0, 1) := by decide +kernel
theorem dX1_linkAhead_1 : decode cX1_linkAhead 1 = .ok (.getfield 37, 3) := by decide +kernel
theorem dX1_linkAhead_4 : decode cX1_linkAhead 4 = .ok (.iconst 1, 1) := by decide +kernel
theorem dX1_linkAhead_5 : decode cX1_linkAhead 5 = .ok (.isub, 1) := by decide +kernel
theorem dX1_linkAhead_6 : decode cX1_linkAhead 6 = .ok (.istore_n 3, 1) := by decide +kernel
theorem dX1_linkAhead_7 : decode cX1_linkAhead 7 = .ok (.iload_n 2, 1) := by decide +kernel
theorem dX1_linkAhead_8 : decode cX1_linkAhead 8 = .ok (.ifCond .ne 23, 3) := by decide +kernel
theorem dX1_linkAhead_11 : decode cX1_linkAhead 11 = .ok (.aload_n 0, 1) := by decide +kernel
theorem dX1_linkAhead_12 : decode cX1_linkAhead 12 = .ok (.iload_n 3, 1) := by decide +kernel
theorem dX1_linkAhead_13 : decode cX1_linkAhead 13 = .ok (.invokevirtual 85, 3) := by decide +kernel
theorem dX1_linkAhead_16 : decode cX1_linkAhead 16 = .ok (.ifCond .ne 15, 3) := by decide +kernel
theorem dX1_linkAhead_19 : decode cX1_linkAhead 19 = .ok (.aload_n 0, 1) := by decide +kernel
theorem dX1_linkAhead_20 : decode cX1_linkAhead 20 = .ok (.getfield 15, 3) := by decide +kernel
theorem dX1_linkAhead_23 : decode cX1_linkAhead 23 = .ok (.iload_n 3, 1) := by decide +kernel
theorem dX1_linkAhead_24 : decode cX1_linkAhead 24 = .ok (.iaload, 1) := by decide +kernel
theorem dX1_linkAhead_25 : decode cX1_linkAhead 25 = .ok (.iload_n 1, 1) := by decide +kernel
theorem dX1_linkAhead_26 : decode cX1_linkAhead 26 = .ok (.iconst 2, 1) := by decide +kernel
theorem dX1_linkAhead_27 : decode cX1_linkAhead 27 = .ok (.isub, 1) := by decide +kernel
theorem dX1_linkAhead_28 : decode cX1_linkAhead 28 = .ok (.if_icmp .eq 5, 3) := by decide +kernel
theorem dX1_linkAhead_31 : decode cX1_linkAhead 31 = .ok (.iconst 5, 1) := by decide +kernel
theorem dX1_linkAhead_32 : decode cX1_linkAhead 32 = .ok (.ireturn, 1) := by decide +kernel
theorem dX1_linkAhead_33 : decode cX1_linkAhead 33 = .ok (.aload_n 0, 1) := by decide +kernel
theorem dX1_linkAhead_34 : decode cX1_linkAhead 34 = .ok (.getfield 9, 3) := by decide +kernel
theorem dX1_linkAhead_37 : decode cX1_linkAhead 37 = .ok (.iload_n 1, 1) := by decide +kernel
theorem dX1_linkAhead_38 : decode cX1_linkAhead 38 = .ok (.iconst 1, 1) := by decide +kernel
theorem dX1_linkAhead_39 : decode cX1_linkAhead 39 = .ok (.isub, 1) := by decide +kernel
theorem dX1_linkAhead_40 : decode cX1_linkAhead 40 = .ok (.invokevirtual 51, 3) := by decide +kernel
theorem dX1_linkAhead_43 : decode cX1_linkAhead 43 = .ok (.istore 4, 2) := by decide +kernel
theorem dX1_linkAhead_45 : decode cX1_linkAhead 45 = .ok (.iload 4, 2) := by decide +kernel
theorem dX1_linkAhead_47 : decode cX1_linkAhead 47 = .ok (.bipush 6, 2) := by decide +kernel
theorem dX1_linkAhead_49 : decode cX1_linkAhead 49 = .ok (.if_icmp .eq 10, 3) := by decide +kernel
theorem dX1_linkAhead_52 : decode cX1_linkAhead 52 = .ok (.iload 4, 2) := by decide +kernel
theorem dX1_linkAhead_54 : decode cX1_linkAhead 54 = .ok (.bipush 7, 2) := by decide +kernel
theorem dX1_linkAhead_56 : decode cX1_linkAhead 56 = .ok (.if_icmp .ne 24, 3) := by decide +kernel
theorem dX1_linkAhead_59 : decode cX1_linkAhead 59 = .ok (.aload_n 0, 1) := by decide +kernel
theorem dX1_linkAhead_60 : decode cX1_linkAhead 60 = .ok (.getfield 25, 3) := by decide +kernel
theorem dX1_linkAhead_63 : decode cX1_linkAhead 63 = .ok (.iload_n 3, 1) := by decide +kernel
theorem dX1_linkAhead_64 : decode cX1_linkAhead 64 = .ok (.iaload, 1) := by decide +kernel
theorem dX1_linkAhead_65 : decode cX1_linkAhead 65 = .ok (.aload_n 0, 1) := by decide +kernel
theorem dX1_linkAhead_66 : decode cX1_linkAhead 66 = .ok (.getfield 9, 3) := by decide +kernel
theorem dX1_linkAhead_69 : decode cX1_linkAhead 69 = .ok (.iload_n 1, 1) := by decide +kernel
theorem dX1_linkAhead_70 : decode cX1_linkAhead 70 = .ok (.invokevirtual 78, 3) := by decide +kernel
theorem dX1_linkAhead_73 : decode cX1_linkAhead 73 = .ok (.if_icmp .ne 7, 3) := by decide +kernel
theorem dX1_linkAhead_76 : decode cX1_linkAhead 76 = .ok (.iconst 1, 1) := by decide +kernel
theorem dX1_linkAhead_77 : decode cX1_linkAhead 77 = .ok (.goto 4, 3) := by decide +kernel
theorem dX1_linkAhead_80 : decode cX1_linkAhead 80 = .ok (.iconst 0, 1) := by decide +kernel
theorem dX1_linkAhead_81 : decode cX1_linkAhead 81 = .ok (.istore 5, 2) := by decide +kernel
theorem dX1_linkAhead_83 : decode cX1_linkAhead 83 = .ok (.iload 5, 2) := by decide +kernel
theorem dX1_linkAhead_85 : decode cX1_linkAhead 85 = .ok (.ifCond .eq 8, 3) := by decide +kernel
theorem dX1_linkAhead_88 : decode cX1_linkAhead 88 = .ok (.iload 4, 2) := by decide +kernel
theorem dX1_linkAhead_90 : decode cX1_linkAhead 90 = .ok (.goto 4, 3) := by decide +kernel
theorem dX1_linkAhead_93 : decode cX1_linkAhead 93 = .ok (.iconst 5, 1) := by decide +kernel
theorem dX1_linkAhead_94 : decode cX1_linkAhead 94 = .ok (.ireturn, 1) := by decide +kernel
theorem dX1_size_0 : decode cX1_size 0 = .ok (.aload_n 0, 1) := by decide +kernel
theorem dX1_size_1 : decode cX1_size 1 = .ok (.getfield 37, 3) := by decide +kernel
theorem dX1_size_4 : decode cX1_size 4 = .ok (.ireturn, 1) := by decide +kernel
theorem dX1_isCut_0 : decode cX1_isCut 0 = .ok (.aload_n 0, 1) := by decide +kernel
theorem dX1_isCut_1 : decode cX1_isCut 1 = .ok (.getfield 41, 3) := by decide +kernel
theorem dX1_isCut_4 : decode cX1_isCut 4 = .ok (.ireturn, 1) := by decide +kernel
theorem dX1_has_0 : decode cX1_has 0 = .ok (.iload_n 1, 1) := by decide +kernel
theorem dX1_has_1 : decode cX1_has 1 = .ok (.ifCond .lt 15, 3) := by decide +kernel
theorem dX1_has_4 : decode cX1_has 4 = .ok (.iload_n 1, 1) := by decide +kernel
theorem dX1_has_5 : decode cX1_has 5 = .ok (.aload_n 0, 1) := by decide +kernel
theorem dX1_has_6 : decode cX1_has 6 = .ok (.getfield 37, 3) := by decide +kernel
theorem dX1_has_9 : decode cX1_has 9 = .ok (.if_icmp .ge 7, 3) := by decide +kernel
theorem dX1_has_12 : decode cX1_has 12 = .ok (.iconst 1, 1) := by decide +kernel
theorem dX1_has_13 : decode cX1_has 13 = .ok (.goto 4, 3) := by decide +kernel
theorem dX1_has_16 : decode cX1_has 16 = .ok (.iconst 0, 1) := by decide +kernel
theorem dX1_has_17 : decode cX1_has 17 = .ok (.ireturn, 1) := by decide +kernel
theorem dX1_placeOf_0 : decode cX1_placeOf 0 = .ok (.aload_n 0, 1) := by decide +kernel
theorem dX1_placeOf_1 : decode cX1_placeOf 1 = .ok (.iload_n 1, 1) := by decide +kernel
theorem dX1_placeOf_2 : decode cX1_placeOf 2 = .ok (.invokevirtual 86, 3) := by decide +kernel
theorem dX1_placeOf_5 : decode cX1_placeOf 5 = .ok (.ifCond .eq 12, 3) := by decide +kernel
theorem dX1_placeOf_8 : decode cX1_placeOf 8 = .ok (.aload_n 0, 1) := by decide +kernel
theorem dX1_placeOf_9 : decode cX1_placeOf 9 = .ok (.getfield 19, 3) := by decide +kernel
theorem dX1_placeOf_12 : decode cX1_placeOf 12 = .ok (.iload_n 1, 1) := by decide +kernel
theorem dX1_placeOf_13 : decode cX1_placeOf 13 = .ok (.iaload, 1) := by decide +kernel
theorem dX1_placeOf_14 : decode cX1_placeOf 14 = .ok (.goto 4, 3) := by decide +kernel
theorem dX1_placeOf_17 : decode cX1_placeOf 17 = .ok (.iconst 0, 1) := by decide +kernel
theorem dX1_placeOf_18 : decode cX1_placeOf 18 = .ok (.ireturn, 1) := by decide +kernel
theorem dX1_lengthOf_0 : decode cX1_lengthOf 0 = .ok (.aload_n 0, 1) := by decide +kernel
theorem dX1_lengthOf_1 : decode cX1_lengthOf 1 = .ok (.iload_n 1, 1) := by decide +kernel
theorem dX1_lengthOf_2 : decode cX1_lengthOf 2 = .ok (.invokevirtual 86, 3) := by decide +kernel
theorem dX1_lengthOf_5 : decode cX1_lengthOf 5 = .ok (.ifCond .eq 12, 3) := by decide +kernel
theorem dX1_lengthOf_8 : decode cX1_lengthOf 8 = .ok (.aload_n 0, 1) := by decide +kernel
theorem dX1_lengthOf_9 : decode cX1_lengthOf 9 = .ok (.getfield 22, 3) := by decide +kernel
theorem dX1_lengthOf_12 : decode cX1_lengthOf 12 = .ok (.iload_n 1, 1) := by decide +kernel
theorem dX1_lengthOf_13 : decode cX1_lengthOf 13 = .ok (.iaload, 1) := by decide +kernel
theorem dX1_lengthOf_14 : decode cX1_lengthOf 14 = .ok (.goto 4, 3) := by decide +kernel
theorem dX1_lengthOf_17 : decode cX1_lengthOf 17 = .ok (.iconst 0, 1) := by decide +kernel
theorem dX1_lengthOf_18 : decode cX1_lengthOf 18 = .ok (.ireturn, 1) := by decide +kernel
theorem dX1_sentenceOf_0 : decode cX1_sentenceOf 0 = .ok (.aload_n 0, 1) := by decide +kernel
theorem dX1_sentenceOf_1 : decode cX1_sentenceOf 1 = .ok (.iload_n 1, 1) := by decide +kernel
theorem dX1_sentenceOf_2 : decode cX1_sentenceOf 2 = .ok (.invokevirtual 86, 3) := by decide +kernel
theorem dX1_sentenceOf_5 : decode cX1_sentenceOf 5 = .ok (.ifCond .eq 12, 3) := by decide +kernel
theorem dX1_sentenceOf_8 : decode cX1_sentenceOf 8 = .ok (.aload_n 0, 1) := by decide +kernel
theorem dX1_sentenceOf_9 : decode cX1_sentenceOf 9 = .ok (.getfield 25, 3) := by decide +kernel
theorem dX1_sentenceOf_12 : decode cX1_sentenceOf 12 = .ok (.iload_n 1, 1) := by decide +kernel
theorem dX1_sentenceOf_13 : decode cX1_sentenceOf 13 = .ok (.iaload, 1) := by decide +kernel
theorem dX1_sentenceOf_14 : decode cX1_sentenceOf 14 = .ok (.goto 4, 3) := by decide +kernel
theorem dX1_sentenceOf_17 : decode cX1_sentenceOf 17 = .ok (.iconst (-1), 1) := by decide +kernel
theorem dX1_sentenceOf_18 : decode cX1_sentenceOf 18 = .ok (.ireturn, 1) := by decide +kernel
theorem dX1_kindOf_0 : decode cX1_kindOf 0 = .ok (.aload_n 0, 1) := by decide +kernel
theorem dX1_kindOf_1 : decode cX1_kindOf 1 = .ok (.iload_n 1, 1) := by decide +kernel
theorem dX1_kindOf_2 : decode cX1_kindOf 2 = .ok (.invokevirtual 86, 3) := by decide +kernel
theorem dX1_kindOf_5 : decode cX1_kindOf 5 = .ok (.ifCond .eq 12, 3) := by decide +kernel
theorem dX1_kindOf_8 : decode cX1_kindOf 8 = .ok (.aload_n 0, 1) := by decide +kernel
theorem dX1_kindOf_9 : decode cX1_kindOf 9 = .ok (.getfield 28, 3) := by decide +kernel
theorem dX1_kindOf_12 : decode cX1_kindOf 12 = .ok (.iload_n 1, 1) := by decide +kernel
theorem dX1_kindOf_13 : decode cX1_kindOf 13 = .ok (.iaload, 1) := by decide +kernel
theorem dX1_kindOf_14 : decode cX1_kindOf 14 = .ok (.goto 4, 3) := by decide +kernel
theorem dX1_kindOf_17 : decode cX1_kindOf 17 = .ok (.iconst 5, 1) := by decide +kernel
theorem dX1_kindOf_18 : decode cX1_kindOf 18 = .ok (.ireturn, 1) := by decide +kernel
theorem dX1_isName_0 : decode cX1_isName 0 = .ok (.aload_n 0, 1) := by decide +kernel
theorem dX1_isName_1 : decode cX1_isName 1 = .ok (.iload_n 1, 1) := by decide +kernel
theorem dX1_isName_2 : decode cX1_isName 2 = .ok (.invokevirtual 86, 3) := by decide +kernel
theorem dX1_isName_5 : decode cX1_isName 5 = .ok (.ifCond .eq 16, 3) := by decide +kernel
theorem dX1_isName_8 : decode cX1_isName 8 = .ok (.aload_n 0, 1) := by decide +kernel
theorem dX1_isName_9 : decode cX1_isName 9 = .ok (.getfield 28, 3) := by decide +kernel
theorem dX1_isName_12 : decode cX1_isName 12 = .ok (.iload_n 1, 1) := by decide +kernel
theorem dX1_isName_13 : decode cX1_isName 13 = .ok (.iaload, 1) := by decide +kernel
theorem dX1_isName_14 : decode cX1_isName 14 = .ok (.ifCond .ne 7, 3) := by decide +kernel
theorem dX1_isName_17 : decode cX1_isName 17 = .ok (.iconst 1, 1) := by decide +kernel
theorem dX1_isName_18 : decode cX1_isName 18 = .ok (.goto 4, 3) := by decide +kernel
theorem dX1_isName_21 : decode cX1_isName 21 = .ok (.iconst 0, 1) := by decide +kernel
theorem dX1_isName_22 : decode cX1_isName 22 = .ok (.ireturn, 1) := by decide +kernel
theorem dX1_linkOf_0 : decode cX1_linkOf 0 = .ok (.aload_n 0, 1) := by decide +kernel
theorem dX1_linkOf_1 : decode cX1_linkOf 1 = .ok (.iload_n 1, 1) := by decide +kernel
theorem dX1_linkOf_2 : decode cX1_linkOf 2 = .ok (.invokevirtual 86, 3) := by decide +kernel
theorem dX1_linkOf_5 : decode cX1_linkOf 5 = .ok (.ifCond .eq 12, 3) := by decide +kernel
theorem dX1_linkOf_8 : decode cX1_linkOf 8 = .ok (.aload_n 0, 1) := by decide +kernel
theorem dX1_linkOf_9 : decode cX1_linkOf 9 = .ok (.getfield 31, 3) := by decide +kernel
theorem dX1_linkOf_12 : decode cX1_linkOf 12 = .ok (.iload_n 1, 1) := by decide +kernel
theorem dX1_linkOf_13 : decode cX1_linkOf 13 = .ok (.iaload, 1) := by decide +kernel
theorem dX1_linkOf_14 : decode cX1_linkOf 14 = .ok (.goto 4, 3) := by decide +kernel
theorem dX1_linkOf_17 : decode cX1_linkOf 17 = .ok (.iconst 5, 1) := by decide +kernel
theorem dX1_linkOf_18 : decode cX1_linkOf 18 = .ok (.ireturn, 1) := by decide +kernel
theorem dX1_toldSexOf_0 : decode cX1_toldSexOf 0 = .ok (.aload_n 0, 1) := by decide +kernel
theorem dX1_toldSexOf_1 : decode cX1_toldSexOf 1 = .ok (.iload_n 1, 1) := by decide +kernel
theorem dX1_toldSexOf_2 : decode cX1_toldSexOf 2 = .ok (.invokevirtual 86, 3) := by decide +kernel
theorem dX1_toldSexOf_5 : decode cX1_toldSexOf 5 = .ok (.ifCond .eq 12, 3) := by decide +kernel
theorem dX1_toldSexOf_8 : decode cX1_toldSexOf 8 = .ok (.aload_n 0, 1) := by decide +kernel
theorem dX1_toldSexOf_9 : decode cX1_toldSexOf 9 = .ok (.getfield 34, 3) := by decide +kernel
theorem dX1_toldSexOf_12 : decode cX1_toldSexOf 12 = .ok (.iload_n 1, 1) := by decide +kernel
theorem dX1_toldSexOf_13 : decode cX1_toldSexOf 13 = .ok (.iaload, 1) := by decide +kernel
theorem dX1_toldSexOf_14 : decode cX1_toldSexOf 14 = .ok (.goto 4, 3) := by decide +kernel
theorem dX1_toldSexOf_17 : decode cX1_toldSexOf 17 = .ok (.iconst 0, 1) := by decide +kernel
theorem dX1_toldSexOf_18 : decode cX1_toldSexOf 18 = .ok (.ireturn, 1) := by decide +kernel
theorem dX1_beginsWith_0 : decode cX1_beginsWith 0 = .ok (.aload_n 0, 1) := by decide +kernel
theorem dX1_beginsWith_1 : decode cX1_beginsWith 1 = .ok (.iload_n 1, 1) := by decide +kernel
theorem dX1_beginsWith_2 : decode cX1_beginsWith 2 = .ok (.invokevirtual 86, 3) := by decide +kernel
theorem dX1_beginsWith_5 : decode cX1_beginsWith 5 = .ok (.ifCond .eq 68, 3) := by decide +kernel
theorem dX1_beginsWith_8 : decode cX1_beginsWith 8 = .ok (.aload_n 0, 1) := by decide +kernel
theorem dX1_beginsWith_9 : decode cX1_beginsWith 9 = .ok (.iload_n 2, 1) := by decide +kernel
theorem dX1_beginsWith_10 : decode cX1_beginsWith 10 = .ok (.invokevirtual 86, 3) := by decide +kernel
theorem dX1_beginsWith_13 : decode cX1_beginsWith 13 = .ok (.ifCond .eq 60, 3) := by decide +kernel
theorem dX1_beginsWith_16 : decode cX1_beginsWith 16 = .ok (.aload_n 0, 1) := by decide +kernel
theorem dX1_beginsWith_17 : decode cX1_beginsWith 17 = .ok (.getfield 22, 3) := by decide +kernel
theorem dX1_beginsWith_20 : decode cX1_beginsWith 20 = .ok (.iload_n 2, 1) := by decide +kernel
theorem dX1_beginsWith_21 : decode cX1_beginsWith 21 = .ok (.iaload, 1) := by decide +kernel
theorem dX1_beginsWith_22 : decode cX1_beginsWith 22 = .ok (.aload_n 0, 1) := by decide +kernel
theorem dX1_beginsWith_23 : decode cX1_beginsWith 23 = .ok (.getfield 22, 3) := by decide +kernel
theorem dX1_beginsWith_26 : decode cX1_beginsWith 26 = .ok (.iload_n 1, 1) := by decide +kernel
theorem dX1_beginsWith_27 : decode cX1_beginsWith 27 = .ok (.iaload, 1) := by decide +kernel
theorem dX1_beginsWith_28 : decode cX1_beginsWith 28 = .ok (.if_icmp .gt 45, 3) := by decide +kernel
theorem dX1_beginsWith_31 : decode cX1_beginsWith 31 = .ok (.aload_n 0, 1) := by decide +kernel
theorem dX1_beginsWith_32 : decode cX1_beginsWith 32 = .ok (.getfield 9, 3) := by decide +kernel
theorem dX1_beginsWith_35 : decode cX1_beginsWith 35 = .ok (.invokevirtual 55, 3) := by decide +kernel
theorem dX1_beginsWith_38 : decode cX1_beginsWith 38 = .ok (.aload_n 0, 1) := by decide +kernel
theorem dX1_beginsWith_39 : decode cX1_beginsWith 39 = .ok (.getfield 19, 3) := by decide +kernel
theorem dX1_beginsWith_42 : decode cX1_beginsWith 42 = .ok (.iload_n 1, 1) := by decide +kernel
theorem dX1_beginsWith_43 : decode cX1_beginsWith 43 = .ok (.iaload, 1) := by decide +kernel
theorem dX1_beginsWith_44 : decode cX1_beginsWith 44 = .ok (.aload_n 0, 1) := by decide +kernel
theorem dX1_beginsWith_45 : decode cX1_beginsWith 45 = .ok (.getfield 9, 3) := by decide +kernel
theorem dX1_beginsWith_48 : decode cX1_beginsWith 48 = .ok (.invokevirtual 55, 3) := by decide +kernel
theorem dX1_beginsWith_51 : decode cX1_beginsWith 51 = .ok (.aload_n 0, 1) := by decide +kernel
theorem dX1_beginsWith_52 : decode cX1_beginsWith 52 = .ok (.getfield 19, 3) := by decide +kernel
theorem dX1_beginsWith_55 : decode cX1_beginsWith 55 = .ok (.iload_n 2, 1) := by decide +kernel
theorem dX1_beginsWith_56 : decode cX1_beginsWith 56 = .ok (.iaload, 1) := by decide +kernel
theorem dX1_beginsWith_57 : decode cX1_beginsWith 57 = .ok (.aload_n 0, 1) := by decide +kernel
theorem dX1_beginsWith_58 : decode cX1_beginsWith 58 = .ok (.getfield 22, 3) := by decide +kernel
theorem dX1_beginsWith_61 : decode cX1_beginsWith 61 = .ok (.iload_n 2, 1) := by decide +kernel
theorem dX1_beginsWith_62 : decode cX1_beginsWith 62 = .ok (.iaload, 1) := by decide +kernel
theorem dX1_beginsWith_63 : decode cX1_beginsWith 63 = .ok (.invokevirtual 90, 3) := by decide +kernel
theorem dX1_beginsWith_66 : decode cX1_beginsWith 66 = .ok (.ifCond .eq 7, 3) := by decide +kernel
theorem dX1_beginsWith_69 : decode cX1_beginsWith 69 = .ok (.iconst 1, 1) := by decide +kernel
theorem dX1_beginsWith_70 : decode cX1_beginsWith 70 = .ok (.goto 4, 3) := by decide +kernel
theorem dX1_beginsWith_73 : decode cX1_beginsWith 73 = .ok (.iconst 0, 1) := by decide +kernel
theorem dX1_beginsWith_74 : decode cX1_beginsWith 74 = .ok (.ireturn, 1) := by decide +kernel
theorem dX1_sameName_0 : decode cX1_sameName 0 = .ok (.aload_n 0, 1) := by decide +kernel
theorem dX1_sameName_1 : decode cX1_sameName 1 = .ok (.iload_n 1, 1) := by decide +kernel
theorem dX1_sameName_2 : decode cX1_sameName 2 = .ok (.invokevirtual 86, 3) := by decide +kernel
theorem dX1_sameName_5 : decode cX1_sameName 5 = .ok (.ifCond .eq 68, 3) := by decide +kernel
theorem dX1_sameName_8 : decode cX1_sameName 8 = .ok (.aload_n 0, 1) := by decide +kernel
theorem dX1_sameName_9 : decode cX1_sameName 9 = .ok (.iload_n 2, 1) := by decide +kernel
theorem dX1_sameName_10 : decode cX1_sameName 10 = .ok (.invokevirtual 86, 3) := by decide +kernel
theorem dX1_sameName_13 : decode cX1_sameName 13 = .ok (.ifCond .eq 60, 3) := by decide +kernel
theorem dX1_sameName_16 : decode cX1_sameName 16 = .ok (.aload_n 0, 1) := by decide +kernel
theorem dX1_sameName_17 : decode cX1_sameName 17 = .ok (.getfield 22, 3) := by decide +kernel
theorem dX1_sameName_20 : decode cX1_sameName 20 = .ok (.iload_n 1, 1) := by decide +kernel
theorem dX1_sameName_21 : decode cX1_sameName 21 = .ok (.iaload, 1) := by decide +kernel
theorem dX1_sameName_22 : decode cX1_sameName 22 = .ok (.aload_n 0, 1) := by decide +kernel
theorem dX1_sameName_23 : decode cX1_sameName 23 = .ok (.getfield 22, 3) := by decide +kernel
theorem dX1_sameName_26 : decode cX1_sameName 26 = .ok (.iload_n 2, 1) := by decide +kernel
theorem dX1_sameName_27 : decode cX1_sameName 27 = .ok (.iaload, 1) := by decide +kernel
theorem dX1_sameName_28 : decode cX1_sameName 28 = .ok (.if_icmp .ne 45, 3) := by decide +kernel
theorem dX1_sameName_31 : decode cX1_sameName 31 = .ok (.aload_n 0, 1) := by decide +kernel
theorem dX1_sameName_32 : decode cX1_sameName 32 = .ok (.getfield 9, 3) := by decide +kernel
theorem dX1_sameName_35 : decode cX1_sameName 35 = .ok (.invokevirtual 55, 3) := by decide +kernel
theorem dX1_sameName_38 : decode cX1_sameName 38 = .ok (.aload_n 0, 1) := by decide +kernel
theorem dX1_sameName_39 : decode cX1_sameName 39 = .ok (.getfield 19, 3) := by decide +kernel
theorem dX1_sameName_42 : decode cX1_sameName 42 = .ok (.iload_n 1, 1) := by decide +kernel
theorem dX1_sameName_43 : decode cX1_sameName 43 = .ok (.iaload, 1) := by decide +kernel
theorem dX1_sameName_44 : decode cX1_sameName 44 = .ok (.aload_n 0, 1) := by decide +kernel
theorem dX1_sameName_45 : decode cX1_sameName 45 = .ok (.getfield 9, 3) := by decide +kernel
theorem dX1_sameName_48 : decode cX1_sameName 48 = .ok (.invokevirtual 55, 3) := by decide +kernel
theorem dX1_sameName_51 : decode cX1_sameName 51 = .ok (.aload_n 0, 1) := by decide +kernel
theorem dX1_sameName_52 : decode cX1_sameName 52 = .ok (.getfield 19, 3) := by decide +kernel
theorem dX1_sameName_55 : decode cX1_sameName 55 = .ok (.iload_n 2, 1) := by decide +kernel
theorem dX1_sameName_56 : decode cX1_sameName 56 = .ok (.iaload, 1) := by decide +kernel
theorem dX1_sameName_57 : decode cX1_sameName 57 = .ok (.aload_n 0, 1) := by decide +kernel
theorem dX1_sameName_58 : decode cX1_sameName 58 = .ok (.getfield 22, 3) := by decide +kernel
theorem dX1_sameName_61 : decode cX1_sameName 61 = .ok (.iload_n 1, 1) := by decide +kernel
theorem dX1_sameName_62 : decode cX1_sameName 62 = .ok (.iaload, 1) := by decide +kernel
theorem dX1_sameName_63 : decode cX1_sameName 63 = .ok (.invokevirtual 90, 3) := by decide +kernel
theorem dX1_sameName_66 : decode cX1_sameName 66 = .ok (.ifCond .eq 7, 3) := by decide +kernel
theorem dX1_sameName_69 : decode cX1_sameName 69 = .ok (.iconst 1, 1) := by decide +kernel
theorem dX1_sameName_70 : decode cX1_sameName 70 = .ok (.goto 4, 3) := by decide +kernel
theorem dX1_sameName_73 : decode cX1_sameName 73 = .ok (.iconst 0, 1) := by decide +kernel
theorem dX1_sameName_74 : decode cX1_sameName 74 = .ok (.ireturn, 1) := by decide +kernel
theorem dX2_init_0 : decode cX2_init 0 = .ok (.aload_n 0, 1) := by decide +kernel
theorem dX2_init_1 : decode cX2_init 1 = .ok (.invokespecial 3, 3) := by decide +kernel
theorem dX2_init_4 : decode cX2_init 4 = .ok (.aload_n 0, 1) := by decide +kernel
theorem dX2_init_5 : decode cX2_init 5 = .ok (.aload_n 1, 1) := by decide +kernel
theorem dX2_init_6 : decode cX2_init 6 = .ok (.putfield 9, 3) := by decide +kernel
theorem dX2_init_9 : decode cX2_init 9 = .ok (.aload_n 0, 1) := by decide +kernel
theorem dX2_init_10 : decode cX2_init 10 = .ok (.bipush 80, 2) := by decide +kernel
theorem dX2_init_12 : decode cX2_init 12 = .ok (.newarray .int, 2) := by decide +kernel
theorem dX2_init_14 : decode cX2_init 14 = .ok (.putfield 15, 3) := by decide +kernel
theorem dX2_init_17 : decode cX2_init 17 = .ok (.aload_n 0, 1) := by decide +kernel
theorem dX2_init_18 : decode cX2_init 18 = .ok (.bipush 80, 2) := by decide +kernel
theorem dX2_init_20 : decode cX2_init 20 = .ok (.newarray .int, 2) := by decide +kernel
theorem dX2_init_22 : decode cX2_init 22 = .ok (.putfield 19, 3) := by decide +kernel
theorem dX2_init_25 : decode cX2_init 25 = .ok (.aload_n 0, 1) := by decide +kernel
theorem dX2_init_26 : decode cX2_init 26 = .ok (.iconst 0, 1) := by decide +kernel
theorem dX2_init_27 : decode cX2_init 27 = .ok (.putfield 22, 3) := by decide +kernel
theorem dX2_init_30 : decode cX2_init 30 = .ok (.return_, 1) := by decide +kernel
theorem dX2_clear_0 : decode cX2_clear 0 = .ok (.aload_n 0, 1) := by decide +kernel
theorem dX2_clear_1 : decode cX2_clear 1 = .ok (.iconst 0, 1) := by decide +kernel
theorem dX2_clear_2 : decode cX2_clear 2 = .ok (.putfield 22, 3) := by decide +kernel
theorem dX2_clear_5 : decode cX2_clear 5 = .ok (.return_, 1) := by decide +kernel
theorem dX2_add_0 : decode cX2_add 0 = .ok (.aload_n 0, 1) := by decide +kernel
theorem dX2_add_1 : decode cX2_add 1 = .ok (.getfield 22, 3) := by decide +kernel
theorem dX2_add_4 : decode cX2_add 4 = .ok (.bipush 80, 2) := by decide +kernel
theorem dX2_add_6 : decode cX2_add 6 = .ok (.if_icmp .ge 38, 3) := by decide +kernel
theorem dX2_add_9 : decode cX2_add 9 = .ok (.iload_n 2, 1) := by decide +kernel
theorem dX2_add_10 : decode cX2_add 10 = .ok (.iconst (-1), 1) := by decide +kernel
theorem dX2_add_11 : decode cX2_add 11 = .ok (.if_icmp .eq 33, 3) := by decide +kernel
theorem dX2_add_14 : decode cX2_add 14 = .ok (.aload_n 0, 1) := by decide +kernel
theorem dX2_add_15 : decode cX2_add 15 = .ok (.getfield 15, 3) := by decide +kernel
theorem dX2_add_18 : decode cX2_add 18 = .ok (.aload_n 0, 1) := by decide +kernel
theorem dX2_add_19 : decode cX2_add 19 = .ok (.getfield 22, 3) := by decide +kernel
theorem dX2_add_22 : decode cX2_add 22 = .ok (.iload_n 1, 1) := by decide +kernel
theorem dX2_add_23 : decode cX2_add 23 = .ok (.iastore, 1) := by decide +kernel
theorem dX2_add_24 : decode cX2_add 24 = .ok (.aload_n 0, 1) := by decide +kernel
theorem dX2_add_25 : decode cX2_add 25 = .ok (.getfield 19, 3) := by decide +kernel
theorem dX2_add_28 : decode cX2_add 28 = .ok (.aload_n 0, 1) := by decide +kernel
theorem dX2_add_29 : decode cX2_add 29 = .ok (.getfield 22, 3) := by decide +kernel
theorem dX2_add_32 : decode cX2_add 32 = .ok (.iload_n 2, 1) := by decide +kernel
theorem dX2_add_33 : decode cX2_add 33 = .ok (.iastore, 1) := by decide +kernel
theorem dX2_add_34 : decode cX2_add 34 = .ok (.aload_n 0, 1) := by decide +kernel
theorem dX2_add_35 : decode cX2_add 35 = .ok (.dup, 1) := by decide +kernel
theorem dX2_add_36 : decode cX2_add 36 = .ok (.getfield 22, 3) := by decide +kernel
theorem dX2_add_39 : decode cX2_add 39 = .ok (.iconst 1, 1) := by decide +kernel
theorem dX2_add_40 : decode cX2_add 40 = .ok (.iadd, 1) := by decide +kernel
theorem dX2_add_41 : decode cX2_add 41 = .ok (.putfield 22, 3) := by decide +kernel
theorem dX2_add_44 : decode cX2_add 44 = .ok (.return_, 1) := by decide +kernel
theorem dX2_ownerOf_0 : decode cX2_ownerOf 0 = .ok (.iconst 0, 1) := by decide +kernel
theorem dX2_ownerOf_1 : decode cX2_ownerOf 1 = .ok (.istore_n 2, 1) := by decide +kernel
theorem dX2_ownerOf_2 : decode cX2_ownerOf 2 = .ok (.iload_n 2, 1) := by decide +kernel
theorem dX2_ownerOf_3 : decode cX2_ownerOf 3 = .ok (.aload_n 0, 1) := by decide +kernel
theorem dX2_ownerOf_4 : decode cX2_ownerOf 4 = .ok (.getfield 22, 3) := by decide +kernel
theorem dX2_ownerOf_7 : decode cX2_ownerOf 7 = .ok (.if_icmp .ge 33, 3) := by decide +kernel
theorem dX2_ownerOf_10 : decode cX2_ownerOf 10 = .ok (.aload_n 0, 1) := by decide +kernel
theorem dX2_ownerOf_11 : decode cX2_ownerOf 11 = .ok (.getfield 9, 3) := by decide +kernel
theorem dX2_ownerOf_14 : decode cX2_ownerOf 14 = .ok (.aload_n 0, 1) := by decide +kernel
theorem dX2_ownerOf_15 : decode cX2_ownerOf 15 = .ok (.getfield 15, 3) := by decide +kernel
theorem dX2_ownerOf_18 : decode cX2_ownerOf 18 = .ok (.iload_n 2, 1) := by decide +kernel
theorem dX2_ownerOf_19 : decode cX2_ownerOf 19 = .ok (.iaload, 1) := by decide +kernel
theorem dX2_ownerOf_20 : decode cX2_ownerOf 20 = .ok (.iload_n 1, 1) := by decide +kernel
theorem dX2_ownerOf_21 : decode cX2_ownerOf 21 = .ok (.invokevirtual 26, 3) := by decide +kernel
theorem dX2_ownerOf_24 : decode cX2_ownerOf 24 = .ok (.ifCond .eq 10, 3) := by decide +kernel
theorem dX2_ownerOf_27 : decode cX2_ownerOf 27 = .ok (.aload_n 0, 1) := by decide +kernel
theorem dX2_ownerOf_28 : decode cX2_ownerOf 28 = .ok (.getfield 19, 3) := by decide +kernel
theorem dX2_ownerOf_31 : decode cX2_ownerOf 31 = .ok (.iload_n 2, 1) := by decide +kernel
theorem dX2_ownerOf_32 : decode cX2_ownerOf 32 = .ok (.iaload, 1) := by decide +kernel
theorem dX2_ownerOf_33 : decode cX2_ownerOf 33 = .ok (.ireturn, 1) := by decide +kernel
theorem dX2_ownerOf_34 : decode cX2_ownerOf 34 = .ok (.iinc 2 1, 3) := by decide +kernel
theorem dX2_ownerOf_37 : decode cX2_ownerOf 37 = .ok (.goto (-35), 3) := by decide +kernel
theorem dX2_ownerOf_40 : decode cX2_ownerOf 40 = .ok (.iconst (-1), 1) := by decide +kernel
theorem dX2_ownerOf_41 : decode cX2_ownerOf 41 = .ok (.ireturn, 1) := by decide +kernel
theorem dX2_ownerOfLonger_0 : decode cX2_ownerOfLonger 0 = .ok (.aload_n 0, 1) := by decide +kernel
theorem dX2_ownerOfLonger_1 : decode cX2_ownerOfLonger 1 = .ok (.getfield 9, 3) := by decide +kernel
theorem dX2_ownerOfLonger_4 : decode cX2_ownerOfLonger 4 = .ok (.iload_n 1, 1) := by decide +kernel
theorem dX2_ownerOfLonger_5 : decode cX2_ownerOfLonger 5 = .ok (.invokevirtual 32, 3) := by decide +kernel
theorem dX2_ownerOfLonger_8 : decode cX2_ownerOfLonger 8 = .ok (.iconst 3, 1) := by decide +kernel
theorem dX2_ownerOfLonger_9 : decode cX2_ownerOfLonger 9 = .ok (.if_icmp .ge 5, 3) := by decide +kernel
theorem dX2_ownerOfLonger_12 : decode cX2_ownerOfLonger 12 = .ok (.iconst (-1), 1) := by decide +kernel
theorem dX2_ownerOfLonger_13 : decode cX2_ownerOfLonger 13 = .ok (.ireturn, 1) := by decide +kernel
theorem dX2_ownerOfLonger_14 : decode cX2_ownerOfLonger 14 = .ok (.iconst (-1), 1) := by decide +kernel
theorem dX2_ownerOfLonger_15 : decode cX2_ownerOfLonger 15 = .ok (.istore_n 2, 1) := by decide +kernel
theorem dX2_ownerOfLonger_16 : decode cX2_ownerOfLonger 16 = .ok (.iconst 0, 1) := by decide +kernel
theorem dX2_ownerOfLonger_17 : decode cX2_ownerOfLonger 17 = .ok (.istore_n 3, 1) := by decide +kernel
theorem dX2_ownerOfLonger_18 : decode cX2_ownerOfLonger 18 = .ok (.iload_n 3, 1) := by decide +kernel
theorem dX2_ownerOfLonger_19 : decode cX2_ownerOfLonger 19 = .ok (.aload_n 0, 1) := by decide +kernel
theorem dX2_ownerOfLonger_20 : decode cX2_ownerOfLonger 20 = .ok (.getfield 22, 3) := by decide +kernel
theorem dX2_ownerOfLonger_23 : decode cX2_ownerOfLonger 23 = .ok (.if_icmp .ge 50, 3) := by decide +kernel
theorem dX2_ownerOfLonger_26 : decode cX2_ownerOfLonger 26 = .ok (.aload_n 0, 1) := by decide +kernel
theorem dX2_ownerOfLonger_27 : decode cX2_ownerOfLonger 27 = .ok (.getfield 9, 3) := by decide +kernel
theorem dX2_ownerOfLonger_30 : decode cX2_ownerOfLonger 30 = .ok (.aload_n 0, 1) := by decide +kernel
theorem dX2_ownerOfLonger_31 : decode cX2_ownerOfLonger 31 = .ok (.getfield 15, 3) := by decide +kernel
theorem dX2_ownerOfLonger_34 : decode cX2_ownerOfLonger 34 = .ok (.iload_n 3, 1) := by decide +kernel
theorem dX2_ownerOfLonger_35 : decode cX2_ownerOfLonger 35 = .ok (.iaload, 1) := by decide +kernel
theorem dX2_ownerOfLonger_36 : decode cX2_ownerOfLonger 36 = .ok (.iload_n 1, 1) := by decide +kernel
theorem dX2_ownerOfLonger_37 : decode cX2_ownerOfLonger 37 = .ok (.invokevirtual 36, 3) := by decide +kernel
theorem dX2_ownerOfLonger_40 : decode cX2_ownerOfLonger 40 = .ok (.ifCond .eq 27, 3) := by decide +kernel
theorem dX2_ownerOfLonger_43 : decode cX2_ownerOfLonger 43 = .ok (.iload_n 2, 1) := by decide +kernel
theorem dX2_ownerOfLonger_44 : decode cX2_ownerOfLonger 44 = .ok (.iconst (-1), 1) := by decide +kernel
theorem dX2_ownerOfLonger_45 : decode cX2_ownerOfLonger 45 = .ok (.if_icmp .eq 15, 3) := by decide +kernel
theorem dX2_ownerOfLonger_48 : decode cX2_ownerOfLonger 48 = .ok (.iload_n 2, 1) := by decide +kernel
theorem dX2_ownerOfLonger_49 : decode cX2_ownerOfLonger 49 = .ok (.aload_n 0, 1) := by decide +kernel
theorem dX2_ownerOfLonger_50 : decode cX2_ownerOfLonger 50 = .ok (.getfield 19, 3) := by decide +kernel
theorem dX2_ownerOfLonger_53 : decode cX2_ownerOfLonger 53 = .ok (.iload_n 3, 1) := by decide +kernel
theorem dX2_ownerOfLonger_54 : decode cX2_ownerOfLonger 54 = .ok (.iaload, 1) := by decide +kernel
theorem dX2_ownerOfLonger_55 : decode cX2_ownerOfLonger 55 = .ok (.if_icmp .eq 5, 3) := by decide +kernel
theorem dX2_ownerOfLonger_58 : decode cX2_ownerOfLonger 58 = .ok (.iconst (-1), 1) := by decide +kernel
theorem dX2_ownerOfLonger_59 : decode cX2_ownerOfLonger 59 = .ok (.ireturn, 1) := by decide +kernel
theorem dX2_ownerOfLonger_60 : decode cX2_ownerOfLonger 60 = .ok (.aload_n 0, 1) := by decide +kernel
theorem dX2_ownerOfLonger_61 : decode cX2_ownerOfLonger 61 = .ok (.getfield 19, 3) := by decide +kernel
theorem dX2_ownerOfLonger_64 : decode cX2_ownerOfLonger 64 = .ok (.iload_n 3, 1) := by decide +kernel
theorem dX2_ownerOfLonger_65 : decode cX2_ownerOfLonger 65 = .ok (.iaload, 1) := by decide +kernel
theorem dX2_ownerOfLonger_66 : decode cX2_ownerOfLonger 66 = .ok (.istore_n 2, 1) := by decide +kernel
theorem dX2_ownerOfLonger_67 : decode cX2_ownerOfLonger 67 = .ok (.iinc 3 1, 3) := by decide +kernel
theorem dX2_ownerOfLonger_70 : decode cX2_ownerOfLonger 70 = .ok (.goto (-52), 3) := by decide +kernel
theorem dX2_ownerOfLonger_73 : decode cX2_ownerOfLonger 73 = .ok (.iload_n 2, 1) := by decide +kernel
theorem dX2_ownerOfLonger_74 : decode cX2_ownerOfLonger 74 = .ok (.ireturn, 1) := by decide +kernel
theorem dX2_ownerOfShorter_0 : decode cX2_ownerOfShorter 0 = .ok (.iconst (-1), 1) := by decide +kernel
theorem dX2_ownerOfShorter_1 : decode cX2_ownerOfShorter 1 = .ok (.istore_n 2, 1) := by decide +kernel
theorem dX2_ownerOfShorter_2 : decode cX2_ownerOfShorter 2 = .ok (.iconst 0, 1) := by decide +kernel
theorem dX2_ownerOfShorter_3 : decode cX2_ownerOfShorter 3 = .ok (.istore_n 3, 1) := by decide +kernel
theorem dX2_ownerOfShorter_4 : decode cX2_ownerOfShorter 4 = .ok (.iload_n 3, 1) := by decide +kernel
theorem dX2_ownerOfShorter_5 : decode cX2_ownerOfShorter 5 = .ok (.aload_n 0, 1) := by decide +kernel
theorem dX2_ownerOfShorter_6 : decode cX2_ownerOfShorter 6 = .ok (.getfield 22, 3) := by decide +kernel
theorem dX2_ownerOfShorter_9 : decode cX2_ownerOfShorter 9 = .ok (.if_icmp .ge 79, 3) := by decide +kernel
theorem dX2_ownerOfShorter_12 : decode cX2_ownerOfShorter 12 = .ok (.aload_n 0, 1) := by decide +kernel
theorem dX2_ownerOfShorter_13 : decode cX2_ownerOfShorter 13 = .ok (.getfield 9, 3) := by decide +kernel
theorem dX2_ownerOfShorter_16 : decode cX2_ownerOfShorter 16 = .ok (.aload_n 0, 1) := by decide +kernel
theorem dX2_ownerOfShorter_17 : decode cX2_ownerOfShorter 17 = .ok (.getfield 15, 3) := by decide +kernel
theorem dX2_ownerOfShorter_20 : decode cX2_ownerOfShorter 20 = .ok (.iload_n 3, 1) := by decide +kernel
theorem dX2_ownerOfShorter_21 : decode cX2_ownerOfShorter 21 = .ok (.iaload, 1) := by decide +kernel
theorem dX2_ownerOfShorter_22 : decode cX2_ownerOfShorter 22 = .ok (.invokevirtual 32, 3) := by decide +kernel
theorem dX2_ownerOfShorter_25 : decode cX2_ownerOfShorter 25 = .ok (.iconst 3, 1) := by decide +kernel
theorem dX2_ownerOfShorter_26 : decode cX2_ownerOfShorter 26 = .ok (.if_icmp .lt 7, 3) := by decide +kernel
theorem dX2_ownerOfShorter_29 : decode cX2_ownerOfShorter 29 = .ok (.iconst 1, 1) := by decide +kernel
theorem dX2_ownerOfShorter_30 : decode cX2_ownerOfShorter 30 = .ok (.goto 4, 3) := by decide +kernel
theorem dX2_ownerOfShorter_33 : decode cX2_ownerOfShorter 33 = .ok (.iconst 0, 1) := by decide +kernel
theorem dX2_ownerOfShorter_34 : decode cX2_ownerOfShorter 34 = .ok (.istore 4, 2) := by decide +kernel
theorem dX2_ownerOfShorter_36 : decode cX2_ownerOfShorter 36 = .ok (.iload 4, 2) := by decide +kernel
theorem dX2_ownerOfShorter_38 : decode cX2_ownerOfShorter 38 = .ok (.ifCond .eq 44, 3) := by decide +kernel
theorem dX2_ownerOfShorter_41 : decode cX2_ownerOfShorter 41 = .ok (.aload_n 0, 1) := by decide +kernel
theorem dX2_ownerOfShorter_42 : decode cX2_ownerOfShorter 42 = .ok (.getfield 9, 3) := by decide +kernel
theorem dX2_ownerOfShorter_45 : decode cX2_ownerOfShorter 45 = .ok (.iload_n 1, 1) := by decide +kernel
theorem dX2_ownerOfShorter_46 : decode cX2_ownerOfShorter 46 = .ok (.aload_n 0, 1) := by decide +kernel
theorem dX2_ownerOfShorter_47 : decode cX2_ownerOfShorter 47 = .ok (.getfield 15, 3) := by decide +kernel
theorem dX2_ownerOfShorter_50 : decode cX2_ownerOfShorter 50 = .ok (.iload_n 3, 1) := by decide +kernel
theorem dX2_ownerOfShorter_51 : decode cX2_ownerOfShorter 51 = .ok (.iaload, 1) := by decide +kernel
theorem dX2_ownerOfShorter_52 : decode cX2_ownerOfShorter 52 = .ok (.invokevirtual 36, 3) := by decide +kernel
theorem dX2_ownerOfShorter_55 : decode cX2_ownerOfShorter 55 = .ok (.ifCond .eq 27, 3) := by decide +kernel
theorem dX2_ownerOfShorter_58 : decode cX2_ownerOfShorter 58 = .ok (.iload_n 2, 1) := by decide +kernel
theorem dX2_ownerOfShorter_59 : decode cX2_ownerOfShorter 59 = .ok (.iconst (-1), 1) := by decide +kernel
theorem dX2_ownerOfShorter_60 : decode cX2_ownerOfShorter 60 = .ok (.if_icmp .eq 15, 3) := by decide +kernel
theorem dX2_ownerOfShorter_63 : decode cX2_ownerOfShorter 63 = .ok (.iload_n 2, 1) := by decide +kernel
theorem dX2_ownerOfShorter_64 : decode cX2_ownerOfShorter 64 = .ok (.aload_n 0, 1) := by decide +kernel
theorem dX2_ownerOfShorter_65 : decode cX2_ownerOfShorter 65 = .ok (.getfield 19, 3) := by decide +kernel
theorem dX2_ownerOfShorter_68 : decode cX2_ownerOfShorter 68 = .ok (.iload_n 3, 1) := by decide +kernel
theorem dX2_ownerOfShorter_69 : decode cX2_ownerOfShorter 69 = .ok (.iaload, 1) := by decide +kernel
theorem dX2_ownerOfShorter_70 : decode cX2_ownerOfShorter 70 = .ok (.if_icmp .eq 5, 3) := by decide +kernel
theorem dX2_ownerOfShorter_73 : decode cX2_ownerOfShorter 73 = .ok (.iconst (-1), 1) := by decide +kernel
theorem dX2_ownerOfShorter_74 : decode cX2_ownerOfShorter 74 = .ok (.ireturn, 1) := by decide +kernel
theorem dX2_ownerOfShorter_75 : decode cX2_ownerOfShorter 75 = .ok (.aload_n 0, 1) := by decide +kernel
theorem dX2_ownerOfShorter_76 : decode cX2_ownerOfShorter 76 = .ok (.getfield 19, 3) := by decide +kernel
theorem dX2_ownerOfShorter_79 : decode cX2_ownerOfShorter 79 = .ok (.iload_n 3, 1) := by decide +kernel
theorem dX2_ownerOfShorter_80 : decode cX2_ownerOfShorter 80 = .ok (.iaload, 1) := by decide +kernel
theorem dX2_ownerOfShorter_81 : decode cX2_ownerOfShorter 81 = .ok (.istore_n 2, 1) := by decide +kernel
theorem dX2_ownerOfShorter_82 : decode cX2_ownerOfShorter 82 = .ok (.iinc 3 1, 3) := by decide +kernel
theorem dX2_ownerOfShorter_85 : decode cX2_ownerOfShorter 85 = .ok (.goto (-81), 3) := by decide +kernel
theorem dX2_ownerOfShorter_88 : decode cX2_ownerOfShorter 88 = .ok (.iload_n 2, 1) := by decide +kernel
theorem dX2_ownerOfShorter_89 : decode cX2_ownerOfShorter 89 = .ok (.ireturn, 1) := by decide +kernel
theorem dX2_handOver_0 : decode cX2_handOver 0 = .ok (.iconst 0, 1) := by decide +kernel
theorem dX2_handOver_1 : decode cX2_handOver 1 = .ok (.istore_n 3, 1) := by decide +kernel
theorem dX2_handOver_2 : decode cX2_handOver 2 = .ok (.iconst 0, 1) := by decide +kernel
theorem dX2_handOver_3 : decode cX2_handOver 3 = .ok (.istore 4, 2) := by decide +kernel
theorem dX2_handOver_5 : decode cX2_handOver 5 = .ok (.iload 4, 2) := by decide +kernel
theorem dX2_handOver_7 : decode cX2_handOver 7 = .ok (.aload_n 0, 1) := by decide +kernel
theorem dX2_handOver_8 : decode cX2_handOver 8 = .ok (.getfield 22, 3) := by decide +kernel
theorem dX2_handOver_11 : decode cX2_handOver 11 = .ok (.if_icmp .ge 42, 3) := by decide +kernel
theorem dX2_handOver_14 : decode cX2_handOver 14 = .ok (.aload_n 0, 1) := by decide +kernel
theorem dX2_handOver_15 : decode cX2_handOver 15 = .ok (.getfield 19, 3) := by decide +kernel
theorem dX2_handOver_18 : decode cX2_handOver 18 = .ok (.iload_n 3, 1) := by decide +kernel
theorem dX2_handOver_19 : decode cX2_handOver 19 = .ok (.iaload, 1) := by decide +kernel
theorem dX2_handOver_20 : decode cX2_handOver 20 = .ok (.iload_n 1, 1) := by decide +kernel
theorem dX2_handOver_21 : decode cX2_handOver 21 = .ok (.if_icmp .ne 23, 3) := by decide +kernel
theorem dX2_handOver_24 : decode cX2_handOver 24 = .ok (.aload_n 0, 1) := by decide +kernel
theorem dX2_handOver_25 : decode cX2_handOver 25 = .ok (.iload_n 3, 1) := by decide +kernel
theorem dX2_handOver_26 : decode cX2_handOver 26 = .ok (.invokevirtual 39, 3) := by decide +kernel
theorem dX2_handOver_29 : decode cX2_handOver 29 = .ok (.aload_n 0, 1) := by decide +kernel
theorem dX2_handOver_30 : decode cX2_handOver 30 = .ok (.getfield 19, 3) := by decide +kernel
theorem dX2_handOver_33 : decode cX2_handOver 33 = .ok (.aload_n 0, 1) := by decide +kernel
theorem dX2_handOver_34 : decode cX2_handOver 34 = .ok (.getfield 22, 3) := by decide +kernel
theorem dX2_handOver_37 : decode cX2_handOver 37 = .ok (.iconst 1, 1) := by decide +kernel
theorem dX2_handOver_38 : decode cX2_handOver 38 = .ok (.isub, 1) := by decide +kernel
theorem dX2_handOver_39 : decode cX2_handOver 39 = .ok (.iload_n 2, 1) := by decide +kernel
theorem dX2_handOver_40 : decode cX2_handOver 40 = .ok (.iastore, 1) := by decide +kernel
theorem dX2_handOver_41 : decode cX2_handOver 41 = .ok (.goto 6, 3) := by decide +kernel
theorem dX2_handOver_44 : decode cX2_handOver 44 = .ok (.iinc 3 1, 3) := by decide +kernel
theorem dX2_handOver_47 : decode cX2_handOver 47 = .ok (.iinc 4 1, 3) := by decide +kernel
theorem dX2_handOver_50 : decode cX2_handOver 50 = .ok (.goto (-45), 3) := by decide +kernel
theorem dX2_handOver_53 : decode cX2_handOver 53 = .ok (.return_, 1) := by decide +kernel
theorem dX2_moveToEnd_0 : decode cX2_moveToEnd 0 = .ok (.iload_n 1, 1) := by decide +kernel
theorem dX2_moveToEnd_1 : decode cX2_moveToEnd 1 = .ok (.ifCond .lt 11, 3) := by decide +kernel
theorem dX2_moveToEnd_4 : decode cX2_moveToEnd 4 = .ok (.iload_n 1, 1) := by decide +kernel
theorem dX2_moveToEnd_5 : decode cX2_moveToEnd 5 = .ok (.aload_n 0, 1) := by decide +kernel
theorem dX2_moveToEnd_6 : decode cX2_moveToEnd 6 = .ok (.getfield 22, 3) := by decide +kernel
theorem dX2_moveToEnd_9 : decode cX2_moveToEnd 9 = .ok (.if_icmp .lt 4, 3) := by decide +kernel
theorem dX2_moveToEnd_12 : decode cX2_moveToEnd 12 = .ok (.return_, 1) := by decide +kernel
theorem dX2_moveToEnd_13 : decode cX2_moveToEnd 13 = .ok (.aload_n 0, 1) := by decide +kernel
theorem dX2_moveToEnd_14 : decode cX2_moveToEnd 14 = .ok (.getfield 15, 3) := by decide +kernel
theorem dX2_moveToEnd_17 : decode cX2_moveToEnd 17 = .ok (.iload_n 1, 1) := by decide +kernel
theorem dX2_moveToEnd_18 : decode cX2_moveToEnd 18 = .ok (.iaload, 1) := by decide +kernel
theorem dX2_moveToEnd_19 : decode cX2_moveToEnd 19 = .ok (.istore_n 2, 1) := by decide +kernel
theorem dX2_moveToEnd_20 : decode cX2_moveToEnd 20 = .ok (.aload_n 0, 1) := by decide +kernel
theorem dX2_moveToEnd_21 : decode cX2_moveToEnd 21 = .ok (.getfield 15, 3) := by decide +kernel
theorem dX2_moveToEnd_24 : decode cX2_moveToEnd 24 = .ok (.iload_n 1, 1) := by decide +kernel
theorem dX2_moveToEnd_25 : decode cX2_moveToEnd 25 = .ok (.iconst 1, 1) := by decide +kernel
theorem dX2_moveToEnd_26 : decode cX2_moveToEnd 26 = .ok (.iadd, 1) := by decide +kernel
theorem dX2_moveToEnd_27 : decode cX2_moveToEnd 27 = .ok (.aload_n 0, 1) := by decide +kernel
theorem dX2_moveToEnd_28 : decode cX2_moveToEnd 28 = .ok (.getfield 15, 3) := by decide +kernel
theorem dX2_moveToEnd_31 : decode cX2_moveToEnd 31 = .ok (.iload_n 1, 1) := by decide +kernel
theorem dX2_moveToEnd_32 : decode cX2_moveToEnd 32 = .ok (.aload_n 0, 1) := by decide +kernel
theorem dX2_moveToEnd_33 : decode cX2_moveToEnd 33 = .ok (.getfield 22, 3) := by decide +kernel
theorem dX2_moveToEnd_36 : decode cX2_moveToEnd 36 = .ok (.iconst 1, 1) := by decide +kernel
theorem dX2_moveToEnd_37 : decode cX2_moveToEnd 37 = .ok (.isub, 1) := by decide +kernel
theorem dX2_moveToEnd_38 : decode cX2_moveToEnd 38 = .ok (.iload_n 1, 1) := by decide +kernel
theorem dX2_moveToEnd_39 : decode cX2_moveToEnd 39 = .ok (.isub, 1) := by decide +kernel
theorem dX2_moveToEnd_40 : decode cX2_moveToEnd 40 = .ok (.invokestatic 43, 3) := by decide +kernel
theorem dX2_moveToEnd_43 : decode cX2_moveToEnd 43 = .ok (.aload_n 0, 1) := by decide +kernel
theorem dX2_moveToEnd_44 : decode cX2_moveToEnd 44 = .ok (.getfield 19, 3) := by decide +kernel
theorem dX2_moveToEnd_47 : decode cX2_moveToEnd 47 = .ok (.iload_n 1, 1) := by decide +kernel
theorem dX2_moveToEnd_48 : decode cX2_moveToEnd 48 = .ok (.iconst 1, 1) := by decide +kernel
theorem dX2_moveToEnd_49 : decode cX2_moveToEnd 49 = .ok (.iadd, 1) := by decide +kernel
theorem dX2_moveToEnd_50 : decode cX2_moveToEnd 50 = .ok (.aload_n 0, 1) := by decide +kernel
theorem dX2_moveToEnd_51 : decode cX2_moveToEnd 51 = .ok (.getfield 19, 3) := by decide +kernel
theorem dX2_moveToEnd_54 : decode cX2_moveToEnd 54 = .ok (.iload_n 1, 1) := by decide +kernel
theorem dX2_moveToEnd_55 : decode cX2_moveToEnd 55 = .ok (.aload_n 0, 1) := by decide +kernel
theorem dX2_moveToEnd_56 : decode cX2_moveToEnd 56 = .ok (.getfield 22, 3) := by decide +kernel
theorem dX2_moveToEnd_59 : decode cX2_moveToEnd 59 = .ok (.iconst 1, 1) := by decide +kernel
theorem dX2_moveToEnd_60 : decode cX2_moveToEnd 60 = .ok (.isub, 1) := by decide +kernel
theorem dX2_moveToEnd_61 : decode cX2_moveToEnd 61 = .ok (.iload_n 1, 1) := by decide +kernel
theorem dX2_moveToEnd_62 : decode cX2_moveToEnd 62 = .ok (.isub, 1) := by decide +kernel
theorem dX2_moveToEnd_63 : decode cX2_moveToEnd 63 = .ok (.invokestatic 43, 3) := by decide +kernel
theorem dX2_moveToEnd_66 : decode cX2_moveToEnd 66 = .ok (.aload_n 0, 1) := by decide +kernel
theorem dX2_moveToEnd_67 : decode cX2_moveToEnd 67 = .ok (.getfield 15, 3) := by decide +kernel
theorem dX2_moveToEnd_70 : decode cX2_moveToEnd 70 = .ok (.aload_n 0, 1) := by decide +kernel
theorem dX2_moveToEnd_71 : decode cX2_moveToEnd 71 = .ok (.getfield 22, 3) := by decide +kernel
theorem dX2_moveToEnd_74 : decode cX2_moveToEnd 74 = .ok (.iconst 1, 1) := by decide +kernel
theorem dX2_moveToEnd_75 : decode cX2_moveToEnd 75 = .ok (.isub, 1) := by decide +kernel
theorem dX2_moveToEnd_76 : decode cX2_moveToEnd 76 = .ok (.iload_n 2, 1) := by decide +kernel
theorem dX2_moveToEnd_77 : decode cX2_moveToEnd 77 = .ok (.iastore, 1) := by decide +kernel
theorem dX2_moveToEnd_78 : decode cX2_moveToEnd 78 = .ok (.return_, 1) := by decide +kernel
theorem dX2_countOf_0 : decode cX2_countOf 0 = .ok (.iconst 0, 1) := by decide +kernel
theorem dX2_countOf_1 : decode cX2_countOf 1 = .ok (.istore_n 2, 1) := by decide +kernel
theorem dX2_countOf_2 : decode cX2_countOf 2 = .ok (.iconst 0, 1) := by decide +kernel
theorem dX2_countOf_3 : decode cX2_countOf 3 = .ok (.istore_n 3, 1) := by decide +kernel
theorem dX2_countOf_4 : decode cX2_countOf 4 = .ok (.iload_n 3, 1) := by decide +kernel
theorem dX2_countOf_5 : decode cX2_countOf 5 = .ok (.aload_n 0, 1) := by decide +kernel
theorem dX2_countOf_6 : decode cX2_countOf 6 = .ok (.getfield 22, 3) := by decide +kernel
theorem dX2_countOf_9 : decode cX2_countOf 9 = .ok (.if_icmp .ge 22, 3) := by decide +kernel
theorem dX2_countOf_12 : decode cX2_countOf 12 = .ok (.aload_n 0, 1) := by decide +kernel
theorem dX2_countOf_13 : decode cX2_countOf 13 = .ok (.getfield 19, 3) := by decide +kernel
theorem dX2_countOf_16 : decode cX2_countOf 16 = .ok (.iload_n 3, 1) := by decide +kernel
theorem dX2_countOf_17 : decode cX2_countOf 17 = .ok (.iaload, 1) := by decide +kernel
theorem dX2_countOf_18 : decode cX2_countOf 18 = .ok (.iload_n 1, 1) := by decide +kernel
theorem dX2_countOf_19 : decode cX2_countOf 19 = .ok (.if_icmp .ne 6, 3) := by decide +kernel
theorem dX2_countOf_22 : decode cX2_countOf 22 = .ok (.iinc 2 1, 3) := by decide +kernel
theorem dX2_countOf_25 : decode cX2_countOf 25 = .ok (.iinc 3 1, 3) := by decide +kernel
theorem dX2_countOf_28 : decode cX2_countOf 28 = .ok (.goto (-24), 3) := by decide +kernel
theorem dX2_countOf_31 : decode cX2_countOf 31 = .ok (.iload_n 2, 1) := by decide +kernel
theorem dX2_countOf_32 : decode cX2_countOf 32 = .ok (.ireturn, 1) := by decide +kernel
theorem dX2_firstMentionOf_0 : decode cX2_firstMentionOf 0 = .ok (.iconst 0, 1) := by decide +kernel
theorem dX2_firstMentionOf_1 : decode cX2_firstMentionOf 1 = .ok (.istore_n 3, 1) := by decide +kernel
theorem dX2_firstMentionOf_2 : decode cX2_firstMentionOf 2 = .ok (.iconst 0, 1) := by decide +kernel
theorem dX2_firstMentionOf_3 : decode cX2_firstMentionOf 3 = .ok (.istore 4, 2) := by decide +kernel
theorem dX2_firstMentionOf_5 : decode cX2_firstMentionOf 5 = .ok (.iload 4, 2) := by decide +kernel
theorem dX2_firstMentionOf_7 : decode cX2_firstMentionOf 7 = .ok (.aload_n 0, 1) := by decide +kernel
theorem dX2_firstMentionOf_8 : decode cX2_firstMentionOf 8 = .ok (.getfield 22, 3) := by decide +kernel
theorem dX2_firstMentionOf_11 : decode cX2_firstMentionOf 11 = .ok (.if_icmp .ge 36, 3) := by decide +kernel
theorem dX2_firstMentionOf_14 : decode cX2_firstMentionOf 14 = .ok (.aload_n 0, 1) := by decide +kernel
theorem dX2_firstMentionOf_15 : decode cX2_firstMentionOf 15 = .ok (.getfield 19, 3) := by decide +kernel
theorem dX2_firstMentionOf_18 : decode cX2_firstMentionOf 18 = .ok (.iload 4, 2) := by decide +kernel
theorem dX2_firstMentionOf_20 : decode cX2_firstMentionOf 20 = .ok (.iaload, 1) := by decide +kernel
theorem dX2_firstMentionOf_21 : decode cX2_firstMentionOf 21 = .ok (.iload_n 1, 1) := by decide +kernel
theorem dX2_firstMentionOf_22 : decode cX2_firstMentionOf 22 = .ok (.if_icmp .ne 19, 3) := by decide +kernel
theorem dX2_firstMentionOf_25 : decode cX2_firstMentionOf 25 = .ok (.iload_n 3, 1) := by decide +kernel
theorem dX2_firstMentionOf_26 : decode cX2_firstMentionOf 26 = .ok (.iload_n 2, 1) := by decide +kernel
theorem dX2_firstMentionOf_27 : decode cX2_firstMentionOf 27 = .ok (.if_icmp .ne 11, 3) := by decide +kernel
theorem dX2_firstMentionOf_30 : decode cX2_firstMentionOf 30 = .ok (.aload_n 0, 1) := by decide +kernel
theorem dX2_firstMentionOf_31 : decode cX2_firstMentionOf 31 = .ok (.getfield 15, 3) := by decide +kernel
theorem dX2_firstMentionOf_34 : decode cX2_firstMentionOf 34 = .ok (.iload 4, 2) := by decide +kernel
theorem dX2_firstMentionOf_36 : decode cX2_firstMentionOf 36 = .ok (.iaload, 1) := by decide +kernel
theorem dX2_firstMentionOf_37 : decode cX2_firstMentionOf 37 = .ok (.ireturn, 1) := by decide +kernel
theorem dX2_firstMentionOf_38 : decode cX2_firstMentionOf 38 = .ok (.iinc 3 1, 3) := by decide +kernel
theorem dX2_firstMentionOf_41 : decode cX2_firstMentionOf 41 = .ok (.iinc 4 1, 3) := by decide +kernel
theorem dX2_firstMentionOf_44 : decode cX2_firstMentionOf 44 = .ok (.goto (-39), 3) := by decide +kernel
theorem dX2_firstMentionOf_47 : decode cX2_firstMentionOf 47 = .ok (.iconst (-1), 1) := by decide +kernel
theorem dX2_firstMentionOf_48 : decode cX2_firstMentionOf 48 = .ok (.ireturn, 1) := by decide +kernel
theorem dX3_init_0 : decode cX3_init 0 = .ok (.aload_n 0, 1) := by decide +kernel
theorem dX3_init_1 : decode cX3_init 1 = .ok (.invokespecial 3, 3) := by decide +kernel
theorem dX3_init_4 : decode cX3_init 4 = .ok (.aload_n 0, 1) := by decide +kernel
theorem dX3_init_5 : decode cX3_init 5 = .ok (.bipush 80, 2) := by decide +kernel
theorem dX3_init_7 : decode cX3_init 7 = .ok (.newarray .int, 2) := by decide +kernel
theorem dX3_init_9 : decode cX3_init 9 = .ok (.putfield 9, 3) := by decide +kernel
theorem dX3_init_12 : decode cX3_init 12 = .ok (.aload_n 0, 1) := by decide +kernel
theorem dX3_init_13 : decode cX3_init 13 = .ok (.getfield 9, 3) := by decide +kernel
theorem dX3_init_16 : decode cX3_init 16 = .ok (.iconst (-1), 1) := by decide +kernel
theorem dX3_init_17 : decode cX3_init 17 = .ok (.invokestatic 15, 3) := by decide +kernel
theorem dX3_init_20 : decode cX3_init 20 = .ok (.aload_n 0, 1) := by decide +kernel
theorem dX3_init_21 : decode cX3_init 21 = .ok (.iconst 0, 1) := by decide +kernel
theorem dX3_init_22 : decode cX3_init 22 = .ok (.putfield 21, 3) := by decide +kernel
theorem dX3_init_25 : decode cX3_init 25 = .ok (.return_, 1) := by decide +kernel
theorem dX3_size_0 : decode cX3_size 0 = .ok (.aload_n 0, 1) := by decide +kernel
theorem dX3_size_1 : decode cX3_size 1 = .ok (.getfield 21, 3) := by decide +kernel
theorem dX3_size_4 : decode cX3_size 4 = .ok (.ireturn, 1) := by decide +kernel
theorem dX3_clear_0 : decode cX3_clear 0 = .ok (.aload_n 0, 1) := by decide +kernel
theorem dX3_clear_1 : decode cX3_clear 1 = .ok (.getfield 9, 3) := by decide +kernel
theorem dX3_clear_4 : decode cX3_clear 4 = .ok (.iconst (-1), 1) := by decide +kernel
theorem dX3_clear_5 : decode cX3_clear 5 = .ok (.invokestatic 15, 3) := by decide +kernel
theorem dX3_clear_8 : decode cX3_clear 8 = .ok (.aload_n 0, 1) := by decide +kernel
theorem dX3_clear_9 : decode cX3_clear 9 = .ok (.iconst 0, 1) := by decide +kernel
theorem dX3_clear_10 : decode cX3_clear 10 = .ok (.putfield 21, 3) := by decide +kernel
theorem dX3_clear_13 : decode cX3_clear 13 = .ok (.return_, 1) := by decide +kernel
theorem dX3_targetOf_0 : decode cX3_targetOf 0 = .ok (.iload_n 1, 1) := by decide +kernel
theorem dX3_targetOf_1 : decode cX3_targetOf 1 = .ok (.ifCond .lt 18, 3) := by decide +kernel
theorem dX3_targetOf_4 : decode cX3_targetOf 4 = .ok (.iload_n 1, 1) := by decide +kernel
theorem dX3_targetOf_5 : decode cX3_targetOf 5 = .ok (.bipush 80, 2) := by decide +kernel
theorem dX3_targetOf_7 : decode cX3_targetOf 7 = .ok (.if_icmp .ge 12, 3) := by decide +kernel
theorem dX3_targetOf_10 : decode cX3_targetOf 10 = .ok (.aload_n 0, 1) := by decide +kernel
theorem dX3_targetOf_11 : decode cX3_targetOf 11 = .ok (.getfield 9, 3) := by decide +kernel
theorem dX3_targetOf_14 : decode cX3_targetOf 14 = .ok (.iload_n 1, 1) := by decide +kernel
theorem dX3_targetOf_15 : decode cX3_targetOf 15 = .ok (.iaload, 1) := by decide +kernel
theorem dX3_targetOf_16 : decode cX3_targetOf 16 = .ok (.goto 4, 3) := by decide +kernel
theorem dX3_targetOf_19 : decode cX3_targetOf 19 = .ok (.iconst (-1), 1) := by decide +kernel
theorem dX3_targetOf_20 : decode cX3_targetOf 20 = .ok (.ireturn, 1) := by decide +kernel
theorem dX3_put_0 : decode cX3_put 0 = .ok (.iload_n 1, 1) := by decide +kernel
theorem dX3_put_1 : decode cX3_put 1 = .ok (.ifCond .lt 36, 3) := by decide +kernel
theorem dX3_put_4 : decode cX3_put 4 = .ok (.iload_n 1, 1) := by decide +kernel
theorem dX3_put_5 : decode cX3_put 5 = .ok (.bipush 80, 2) := by decide +kernel
theorem dX3_put_7 : decode cX3_put 7 = .ok (.if_icmp .ge 30, 3) := by decide +kernel
theorem dX3_put_10 : decode cX3_put 10 = .ok (.aload_n 0, 1) := by decide +kernel
theorem dX3_put_11 : decode cX3_put 11 = .ok (.getfield 9, 3) := by decide +kernel
theorem dX3_put_14 : decode cX3_put 14 = .ok (.iload_n 1, 1) := by decide +kernel
theorem dX3_put_15 : decode cX3_put 15 = .ok (.iaload, 1) := by decide +kernel
theorem dX3_put_16 : decode cX3_put 16 = .ok (.iconst (-1), 1) := by decide +kernel
theorem dX3_put_17 : decode cX3_put 17 = .ok (.if_icmp .ne 13, 3) := by decide +kernel
theorem dX3_put_20 : decode cX3_put 20 = .ok (.aload_n 0, 1) := by decide +kernel
theorem dX3_put_21 : decode cX3_put 21 = .ok (.dup, 1) := by decide +kernel
theorem dX3_put_22 : decode cX3_put 22 = .ok (.getfield 21, 3) := by decide +kernel
theorem dX3_put_25 : decode cX3_put 25 = .ok (.iconst 1, 1) := by decide +kernel
theorem dX3_put_26 : decode cX3_put 26 = .ok (.iadd, 1) := by decide +kernel
theorem dX3_put_27 : decode cX3_put 27 = .ok (.putfield 21, 3) := by decide +kernel
theorem dX3_put_30 : decode cX3_put 30 = .ok (.aload_n 0, 1) := by decide +kernel
theorem dX3_put_31 : decode cX3_put 31 = .ok (.getfield 9, 3) := by decide +kernel
theorem dX3_put_34 : decode cX3_put 34 = .ok (.iload_n 1, 1) := by decide +kernel
theorem dX3_put_35 : decode cX3_put 35 = .ok (.iload_n 2, 1) := by decide +kernel
theorem dX3_put_36 : decode cX3_put 36 = .ok (.iastore, 1) := by decide +kernel
theorem dX3_put_37 : decode cX3_put 37 = .ok (.return_, 1) := by decide +kernel
theorem dX3_drop_0 : decode cX3_drop 0 = .ok (.aload_n 0, 1) := by decide +kernel
theorem dX3_drop_1 : decode cX3_drop 1 = .ok (.iload_n 1, 1) := by decide +kernel
theorem dX3_drop_2 : decode cX3_drop 2 = .ok (.invokevirtual 25, 3) := by decide +kernel
theorem dX3_drop_5 : decode cX3_drop 5 = .ok (.iconst (-1), 1) := by decide +kernel
theorem dX3_drop_6 : decode cX3_drop 6 = .ok (.if_icmp .eq 20, 3) := by decide +kernel
theorem dX3_drop_9 : decode cX3_drop 9 = .ok (.aload_n 0, 1) := by decide +kernel
theorem dX3_drop_10 : decode cX3_drop 10 = .ok (.getfield 9, 3) := by decide +kernel
theorem dX3_drop_13 : decode cX3_drop 13 = .ok (.iload_n 1, 1) := by decide +kernel
theorem dX3_drop_14 : decode cX3_drop 14 = .ok (.iconst (-1), 1) := by decide +kernel
theorem dX3_drop_15 : decode cX3_drop 15 = .ok (.iastore, 1) := by decide +kernel
theorem dX3_drop_16 : decode cX3_drop 16 = .ok (.aload_n 0, 1) := by decide +kernel
theorem dX3_drop_17 : decode cX3_drop 17 = .ok (.dup, 1) := by decide +kernel
theorem dX3_drop_18 : decode cX3_drop 18 = .ok (.getfield 21, 3) := by decide +kernel
theorem dX3_drop_21 : decode cX3_drop 21 = .ok (.iconst 1, 1) := by decide +kernel
theorem dX3_drop_22 : decode cX3_drop 22 = .ok (.isub, 1) := by decide +kernel
theorem dX3_drop_23 : decode cX3_drop 23 = .ok (.putfield 21, 3) := by decide +kernel
theorem dX3_drop_26 : decode cX3_drop 26 = .ok (.return_, 1) := by decide +kernel
theorem dX4_init_0 : decode cX4_init 0 = .ok (.aload_n 0, 1) := by decide +kernel
theorem dX4_init_1 : decode cX4_init 1 = .ok (.invokespecial 3, 3) := by decide +kernel
theorem dX4_init_4 : decode cX4_init 4 = .ok (.aload_n 0, 1) := by decide +kernel
theorem dX4_init_5 : decode cX4_init 5 = .ok (.aload_n 1, 1) := by decide +kernel
theorem dX4_init_6 : decode cX4_init 6 = .ok (.putfield 9, 3) := by decide +kernel
theorem dX4_init_9 : decode cX4_init 9 = .ok (.aload_n 0, 1) := by decide +kernel
theorem dX4_init_10 : decode cX4_init 10 = .ok (.aload_n 2, 1) := by decide +kernel
theorem dX4_init_11 : decode cX4_init 11 = .ok (.putfield 15, 3) := by decide +kernel
theorem dX4_init_14 : decode cX4_init 14 = .ok (.aload_n 0, 1) := by decide +kernel
theorem dX4_init_15 : decode cX4_init 15 = .ok (.aload_n 3, 1) := by decide +kernel
theorem dX4_init_16 : decode cX4_init 16 = .ok (.putfield 19, 3) := by decide +kernel
theorem dX4_init_19 : decode cX4_init 19 = .ok (.aload_n 0, 1) := by decide +kernel
theorem dX4_init_20 : decode cX4_init 20 = .ok (.aload 4, 2) := by decide +kernel
theorem dX4_init_22 : decode cX4_init 22 = .ok (.putfield 23, 3) := by decide +kernel
theorem dX4_init_25 : decode cX4_init 25 = .ok (.aload_n 0, 1) := by decide +kernel
theorem dX4_init_26 : decode cX4_init 26 = .ok (.bipush 80, 2) := by decide +kernel
theorem dX4_init_28 : decode cX4_init 28 = .ok (.newarray .int, 2) := by decide +kernel
theorem dX4_init_30 : decode cX4_init 30 = .ok (.putfield 27, 3) := by decide +kernel
theorem dX4_init_33 : decode cX4_init 33 = .ok (.aload_n 0, 1) := by decide +kernel
theorem dX4_init_34 : decode cX4_init 34 = .ok (.bipush 80, 2) := by decide +kernel
theorem dX4_init_36 : decode cX4_init 36 = .ok (.newarray .int, 2) := by decide +kernel
theorem dX4_init_38 : decode cX4_init 38 = .ok (.putfield 31, 3) := by decide +kernel
theorem dX4_init_41 : decode cX4_init 41 = .ok (.aload_n 0, 1) := by decide +kernel
theorem dX4_init_42 : decode cX4_init 42 = .ok (.bipush 80, 2) := by decide +kernel
theorem dX4_init_44 : decode cX4_init 44 = .ok (.newarray .boolean, 2) := by decide +kernel
theorem dX4_init_46 : decode cX4_init 46 = .ok (.putfield 34, 3) := by decide +kernel
theorem dX4_init_49 : decode cX4_init 49 = .ok (.return_, 1) := by decide +kernel
theorem dX4_readMention_0 : decode cX4_readMention 0 = .ok (.aload_n 0, 1) := by decide +kernel
theorem dX4_readMention_1 : decode cX4_readMention 1 = .ok (.getfield 9, 3) := by decide +kernel
theorem dX4_readMention_4 : decode cX4_readMention 4 = .ok (.iload_n 1, 1) := by decide +kernel
theorem dX4_readMention_5 : decode cX4_readMention 5 = .ok (.invokevirtual 38, 3) := by decide +kernel
theorem dX4_readMention_8 : decode cX4_readMention 8 = .ok (.ifCond .ne 4, 3) := by decide +kernel
theorem dX4_readMention_11 : decode cX4_readMention 11 = .ok (.return_, 1) := by decide +kernel
theorem dX4_readMention_12 : decode cX4_readMention 12 = .ok (.aload_n 0, 1) := by decide +kernel
theorem dX4_readMention_13 : decode cX4_readMention 13 = .ok (.getfield 31, 3) := by decide +kernel
theorem dX4_readMention_16 : decode cX4_readMention 16 = .ok (.iload_n 1, 1) := by decide +kernel
theorem dX4_readMention_17 : decode cX4_readMention 17 = .ok (.iconst 0, 1) := by decide +kernel
theorem dX4_readMention_18 : decode cX4_readMention 18 = .ok (.iastore, 1) := by decide +kernel
theorem dX4_readMention_19 : decode cX4_readMention 19 = .ok (.aload_n 0, 1) := by decide +kernel
theorem dX4_readMention_20 : decode cX4_readMention 20 = .ok (.getfield 34, 3) := by decide +kernel
theorem dX4_readMention_23 : decode cX4_readMention 23 = .ok (.iload_n 1, 1) := by decide +kernel
theorem dX4_readMention_24 : decode cX4_readMention 24 = .ok (.iconst 0, 1) := by decide +kernel
theorem dX4_readMention_25 : decode cX4_readMention 25 = .ok (.bastore, 1) := by decide +kernel
theorem dX4_readMention_26 : decode cX4_readMention 26 = .ok (.aload_n 0, 1) := by decide +kernel
theorem dX4_readMention_27 : decode cX4_readMention 27 = .ok (.getfield 15, 3) := by decide +kernel
theorem dX4_readMention_30 : decode cX4_readMention 30 = .ok (.iload_n 1, 1) := by decide +kernel
theorem dX4_readMention_31 : decode cX4_readMention 31 = .ok (.invokevirtual 44, 3) := by decide +kernel
theorem dX4_readMention_34 : decode cX4_readMention 34 = .ok (.iconst (-1), 1) := by decide +kernel
theorem dX4_readMention_35 : decode cX4_readMention 35 = .ok (.if_icmp .eq 17, 3) := by decide +kernel
theorem dX4_readMention_38 : decode cX4_readMention 38 = .ok (.aload_n 0, 1) := by decide +kernel
theorem dX4_readMention_39 : decode cX4_readMention 39 = .ok (.getfield 27, 3) := by decide +kernel
theorem dX4_readMention_42 : decode cX4_readMention 42 = .ok (.iload_n 1, 1) := by decide +kernel
theorem dX4_readMention_43 : decode cX4_readMention 43 = .ok (.aload_n 0, 1) := by decide +kernel
theorem dX4_readMention_44 : decode cX4_readMention 44 = .ok (.iload_n 1, 1) := by decide +kernel
theorem dX4_readMention_45 : decode cX4_readMention 45 = .ok (.invokevirtual 50, 3) := by decide +kernel
theorem dX4_readMention_48 : decode cX4_readMention 48 = .ok (.iastore, 1) := by decide +kernel
theorem dX4_readMention_49 : decode cX4_readMention 49 = .ok (.goto 39, 3) := by decide +kernel
theorem dX4_readMention_52 : decode cX4_readMention 52 = .ok (.aload_n 0, 1) := by decide +kernel
theorem dX4_readMention_53 : decode cX4_readMention 53 = .ok (.getfield 9, 3) := by decide +kernel
theorem dX4_readMention_56 : decode cX4_readMention 56 = .ok (.iload_n 1, 1) := by decide +kernel
theorem dX4_readMention_57 : decode cX4_readMention 57 = .ok (.invokevirtual 53, 3) := by decide +kernel
theorem dX4_readMention_60 : decode cX4_readMention 60 = .ok (.ifCond .eq 17, 3) := by decide +kernel
theorem dX4_readMention_63 : decode cX4_readMention 63 = .ok (.aload_n 0, 1) := by decide +kernel
theorem dX4_readMention_64 : decode cX4_readMention 64 = .ok (.getfield 27, 3) := by decide +kernel
theorem dX4_readMention_67 : decode cX4_readMention 67 = .ok (.iload_n 1, 1) := by decide +kernel
theorem dX4_readMention_68 : decode cX4_readMention 68 = .ok (.aload_n 0, 1) := by decide +kernel
theorem dX4_readMention_69 : decode cX4_readMention 69 = .ok (.iload_n 1, 1) := by decide +kernel
theorem dX4_readMention_70 : decode cX4_readMention 70 = .ok (.invokevirtual 56, 3) := by decide +kernel
theorem dX4_readMention_73 : decode cX4_readMention 73 = .ok (.iastore, 1) := by decide +kernel
theorem dX4_readMention_74 : decode cX4_readMention 74 = .ok (.goto 14, 3) := by decide +kernel
theorem dX4_readMention_77 : decode cX4_readMention 77 = .ok (.aload_n 0, 1) := by decide +kernel
theorem dX4_readMention_78 : decode cX4_readMention 78 = .ok (.getfield 27, 3) := by decide +kernel
theorem dX4_readMention_81 : decode cX4_readMention 81 = .ok (.iload_n 1, 1) := by decide +kernel
theorem dX4_readMention_82 : decode cX4_readMention 82 = .ok (.aload_n 0, 1) := by decide +kernel
theorem dX4_readMention_83 : decode cX4_readMention 83 = .ok (.iload_n 1, 1) := by decide +kernel
theorem dX4_readMention_84 : decode cX4_readMention 84 = .ok (.invokevirtual 59, 3) := by decide +kernel
theorem dX4_readMention_87 : decode cX4_readMention 87 = .ok (.iastore, 1) := by decide +kernel
theorem dX4_readMention_88 : decode cX4_readMention 88 = .ok (.aload_n 0, 1) := by decide +kernel
theorem dX4_readMention_89 : decode cX4_readMention 89 = .ok (.getfield 19, 3) := by decide +kernel
theorem dX4_readMention_92 : decode cX4_readMention 92 = .ok (.aload_n 0, 1) := by decide +kernel
theorem dX4_readMention_93 : decode cX4_readMention 93 = .ok (.getfield 27, 3) := by decide +kernel
theorem dX4_readMention_96 : decode cX4_readMention 96 = .ok (.iload_n 1, 1) := by decide +kernel
theorem dX4_readMention_97 : decode cX4_readMention 97 = .ok (.iaload, 1) := by decide +kernel
theorem dX4_readMention_98 : decode cX4_readMention 98 = .ok (.iload_n 1, 1) := by decide +kernel
theorem dX4_readMention_99 : decode cX4_readMention 99 = .ok (.invokevirtual 62, 3) := by decide +kernel
theorem dX4_readMention_102 : decode cX4_readMention 102 = .ok (.aload_n 0, 1) := by decide +kernel
theorem dX4_readMention_103 : decode cX4_readMention 103 = .ok (.getfield 9, 3) := by decide +kernel
theorem dX4_readMention_106 : decode cX4_readMention 106 = .ok (.iload_n 1, 1) := by decide +kernel
theorem dX4_readMention_107 : decode cX4_readMention 107 = .ok (.invokevirtual 68, 3) := by decide +kernel
theorem dX4_readMention_110 : decode cX4_readMention 110 = .ok (.istore_n 2, 1) := by decide +kernel
theorem dX4_readMention_111 : decode cX4_readMention 111 = .ok (.iload_n 2, 1) := by decide +kernel
theorem dX4_readMention_112 : decode cX4_readMention 112 = .ok (.bipush 7, 2) := by decide +kernel
theorem dX4_readMention_114 : decode cX4_readMention 114 = .ok (.if_icmp .ne 19, 3) := by decide +kernel
theorem dX4_readMention_117 : decode cX4_readMention 117 = .ok (.aload_n 0, 1) := by decide +kernel
theorem dX4_readMention_118 : decode cX4_readMention 118 = .ok (.aload_n 0, 1) := by decide +kernel
theorem dX4_readMention_119 : decode cX4_readMention 119 = .ok (.iload_n 1, 1) := by decide +kernel
theorem dX4_readMention_120 : decode cX4_readMention 120 = .ok (.iconst 1, 1) := by decide +kernel
theorem dX4_readMention_121 : decode cX4_readMention 121 = .ok (.isub, 1) := by decide +kernel
theorem dX4_readMention_122 : decode cX4_readMention 122 = .ok (.invokevirtual 71, 3) := by decide +kernel
theorem dX4_readMention_125 : decode cX4_readMention 125 = .ok (.aload_n 0, 1) := by decide +kernel
theorem dX4_readMention_126 : decode cX4_readMention 126 = .ok (.iload_n 1, 1) := by decide +kernel
theorem dX4_readMention_127 : decode cX4_readMention 127 = .ok (.invokevirtual 71, 3) := by decide +kernel
theorem dX4_readMention_130 : decode cX4_readMention 130 = .ok (.invokevirtual 74, 3) := by decide +kernel
theorem dX4_readMention_133 : decode cX4_readMention 133 = .ok (.iload_n 2, 1) := by decide +kernel
theorem dX4_readMention_134 : decode cX4_readMention 134 = .ok (.bipush 6, 2) := by decide +kernel
theorem dX4_readMention_136 : decode cX4_readMention 136 = .ok (.if_icmp .ne 23, 3) := by decide +kernel
theorem dX4_readMention_139 : decode cX4_readMention 139 = .ok (.aload_n 0, 1) := by decide +kernel
theorem dX4_readMention_140 : decode cX4_readMention 140 = .ok (.getfield 9, 3) := by decide +kernel
theorem dX4_readMention_143 : decode cX4_readMention 143 = .ok (.iload_n 1, 1) := by decide +kernel
theorem dX4_readMention_144 : decode cX4_readMention 144 = .ok (.iconst 1, 1) := by decide +kernel
theorem dX4_readMention_145 : decode cX4_readMention 145 = .ok (.iadd, 1) := by decide +kernel
theorem dX4_readMention_146 : decode cX4_readMention 146 = .ok (.invokevirtual 68, 3) := by decide +kernel
theorem dX4_readMention_149 : decode cX4_readMention 149 = .ok (.bipush 6, 2) := by decide +kernel
theorem dX4_readMention_151 : decode cX4_readMention 151 = .ok (.if_icmp .eq 8, 3) := by decide +kernel
theorem dX4_readMention_154 : decode cX4_readMention 154 = .ok (.aload_n 0, 1) := by decide +kernel
theorem dX4_readMention_155 : decode cX4_readMention 155 = .ok (.iload_n 1, 1) := by decide +kernel
theorem dX4_readMention_156 : decode cX4_readMention 156 = .ok (.invokevirtual 77, 3) := by decide +kernel
theorem dX4_readMention_159 : decode cX4_readMention 159 = .ok (.return_, 1) := by decide +kernel
theorem dX4_readPinned_0 : decode cX4_readPinned 0 = .ok (.aload_n 0, 1) := by decide +kernel
theorem dX4_readPinned_1 : decode cX4_readPinned 1 = .ok (.aload_n 0, 1) := by decide +kernel
theorem dX4_readPinned_2 : decode cX4_readPinned 2 = .ok (.getfield 15, 3) := by decide +kernel
theorem dX4_readPinned_5 : decode cX4_readPinned 5 = .ok (.iload_n 1, 1) := by decide +kernel
theorem dX4_readPinned_6 : decode cX4_readPinned 6 = .ok (.invokevirtual 44, 3) := by decide +kernel
theorem dX4_readPinned_9 : decode cX4_readPinned 9 = .ok (.invokevirtual 71, 3) := by decide +kernel
theorem dX4_readPinned_12 : decode cX4_readPinned 12 = .ok (.istore_n 2, 1) := by decide +kernel
theorem dX4_readPinned_13 : decode cX4_readPinned 13 = .ok (.aload_n 0, 1) := by decide +kernel
theorem dX4_readPinned_14 : decode cX4_readPinned 14 = .ok (.getfield 9, 3) := by decide +kernel
theorem dX4_readPinned_17 : decode cX4_readPinned 17 = .ok (.iload_n 1, 1) := by decide +kernel
theorem dX4_readPinned_18 : decode cX4_readPinned 18 = .ok (.invokevirtual 53, 3) := by decide +kernel
theorem dX4_readPinned_21 : decode cX4_readPinned 21 = .ok (.ifCond .eq 35, 3) := by decide +kernel
theorem dX4_readPinned_24 : decode cX4_readPinned 24 = .ok (.aload_n 0, 1) := by decide +kernel
theorem dX4_readPinned_25 : decode cX4_readPinned 25 = .ok (.getfield 19, 3) := by decide +kernel
theorem dX4_readPinned_28 : decode cX4_readPinned 28 = .ok (.iload_n 2, 1) := by decide +kernel
theorem dX4_readPinned_29 : decode cX4_readPinned 29 = .ok (.invokevirtual 81, 3) := by decide +kernel
theorem dX4_readPinned_32 : decode cX4_readPinned 32 = .ok (.ifCond .ne 24, 3) := by decide +kernel
theorem dX4_readPinned_35 : decode cX4_readPinned 35 = .ok (.aload_n 0, 1) := by decide +kernel
theorem dX4_readPinned_36 : decode cX4_readPinned 36 = .ok (.getfield 23, 3) := by decide +kernel
theorem dX4_readPinned_39 : decode cX4_readPinned 39 = .ok (.iload_n 1, 1) := by decide +kernel
theorem dX4_readPinned_40 : decode cX4_readPinned 40 = .ok (.invokevirtual 84, 3) := by decide +kernel
theorem dX4_readPinned_43 : decode cX4_readPinned 43 = .ok (.iconst (-1), 1) := by decide +kernel
theorem dX4_readPinned_44 : decode cX4_readPinned 44 = .ok (.if_icmp .ne 12, 3) := by decide +kernel
theorem dX4_readPinned_47 : decode cX4_readPinned 47 = .ok (.aload_n 0, 1) := by decide +kernel
theorem dX4_readPinned_48 : decode cX4_readPinned 48 = .ok (.getfield 23, 3) := by decide +kernel
theorem dX4_readPinned_51 : decode cX4_readPinned 51 = .ok (.iload_n 1, 1) := by decide +kernel
theorem dX4_readPinned_52 : decode cX4_readPinned 52 = .ok (.iload_n 2, 1) := by decide +kernel
theorem dX4_readPinned_53 : decode cX4_readPinned 53 = .ok (.invokevirtual 89, 3) := by decide +kernel
theorem dX4_readPinned_56 : decode cX4_readPinned 56 = .ok (.iload_n 2, 1) := by decide +kernel
theorem dX4_readPinned_57 : decode cX4_readPinned 57 = .ok (.ireturn, 1) := by decide +kernel
theorem dX4_readName_0 : decode cX4_readName 0 = .ok (.aload_n 0, 1) := by decide +kernel
theorem dX4_readName_1 : decode cX4_readName 1 = .ok (.getfield 23, 3) := by decide +kernel
theorem dX4_readName_4 : decode cX4_readName 4 = .ok (.iload_n 1, 1) := by decide +kernel
theorem dX4_readName_5 : decode cX4_readName 5 = .ok (.invokevirtual 84, 3) := by decide +kernel
theorem dX4_readName_8 : decode cX4_readName 8 = .ok (.istore_n 2, 1) := by decide +kernel
theorem dX4_readName_9 : decode cX4_readName 9 = .ok (.iload_n 2, 1) := by decide +kernel
theorem dX4_readName_10 : decode cX4_readName 10 = .ok (.iconst (-1), 1) := by decide +kernel
theorem dX4_readName_11 : decode cX4_readName 11 = .ok (.if_icmp .eq 5, 3) := by decide +kernel
theorem dX4_readName_14 : decode cX4_readName 14 = .ok (.iload_n 2, 1) := by decide +kernel
theorem dX4_readName_15 : decode cX4_readName 15 = .ok (.ireturn, 1) := by decide +kernel
theorem dX4_readName_16 : decode cX4_readName 16 = .ok (.aload_n 0, 1) := by decide +kernel
theorem dX4_readName_17 : decode cX4_readName 17 = .ok (.getfield 9, 3) := by decide +kernel
theorem dX4_readName_20 : decode cX4_readName 20 = .ok (.iload_n 1, 1) := by decide +kernel
theorem dX4_readName_21 : decode cX4_readName 21 = .ok (.invokevirtual 92, 3) := by decide +kernel
theorem dX4_readName_24 : decode cX4_readName 24 = .ok (.istore_n 3, 1) := by decide +kernel
theorem dX4_readName_25 : decode cX4_readName 25 = .ok (.aload_n 0, 1) := by decide +kernel
theorem dX4_readName_26 : decode cX4_readName 26 = .ok (.getfield 23, 3) := by decide +kernel
theorem dX4_readName_29 : decode cX4_readName 29 = .ok (.iload_n 1, 1) := by decide +kernel
theorem dX4_readName_30 : decode cX4_readName 30 = .ok (.invokevirtual 95, 3) := by decide +kernel
theorem dX4_readName_33 : decode cX4_readName 33 = .ok (.istore_n 2, 1) := by decide +kernel
theorem dX4_readName_34 : decode cX4_readName 34 = .ok (.iload_n 2, 1) := by decide +kernel
theorem dX4_readName_35 : decode cX4_readName 35 = .ok (.iconst (-1), 1) := by decide +kernel
theorem dX4_readName_36 : decode cX4_readName 36 = .ok (.if_icmp .ne 12, 3) := by decide +kernel
theorem dX4_readName_39 : decode cX4_readName 39 = .ok (.aload_n 0, 1) := by decide +kernel
theorem dX4_readName_40 : decode cX4_readName 40 = .ok (.getfield 23, 3) := by decide +kernel
theorem dX4_readName_43 : decode cX4_readName 43 = .ok (.iload_n 1, 1) := by decide +kernel
theorem dX4_readName_44 : decode cX4_readName 44 = .ok (.invokevirtual 98, 3) := by decide +kernel
theorem dX4_readName_47 : decode cX4_readName 47 = .ok (.istore_n 2, 1) := by decide +kernel
theorem dX4_readName_48 : decode cX4_readName 48 = .ok (.iload_n 2, 1) := by decide +kernel
theorem dX4_readName_49 : decode cX4_readName 49 = .ok (.iconst (-1), 1) := by decide +kernel
theorem dX4_readName_50 : decode cX4_readName 50 = .ok (.if_icmp .ne 16, 3) := by decide +kernel
theorem dX4_readName_53 : decode cX4_readName 53 = .ok (.aload_n 0, 1) := by decide +kernel
theorem dX4_readName_54 : decode cX4_readName 54 = .ok (.getfield 19, 3) := by decide +kernel
theorem dX4_readName_57 : decode cX4_readName 57 = .ok (.iload_n 3, 1) := by decide +kernel
theorem dX4_readName_58 : decode cX4_readName 58 = .ok (.iconst 0, 1) := by decide +kernel
theorem dX4_readName_59 : decode cX4_readName 59 = .ok (.invokevirtual 101, 3) := by decide +kernel
theorem dX4_readName_62 : decode cX4_readName 62 = .ok (.istore_n 2, 1) := by decide +kernel
theorem dX4_readName_63 : decode cX4_readName 63 = .ok (.goto 12, 3) := by decide +kernel
theorem dX4_readName_66 : decode cX4_readName 66 = .ok (.aload_n 0, 1) := by decide +kernel
theorem dX4_readName_67 : decode cX4_readName 67 = .ok (.getfield 19, 3) := by decide +kernel
theorem dX4_readName_70 : decode cX4_readName 70 = .ok (.iload_n 2, 1) := by decide +kernel
theorem dX4_readName_71 : decode cX4_readName 71 = .ok (.iload_n 3, 1) := by decide +kernel
theorem dX4_readName_72 : decode cX4_readName 72 = .ok (.invokevirtual 104, 3) := by decide +kernel
theorem dX4_readName_75 : decode cX4_readName 75 = .ok (.aload_n 0, 1) := by decide +kernel
theorem dX4_readName_76 : decode cX4_readName 76 = .ok (.getfield 23, 3) := by decide +kernel
theorem dX4_readName_79 : decode cX4_readName 79 = .ok (.iload_n 1, 1) := by decide +kernel
theorem dX4_readName_80 : decode cX4_readName 80 = .ok (.iload_n 2, 1) := by decide +kernel
theorem dX4_readName_81 : decode cX4_readName 81 = .ok (.invokevirtual 89, 3) := by decide +kernel
theorem dX4_readName_84 : decode cX4_readName 84 = .ok (.iload_n 2, 1) := by decide +kernel
theorem dX4_readName_85 : decode cX4_readName 85 = .ok (.ireturn, 1) := by decide +kernel
theorem dX4_readHeWord_0 : decode cX4_readHeWord 0 = .ok (.aload_n 0, 1) := by decide +kernel
theorem dX4_readHeWord_1 : decode cX4_readHeWord 1 = .ok (.getfield 9, 3) := by decide +kernel
theorem dX4_readHeWord_4 : decode cX4_readHeWord 4 = .ok (.iload_n 1, 1) := by decide +kernel
theorem dX4_readHeWord_5 : decode cX4_readHeWord 5 = .ok (.invokevirtual 107, 3) := by decide +kernel
theorem dX4_readHeWord_8 : decode cX4_readHeWord 8 = .ok (.istore_n 2, 1) := by decide +kernel
theorem dX4_readHeWord_9 : decode cX4_readHeWord 9 = .ok (.iconst (-1), 1) := by decide +kernel
theorem dX4_readHeWord_10 : decode cX4_readHeWord 10 = .ok (.istore_n 3, 1) := by decide +kernel
theorem dX4_readHeWord_11 : decode cX4_readHeWord 11 = .ok (.iconst (-1), 1) := by decide +kernel
theorem dX4_readHeWord_12 : decode cX4_readHeWord 12 = .ok (.istore 4, 2) := by decide +kernel
theorem dX4_readHeWord_14 : decode cX4_readHeWord 14 = .ok (.iconst 0, 1) := by decide +kernel
theorem dX4_readHeWord_15 : decode cX4_readHeWord 15 = .ok (.istore 5, 2) := by decide +kernel
theorem dX4_readHeWord_17 : decode cX4_readHeWord 17 = .ok (.iload 5, 2) := by decide +kernel
theorem dX4_readHeWord_19 : decode cX4_readHeWord 19 = .ok (.aload_n 0, 1) := by decide +kernel
theorem dX4_readHeWord_20 : decode cX4_readHeWord 20 = .ok (.getfield 19, 3) := by decide +kernel
theorem dX4_readHeWord_23 : decode cX4_readHeWord 23 = .ok (.invokevirtual 110, 3) := by decide +kernel
theorem dX4_readHeWord_26 : decode cX4_readHeWord 26 = .ok (.if_icmp .ge 87, 3) := by decide +kernel
theorem dX4_readHeWord_29 : decode cX4_readHeWord 29 = .ok (.aload_n 0, 1) := by decide +kernel
theorem dX4_readHeWord_30 : decode cX4_readHeWord 30 = .ok (.iload 5, 2) := by decide +kernel
theorem dX4_readHeWord_32 : decode cX4_readHeWord 32 = .ok (.iload_n 2, 1) := by decide +kernel
theorem dX4_readHeWord_33 : decode cX4_readHeWord 33 = .ok (.iload_n 1, 1) := by decide +kernel
theorem dX4_readHeWord_34 : decode cX4_readHeWord 34 = .ok (.invokevirtual 114, 3) := by decide +kernel
theorem dX4_readHeWord_37 : decode cX4_readHeWord 37 = .ok (.ifCond .eq 70, 3) := by decide +kernel
theorem dX4_readHeWord_40 : decode cX4_readHeWord 40 = .ok (.aload_n 0, 1) := by decide +kernel
theorem dX4_readHeWord_41 : decode cX4_readHeWord 41 = .ok (.getfield 31, 3) := by decide +kernel
theorem dX4_readHeWord_44 : decode cX4_readHeWord 44 = .ok (.iload_n 1, 1) := by decide +kernel
theorem dX4_readHeWord_45 : decode cX4_readHeWord 45 = .ok (.dup2, 1) := by decide +kernel
theorem dX4_readHeWord_46 : decode cX4_readHeWord 46 = .ok (.iaload, 1) := by decide +kernel
theorem dX4_readHeWord_47 : decode cX4_readHeWord 47 = .ok (.iconst 1, 1) := by decide +kernel
theorem dX4_readHeWord_48 : decode cX4_readHeWord 48 = .ok (.iload 5, 2) := by decide +kernel
theorem dX4_readHeWord_50 : decode cX4_readHeWord 50 = .ok (.ishl, 1) := by decide +kernel
theorem dX4_readHeWord_51 : decode cX4_readHeWord 51 = .ok (.ior, 1) := by decide +kernel
theorem dX4_readHeWord_52 : decode cX4_readHeWord 52 = .ok (.iastore, 1) := by decide +kernel
theorem dX4_readHeWord_53 : decode cX4_readHeWord 53 = .ok (.aload_n 0, 1) := by decide +kernel
theorem dX4_readHeWord_54 : decode cX4_readHeWord 54 = .ok (.getfield 19, 3) := by decide +kernel
theorem dX4_readHeWord_57 : decode cX4_readHeWord 57 = .ok (.iload 5, 2) := by decide +kernel
theorem dX4_readHeWord_59 : decode cX4_readHeWord 59 = .ok (.invokevirtual 118, 3) := by decide +kernel
theorem dX4_readHeWord_62 : decode cX4_readHeWord 62 = .ok (.aload_n 0, 1) := by decide +kernel
theorem dX4_readHeWord_63 : decode cX4_readHeWord 63 = .ok (.getfield 19, 3) := by decide +kernel
theorem dX4_readHeWord_66 : decode cX4_readHeWord 66 = .ok (.iload_n 3, 1) := by decide +kernel
theorem dX4_readHeWord_67 : decode cX4_readHeWord 67 = .ok (.invokevirtual 118, 3) := by decide +kernel
theorem dX4_readHeWord_70 : decode cX4_readHeWord 70 = .ok (.if_icmp .le 12, 3) := by decide +kernel
theorem dX4_readHeWord_73 : decode cX4_readHeWord 73 = .ok (.iload_n 3, 1) := by decide +kernel
theorem dX4_readHeWord_74 : decode cX4_readHeWord 74 = .ok (.istore 4, 2) := by decide +kernel
theorem dX4_readHeWord_76 : decode cX4_readHeWord 76 = .ok (.iload 5, 2) := by decide +kernel
theorem dX4_readHeWord_78 : decode cX4_readHeWord 78 = .ok (.istore_n 3, 1) := by decide +kernel
theorem dX4_readHeWord_79 : decode cX4_readHeWord 79 = .ok (.goto 28, 3) := by decide +kernel
theorem dX4_readHeWord_82 : decode cX4_readHeWord 82 = .ok (.aload_n 0, 1) := by decide +kernel
theorem dX4_readHeWord_83 : decode cX4_readHeWord 83 = .ok (.getfield 19, 3) := by decide +kernel
theorem dX4_readHeWord_86 : decode cX4_readHeWord 86 = .ok (.iload 5, 2) := by decide +kernel
theorem dX4_readHeWord_88 : decode cX4_readHeWord 88 = .ok (.invokevirtual 118, 3) := by decide +kernel
theorem dX4_readHeWord_91 : decode cX4_readHeWord 91 = .ok (.aload_n 0, 1) := by decide +kernel
theorem dX4_readHeWord_92 : decode cX4_readHeWord 92 = .ok (.getfield 19, 3) := by decide +kernel
theorem dX4_readHeWord_95 : decode cX4_readHeWord 95 = .ok (.iload 4, 2) := by decide +kernel
theorem dX4_readHeWord_97 : decode cX4_readHeWord 97 = .ok (.invokevirtual 118, 3) := by decide +kernel
theorem dX4_readHeWord_100 : decode cX4_readHeWord 100 = .ok (.if_icmp .le 7, 3) := by decide +kernel
theorem dX4_readHeWord_103 : decode cX4_readHeWord 103 = .ok (.iload 5, 2) := by decide +kernel
theorem dX4_readHeWord_105 : decode cX4_readHeWord 105 = .ok (.istore 4, 2) := by decide +kernel
theorem dX4_readHeWord_107 : decode cX4_readHeWord 107 = .ok (.iinc 5 1, 3) := by decide +kernel
theorem dX4_readHeWord_110 : decode cX4_readHeWord 110 = .ok (.goto (-93), 3) := by decide +kernel
theorem dX4_readHeWord_113 : decode cX4_readHeWord 113 = .ok (.aload_n 0, 1) := by decide +kernel
theorem dX4_readHeWord_114 : decode cX4_readHeWord 114 = .ok (.getfield 34, 3) := by decide +kernel
theorem dX4_readHeWord_117 : decode cX4_readHeWord 117 = .ok (.iload_n 1, 1) := by decide +kernel
theorem dX4_readHeWord_118 : decode cX4_readHeWord 118 = .ok (.iload 4, 2) := by decide +kernel
theorem dX4_readHeWord_120 : decode cX4_readHeWord 120 = .ok (.iconst (-1), 1) := by decide +kernel
theorem dX4_readHeWord_121 : decode cX4_readHeWord 121 = .ok (.if_icmp .eq 21, 3) := by decide +kernel
theorem dX4_readHeWord_124 : decode cX4_readHeWord 124 = .ok (.aload_n 0, 1) := by decide +kernel
theorem dX4_readHeWord_125 : decode cX4_readHeWord 125 = .ok (.iload 4, 2) := by decide +kernel
theorem dX4_readHeWord_127 : decode cX4_readHeWord 127 = .ok (.invokevirtual 121, 3) := by decide +kernel
theorem dX4_readHeWord_130 : decode cX4_readHeWord 130 = .ok (.aload_n 0, 1) := by decide +kernel
theorem dX4_readHeWord_131 : decode cX4_readHeWord 131 = .ok (.iload_n 3, 1) := by decide +kernel
theorem dX4_readHeWord_132 : decode cX4_readHeWord 132 = .ok (.invokevirtual 121, 3) := by decide +kernel
theorem dX4_readHeWord_135 : decode cX4_readHeWord 135 = .ok (.if_icmp .ne 7, 3) := by decide +kernel
theorem dX4_readHeWord_138 : decode cX4_readHeWord 138 = .ok (.iconst 1, 1) := by decide +kernel
theorem dX4_readHeWord_139 : decode cX4_readHeWord 139 = .ok (.goto 4, 3) := by decide +kernel
theorem dX4_readHeWord_142 : decode cX4_readHeWord 142 = .ok (.iconst 0, 1) := by decide +kernel
theorem dX4_readHeWord_143 : decode cX4_readHeWord 143 = .ok (.bastore, 1) := by decide +kernel
theorem dX4_readHeWord_144 : decode cX4_readHeWord 144 = .ok (.aload_n 0, 1) := by decide +kernel
theorem dX4_readHeWord_145 : decode cX4_readHeWord 145 = .ok (.getfield 19, 3) := by decide +kernel
theorem dX4_readHeWord_148 : decode cX4_readHeWord 148 = .ok (.iload_n 3, 1) := by decide +kernel
theorem dX4_readHeWord_149 : decode cX4_readHeWord 149 = .ok (.iload_n 2, 1) := by decide +kernel
theorem dX4_readHeWord_150 : decode cX4_readHeWord 150 = .ok (.invokevirtual 104, 3) := by decide +kernel
theorem dX4_readHeWord_153 : decode cX4_readHeWord 153 = .ok (.iload_n 3, 1) := by decide +kernel
theorem dX4_readHeWord_154 : decode cX4_readHeWord 154 = .ok (.ireturn, 1) := by decide +kernel
theorem dX4_fitsHeWord_0 : decode cX4_fitsHeWord 0 = .ok (.aload_n 0, 1) := by decide +kernel
theorem dX4_fitsHeWord_1 : decode cX4_fitsHeWord 1 = .ok (.getfield 19, 3) := by decide +kernel
theorem dX4_fitsHeWord_4 : decode cX4_fitsHeWord 4 = .ok (.iload_n 1, 1) := by decide +kernel
theorem dX4_fitsHeWord_5 : decode cX4_fitsHeWord 5 = .ok (.invokevirtual 124, 3) := by decide +kernel
theorem dX4_fitsHeWord_8 : decode cX4_fitsHeWord 8 = .ok (.ifCond .eq 15, 3) := by decide +kernel
theorem dX4_fitsHeWord_11 : decode cX4_fitsHeWord 11 = .ok (.aload_n 0, 1) := by decide +kernel
theorem dX4_fitsHeWord_12 : decode cX4_fitsHeWord 12 = .ok (.getfield 19, 3) := by decide +kernel
theorem dX4_fitsHeWord_15 : decode cX4_fitsHeWord 15 = .ok (.iload_n 1, 1) := by decide +kernel
theorem dX4_fitsHeWord_16 : decode cX4_fitsHeWord 16 = .ok (.invokevirtual 118, 3) := by decide +kernel
theorem dX4_fitsHeWord_19 : decode cX4_fitsHeWord 19 = .ok (.iconst (-1), 1) := by decide +kernel
theorem dX4_fitsHeWord_20 : decode cX4_fitsHeWord 20 = .ok (.if_icmp .ne 5, 3) := by decide +kernel
theorem dX4_fitsHeWord_23 : decode cX4_fitsHeWord 23 = .ok (.iconst 0, 1) := by decide +kernel
theorem dX4_fitsHeWord_24 : decode cX4_fitsHeWord 24 = .ok (.ireturn, 1) := by decide +kernel
theorem dX4_fitsHeWord_25 : decode cX4_fitsHeWord 25 = .ok (.aload_n 0, 1) := by decide +kernel
theorem dX4_fitsHeWord_26 : decode cX4_fitsHeWord 26 = .ok (.getfield 19, 3) := by decide +kernel
theorem dX4_fitsHeWord_29 : decode cX4_fitsHeWord 29 = .ok (.iload_n 1, 1) := by decide +kernel
theorem dX4_fitsHeWord_30 : decode cX4_fitsHeWord 30 = .ok (.invokevirtual 127, 3) := by decide +kernel
theorem dX4_fitsHeWord_33 : decode cX4_fitsHeWord 33 = .ok (.istore 4, 2) := by decide +kernel
theorem dX4_fitsHeWord_35 : decode cX4_fitsHeWord 35 = .ok (.iload 4, 2) := by decide +kernel
theorem dX4_fitsHeWord_37 : decode cX4_fitsHeWord 37 = .ok (.iload_n 2, 1) := by decide +kernel
theorem dX4_fitsHeWord_38 : decode cX4_fitsHeWord 38 = .ok (.if_icmp .eq 13, 3) := by decide +kernel
theorem dX4_fitsHeWord_41 : decode cX4_fitsHeWord 41 = .ok (.iload 4, 2) := by decide +kernel
theorem dX4_fitsHeWord_43 : decode cX4_fitsHeWord 43 = .ok (.ifCond .ne 12, 3) := by decide +kernel
theorem dX4_fitsHeWord_46 : decode cX4_fitsHeWord 46 = .ok (.iload_n 2, 1) := by decide +kernel
theorem dX4_fitsHeWord_47 : decode cX4_fitsHeWord 47 = .ok (.iconst 4, 1) := by decide +kernel
theorem dX4_fitsHeWord_48 : decode cX4_fitsHeWord 48 = .ok (.if_icmp .eq 7, 3) := by decide +kernel
theorem dX4_fitsHeWord_51 : decode cX4_fitsHeWord 51 = .ok (.iconst 1, 1) := by decide +kernel
theorem dX4_fitsHeWord_52 : decode cX4_fitsHeWord 52 = .ok (.goto 4, 3) := by decide +kernel
theorem dX4_fitsHeWord_55 : decode cX4_fitsHeWord 55 = .ok (.iconst 0, 1) := by decide +kernel
theorem dX4_fitsHeWord_56 : decode cX4_fitsHeWord 56 = .ok (.istore 5, 2) := by decide +kernel
theorem dX4_fitsHeWord_58 : decode cX4_fitsHeWord 58 = .ok (.aload_n 0, 1) := by decide +kernel
theorem dX4_fitsHeWord_59 : decode cX4_fitsHeWord 59 = .ok (.getfield 9, 3) := by decide +kernel
theorem dX4_fitsHeWord_62 : decode cX4_fitsHeWord 62 = .ok (.aload_n 0, 1) := by decide +kernel
theorem dX4_fitsHeWord_63 : decode cX4_fitsHeWord 63 = .ok (.getfield 19, 3) := by decide +kernel
theorem dX4_fitsHeWord_66 : decode cX4_fitsHeWord 66 = .ok (.iload_n 1, 1) := by decide +kernel
theorem dX4_fitsHeWord_67 : decode cX4_fitsHeWord 67 = .ok (.invokevirtual 118, 3) := by decide +kernel
theorem dX4_fitsHeWord_70 : decode cX4_fitsHeWord 70 = .ok (.invokevirtual 130, 3) := by decide +kernel
theorem dX4_fitsHeWord_73 : decode cX4_fitsHeWord 73 = .ok (.istore 6, 2) := by decide +kernel
theorem dX4_fitsHeWord_75 : decode cX4_fitsHeWord 75 = .ok (.iload 5, 2) := by decide +kernel
theorem dX4_fitsHeWord_77 : decode cX4_fitsHeWord 77 = .ok (.ifCond .eq 22, 3) := by decide +kernel
theorem dX4_fitsHeWord_80 : decode cX4_fitsHeWord 80 = .ok (.iload 6, 2) := by decide +kernel
theorem dX4_fitsHeWord_82 : decode cX4_fitsHeWord 82 = .ok (.aload_n 0, 1) := by decide +kernel
theorem dX4_fitsHeWord_83 : decode cX4_fitsHeWord 83 = .ok (.getfield 9, 3) := by decide +kernel
theorem dX4_fitsHeWord_86 : decode cX4_fitsHeWord 86 = .ok (.iload_n 3, 1) := by decide +kernel
theorem dX4_fitsHeWord_87 : decode cX4_fitsHeWord 87 = .ok (.invokevirtual 130, 3) := by decide +kernel
theorem dX4_fitsHeWord_90 : decode cX4_fitsHeWord 90 = .ok (.iconst 2, 1) := by decide +kernel
theorem dX4_fitsHeWord_91 : decode cX4_fitsHeWord 91 = .ok (.isub, 1) := by decide +kernel
theorem dX4_fitsHeWord_92 : decode cX4_fitsHeWord 92 = .ok (.if_icmp .lt 7, 3) := by decide +kernel
theorem dX4_fitsHeWord_95 : decode cX4_fitsHeWord 95 = .ok (.iconst 1, 1) := by decide +kernel
theorem dX4_fitsHeWord_96 : decode cX4_fitsHeWord 96 = .ok (.goto 4, 3) := by decide +kernel
theorem dX4_fitsHeWord_99 : decode cX4_fitsHeWord 99 = .ok (.iconst 0, 1) := by decide +kernel
theorem dX4_fitsHeWord_100 : decode cX4_fitsHeWord 100 = .ok (.ireturn, 1) := by decide +kernel
theorem dX4_lastSentenceOf_0 : decode cX4_lastSentenceOf 0 = .ok (.aload_n 0, 1) := by decide +kernel
theorem dX4_lastSentenceOf_1 : decode cX4_lastSentenceOf 1 = .ok (.getfield 9, 3) := by decide +kernel
theorem dX4_lastSentenceOf_4 : decode cX4_lastSentenceOf 4 = .ok (.aload_n 0, 1) := by decide +kernel
theorem dX4_lastSentenceOf_5 : decode cX4_lastSentenceOf 5 = .ok (.getfield 19, 3) := by decide +kernel
theorem dX4_lastSentenceOf_8 : decode cX4_lastSentenceOf 8 = .ok (.iload_n 1, 1) := by decide +kernel
theorem dX4_lastSentenceOf_9 : decode cX4_lastSentenceOf 9 = .ok (.invokevirtual 118, 3) := by decide +kernel
theorem dX4_lastSentenceOf_12 : decode cX4_lastSentenceOf 12 = .ok (.invokevirtual 130, 3) := by decide +kernel
theorem dX4_lastSentenceOf_15 : decode cX4_lastSentenceOf 15 = .ok (.ireturn, 1) := by decide +kernel
theorem dX4_joinIfPossible_0 : decode cX4_joinIfPossible 0 = .ok (.aload_n 0, 1) := by decide +kernel
theorem dX4_joinIfPossible_1 : decode cX4_joinIfPossible 1 = .ok (.getfield 19, 3) := by decide +kernel
theorem dX4_joinIfPossible_4 : decode cX4_joinIfPossible 4 = .ok (.iload_n 1, 1) := by decide +kernel
theorem dX4_joinIfPossible_5 : decode cX4_joinIfPossible 5 = .ok (.iload_n 2, 1) := by decide +kernel
theorem dX4_joinIfPossible_6 : decode cX4_joinIfPossible 6 = .ok (.invokevirtual 133, 3) := by decide +kernel
theorem dX4_joinIfPossible_9 : decode cX4_joinIfPossible 9 = .ok (.ifCond .eq 36, 3) := by decide +kernel
theorem dX4_joinIfPossible_12 : decode cX4_joinIfPossible 12 = .ok (.iload_n 1, 1) := by decide +kernel
theorem dX4_joinIfPossible_13 : decode cX4_joinIfPossible 13 = .ok (.iload_n 2, 1) := by decide +kernel
theorem dX4_joinIfPossible_14 : decode cX4_joinIfPossible 14 = .ok (.invokestatic 137, 3) := by decide +kernel
theorem dX4_joinIfPossible_17 : decode cX4_joinIfPossible 17 = .ok (.istore_n 3, 1) := by decide +kernel
theorem dX4_joinIfPossible_18 : decode cX4_joinIfPossible 18 = .ok (.iload_n 1, 1) := by decide +kernel
theorem dX4_joinIfPossible_19 : decode cX4_joinIfPossible 19 = .ok (.iload_n 2, 1) := by decide +kernel
theorem dX4_joinIfPossible_20 : decode cX4_joinIfPossible 20 = .ok (.invokestatic 142, 3) := by decide +kernel
theorem dX4_joinIfPossible_23 : decode cX4_joinIfPossible 23 = .ok (.istore 4, 2) := by decide +kernel
theorem dX4_joinIfPossible_25 : decode cX4_joinIfPossible 25 = .ok (.aload_n 0, 1) := by decide +kernel
theorem dX4_joinIfPossible_26 : decode cX4_joinIfPossible 26 = .ok (.getfield 19, 3) := by decide +kernel
theorem dX4_joinIfPossible_29 : decode cX4_joinIfPossible 29 = .ok (.iload_n 3, 1) := by decide +kernel
theorem dX4_joinIfPossible_30 : decode cX4_joinIfPossible 30 = .ok (.iload 4, 2) := by decide +kernel
theorem dX4_joinIfPossible_32 : decode cX4_joinIfPossible 32 = .ok (.invokevirtual 145, 3) := by decide +kernel
theorem dX4_joinIfPossible_35 : decode cX4_joinIfPossible 35 = .ok (.aload_n 0, 1) := by decide +kernel
theorem dX4_joinIfPossible_36 : decode cX4_joinIfPossible 36 = .ok (.getfield 23, 3) := by decide +kernel
theorem dX4_joinIfPossible_39 : decode cX4_joinIfPossible 39 = .ok (.iload_n 3, 1) := by decide +kernel
theorem dX4_joinIfPossible_40 : decode cX4_joinIfPossible 40 = .ok (.iload 4, 2) := by decide +kernel
theorem dX4_joinIfPossible_42 : decode cX4_joinIfPossible 42 = .ok (.invokevirtual 148, 3) := by decide +kernel
theorem dX4_joinIfPossible_45 : decode cX4_joinIfPossible 45 = .ok (.return_, 1) := by decide +kernel
theorem dX4_mentionGroup_0 : decode cX4_mentionGroup 0 = .ok (.iconst 0, 1) := by decide +kernel
theorem dX4_mentionGroup_1 : decode cX4_mentionGroup 1 = .ok (.istore_n 2, 1) := by decide +kernel
theorem dX4_mentionGroup_2 : decode cX4_mentionGroup 2 = .ok (.iconst 1, 1) := by decide +kernel
theorem dX4_mentionGroup_3 : decode cX4_mentionGroup 3 = .ok (.istore_n 3, 1) := by decide +kernel
theorem dX4_mentionGroup_4 : decode cX4_mentionGroup 4 = .ok (.iload_n 1, 1) := by decide +kernel
theorem dX4_mentionGroup_5 : decode cX4_mentionGroup 5 = .ok (.istore 4, 2) := by decide +kernel
theorem dX4_mentionGroup_7 : decode cX4_mentionGroup 7 = .ok (.iload 4, 2) := by decide +kernel
theorem dX4_mentionGroup_9 : decode cX4_mentionGroup 9 = .ok (.ifCond .lt 67, 3) := by decide +kernel
theorem dX4_mentionGroup_12 : decode cX4_mentionGroup 12 = .ok (.iload_n 3, 1) := by decide +kernel
theorem dX4_mentionGroup_13 : decode cX4_mentionGroup 13 = .ok (.ifCond .eq 63, 3) := by decide +kernel
theorem dX4_mentionGroup_16 : decode cX4_mentionGroup 16 = .ok (.aload_n 0, 1) := by decide +kernel
theorem dX4_mentionGroup_17 : decode cX4_mentionGroup 17 = .ok (.iload 4, 2) := by decide +kernel
theorem dX4_mentionGroup_19 : decode cX4_mentionGroup 19 = .ok (.invokevirtual 71, 3) := by decide +kernel
theorem dX4_mentionGroup_22 : decode cX4_mentionGroup 22 = .ok (.istore 5, 2) := by decide +kernel
theorem dX4_mentionGroup_24 : decode cX4_mentionGroup 24 = .ok (.iload 5, 2) := by decide +kernel
theorem dX4_mentionGroup_26 : decode cX4_mentionGroup 26 = .ok (.iconst (-1), 1) := by decide +kernel
theorem dX4_mentionGroup_27 : decode cX4_mentionGroup 27 = .ok (.if_icmp .eq 15, 3) := by decide +kernel
theorem dX4_mentionGroup_30 : decode cX4_mentionGroup 30 = .ok (.aload_n 0, 1) := by decide +kernel
theorem dX4_mentionGroup_31 : decode cX4_mentionGroup 31 = .ok (.getfield 19, 3) := by decide +kernel
theorem dX4_mentionGroup_34 : decode cX4_mentionGroup 34 = .ok (.iload 5, 2) := by decide +kernel
theorem dX4_mentionGroup_36 : decode cX4_mentionGroup 36 = .ok (.invokevirtual 81, 3) := by decide +kernel
theorem dX4_mentionGroup_39 : decode cX4_mentionGroup 39 = .ok (.ifCond .eq 4, 3) := by decide +kernel
theorem dX4_mentionGroup_42 : decode cX4_mentionGroup 42 = .ok (.return_, 1) := by decide +kernel
theorem dX4_mentionGroup_43 : decode cX4_mentionGroup 43 = .ok (.iload_n 2, 1) := by decide +kernel
theorem dX4_mentionGroup_44 : decode cX4_mentionGroup 44 = .ok (.iconst 1, 1) := by decide +kernel
theorem dX4_mentionGroup_45 : decode cX4_mentionGroup 45 = .ok (.iload 5, 2) := by decide +kernel
theorem dX4_mentionGroup_47 : decode cX4_mentionGroup 47 = .ok (.ishl, 1) := by decide +kernel
theorem dX4_mentionGroup_48 : decode cX4_mentionGroup 48 = .ok (.ior, 1) := by decide +kernel
theorem dX4_mentionGroup_49 : decode cX4_mentionGroup 49 = .ok (.istore_n 2, 1) := by decide +kernel
theorem dX4_mentionGroup_50 : decode cX4_mentionGroup 50 = .ok (.aload_n 0, 1) := by decide +kernel
theorem dX4_mentionGroup_51 : decode cX4_mentionGroup 51 = .ok (.getfield 9, 3) := by decide +kernel
theorem dX4_mentionGroup_54 : decode cX4_mentionGroup 54 = .ok (.iload 4, 2) := by decide +kernel
theorem dX4_mentionGroup_56 : decode cX4_mentionGroup 56 = .ok (.invokevirtual 68, 3) := by decide +kernel
theorem dX4_mentionGroup_59 : decode cX4_mentionGroup 59 = .ok (.bipush 6, 2) := by decide +kernel
theorem dX4_mentionGroup_61 : decode cX4_mentionGroup 61 = .ok (.if_icmp .ne 7, 3) := by decide +kernel
theorem dX4_mentionGroup_64 : decode cX4_mentionGroup 64 = .ok (.iconst 1, 1) := by decide +kernel
theorem dX4_mentionGroup_65 : decode cX4_mentionGroup 65 = .ok (.goto 4, 3) := by decide +kernel
theorem dX4_mentionGroup_68 : decode cX4_mentionGroup 68 = .ok (.iconst 0, 1) := by decide +kernel
theorem dX4_mentionGroup_69 : decode cX4_mentionGroup 69 = .ok (.istore_n 3, 1) := by decide +kernel
theorem dX4_mentionGroup_70 : decode cX4_mentionGroup 70 = .ok (.iinc 4 (-1), 3) := by decide +kernel
theorem dX4_mentionGroup_73 : decode cX4_mentionGroup 73 = .ok (.goto (-66), 3) := by decide +kernel
theorem dX4_mentionGroup_76 : decode cX4_mentionGroup 76 = .ok (.iload_n 2, 1) := by decide +kernel
theorem dX4_mentionGroup_77 : decode cX4_mentionGroup 77 = .ok (.invokestatic 151, 3) := by decide +kernel
theorem dX4_mentionGroup_80 : decode cX4_mentionGroup 80 = .ok (.iconst 2, 1) := by decide +kernel
theorem dX4_mentionGroup_81 : decode cX4_mentionGroup 81 = .ok (.if_icmp .lt 19, 3) := by decide +kernel
theorem dX4_mentionGroup_84 : decode cX4_mentionGroup 84 = .ok (.aload_n 0, 1) := by decide +kernel
theorem dX4_mentionGroup_85 : decode cX4_mentionGroup 85 = .ok (.getfield 19, 3) := by decide +kernel
theorem dX4_mentionGroup_88 : decode cX4_mentionGroup 88 = .ok (.aload_n 0, 1) := by decide +kernel
theorem dX4_mentionGroup_89 : decode cX4_mentionGroup 89 = .ok (.getfield 19, 3) := by decide +kernel
theorem dX4_mentionGroup_92 : decode cX4_mentionGroup 92 = .ok (.iload_n 2, 1) := by decide +kernel
theorem dX4_mentionGroup_93 : decode cX4_mentionGroup 93 = .ok (.invokevirtual 156, 3) := by decide +kernel
theorem dX4_mentionGroup_96 : decode cX4_mentionGroup 96 = .ok (.iload_n 1, 1) := by decide +kernel
theorem dX4_mentionGroup_97 : decode cX4_mentionGroup 97 = .ok (.invokevirtual 62, 3) := by decide +kernel
theorem dX4_mentionGroup_100 : decode cX4_mentionGroup 100 = .ok (.return_, 1) := by decide +kernel
theorem dX4_personOf_0 : decode cX4_personOf 0 = .ok (.aload_n 0, 1) := by decide +kernel
theorem dX4_personOf_1 : decode cX4_personOf 1 = .ok (.getfield 9, 3) := by decide +kernel
theorem dX4_personOf_4 : decode cX4_personOf 4 = .ok (.iload_n 1, 1) := by decide +kernel
theorem dX4_personOf_5 : decode cX4_personOf 5 = .ok (.invokevirtual 38, 3) := by decide +kernel
theorem dX4_personOf_8 : decode cX4_personOf 8 = .ok (.ifCond .eq 19, 3) := by decide +kernel
theorem dX4_personOf_11 : decode cX4_personOf 11 = .ok (.aload_n 0, 1) := by decide +kernel
theorem dX4_personOf_12 : decode cX4_personOf 12 = .ok (.getfield 19, 3) := by decide +kernel
theorem dX4_personOf_15 : decode cX4_personOf 15 = .ok (.aload_n 0, 1) := by decide +kernel
theorem dX4_personOf_16 : decode cX4_personOf 16 = .ok (.getfield 27, 3) := by decide +kernel
theorem dX4_personOf_19 : decode cX4_personOf 19 = .ok (.iload_n 1, 1) := by decide +kernel
theorem dX4_personOf_20 : decode cX4_personOf 20 = .ok (.iaload, 1) := by decide +kernel
theorem dX4_personOf_21 : decode cX4_personOf 21 = .ok (.invokevirtual 159, 3) := by decide +kernel
theorem dX4_personOf_24 : decode cX4_personOf 24 = .ok (.goto 4, 3) := by decide +kernel
theorem dX4_personOf_27 : decode cX4_personOf 27 = .ok (.iconst (-1), 1) := by decide +kernel
theorem dX4_personOf_28 : decode cX4_personOf 28 = .ok (.ireturn, 1) := by decide +kernel
theorem dX4_fitOf_0 : decode cX4_fitOf 0 = .ok (.aload_n 0, 1) := by decide +kernel
theorem dX4_fitOf_1 : decode cX4_fitOf 1 = .ok (.getfield 9, 3) := by decide +kernel
theorem dX4_fitOf_4 : decode cX4_fitOf 4 = .ok (.iload_n 1, 1) := by decide +kernel
theorem dX4_fitOf_5 : decode cX4_fitOf 5 = .ok (.invokevirtual 38, 3) := by decide +kernel
theorem dX4_fitOf_8 : decode cX4_fitOf 8 = .ok (.ifCond .eq 12, 3) := by decide +kernel
theorem dX4_fitOf_11 : decode cX4_fitOf 11 = .ok (.aload_n 0, 1) := by decide +kernel
theorem dX4_fitOf_12 : decode cX4_fitOf 12 = .ok (.getfield 31, 3) := by decide +kernel
theorem dX4_fitOf_15 : decode cX4_fitOf 15 = .ok (.iload_n 1, 1) := by decide +kernel
theorem dX4_fitOf_16 : decode cX4_fitOf 16 = .ok (.iaload, 1) := by decide +kernel
theorem dX4_fitOf_17 : decode cX4_fitOf 17 = .ok (.goto 4, 3) := by decide +kernel
theorem dX4_fitOf_20 : decode cX4_fitOf 20 = .ok (.iconst 0, 1) := by decide +kernel
theorem dX4_fitOf_21 : decode cX4_fitOf 21 = .ok (.ireturn, 1) := by decide +kernel
theorem dX4_isInDoubt_0 : decode cX4_isInDoubt 0 = .ok (.aload_n 0, 1) := by decide +kernel
theorem dX4_isInDoubt_1 : decode cX4_isInDoubt 1 = .ok (.getfield 9, 3) := by decide +kernel
theorem dX4_isInDoubt_4 : decode cX4_isInDoubt 4 = .ok (.iload_n 1, 1) := by decide +kernel
theorem dX4_isInDoubt_5 : decode cX4_isInDoubt 5 = .ok (.invokevirtual 38, 3) := by decide +kernel
theorem dX4_isInDoubt_8 : decode cX4_isInDoubt 8 = .ok (.ifCond .eq 16, 3) := by decide +kernel
theorem dX4_isInDoubt_11 : decode cX4_isInDoubt 11 = .ok (.aload_n 0, 1) := by decide +kernel
theorem dX4_isInDoubt_12 : decode cX4_isInDoubt 12 = .ok (.getfield 34, 3) := by decide +kernel
theorem dX4_isInDoubt_15 : decode cX4_isInDoubt 15 = .ok (.iload_n 1, 1) := by decide +kernel
theorem dX4_isInDoubt_16 : decode cX4_isInDoubt 16 = .ok (.baload, 1) := by decide +kernel
theorem dX4_isInDoubt_17 : decode cX4_isInDoubt 17 = .ok (.ifCond .eq 7, 3) := by decide +kernel
theorem dX4_isInDoubt_20 : decode cX4_isInDoubt 20 = .ok (.iconst 1, 1) := by decide +kernel
theorem dX4_isInDoubt_21 : decode cX4_isInDoubt 21 = .ok (.goto 4, 3) := by decide +kernel
theorem dX4_isInDoubt_24 : decode cX4_isInDoubt 24 = .ok (.iconst 0, 1) := by decide +kernel
theorem dX4_isInDoubt_25 : decode cX4_isInDoubt 25 = .ok (.ireturn, 1) := by decide +kernel
theorem dX4_doubtCount_0 : decode cX4_doubtCount 0 = .ok (.iconst 0, 1) := by decide +kernel
theorem dX4_doubtCount_1 : decode cX4_doubtCount 1 = .ok (.istore_n 1, 1) := by decide +kernel
theorem dX4_doubtCount_2 : decode cX4_doubtCount 2 = .ok (.iconst 0, 1) := by decide +kernel
theorem dX4_doubtCount_3 : decode cX4_doubtCount 3 = .ok (.istore_n 2, 1) := by decide +kernel
theorem dX4_doubtCount_4 : decode cX4_doubtCount 4 = .ok (.iload_n 2, 1) := by decide +kernel
theorem dX4_doubtCount_5 : decode cX4_doubtCount 5 = .ok (.aload_n 0, 1) := by decide +kernel
theorem dX4_doubtCount_6 : decode cX4_doubtCount 6 = .ok (.getfield 9, 3) := by decide +kernel
theorem dX4_doubtCount_9 : decode cX4_doubtCount 9 = .ok (.invokevirtual 162, 3) := by decide +kernel
theorem dX4_doubtCount_12 : decode cX4_doubtCount 12 = .ok (.if_icmp .ge 20, 3) := by decide +kernel
theorem dX4_doubtCount_15 : decode cX4_doubtCount 15 = .ok (.aload_n 0, 1) := by decide +kernel
theorem dX4_doubtCount_16 : decode cX4_doubtCount 16 = .ok (.iload_n 2, 1) := by decide +kernel
theorem dX4_doubtCount_17 : decode cX4_doubtCount 17 = .ok (.invokevirtual 163, 3) := by decide +kernel
theorem dX4_doubtCount_20 : decode cX4_doubtCount 20 = .ok (.ifCond .eq 6, 3) := by decide +kernel
theorem dX4_doubtCount_23 : decode cX4_doubtCount 23 = .ok (.iinc 1 1, 3) := by decide +kernel
theorem dX4_doubtCount_26 : decode cX4_doubtCount 26 = .ok (.iinc 2 1, 3) := by decide +kernel
theorem dX4_doubtCount_29 : decode cX4_doubtCount 29 = .ok (.goto (-25), 3) := by decide +kernel
theorem dX4_doubtCount_32 : decode cX4_doubtCount 32 = .ok (.iload_n 1, 1) := by decide +kernel
theorem dX4_doubtCount_33 : decode cX4_doubtCount 33 = .ok (.ireturn, 1) := by decide +kernel
theorem dX4_countOf_0 : decode cX4_countOf 0 = .ok (.iconst 0, 1) := by decide +kernel
theorem dX4_countOf_1 : decode cX4_countOf 1 = .ok (.istore_n 2, 1) := by decide +kernel
theorem dX4_countOf_2 : decode cX4_countOf 2 = .ok (.iconst 0, 1) := by decide +kernel
theorem dX4_countOf_3 : decode cX4_countOf 3 = .ok (.istore_n 3, 1) := by decide +kernel
theorem dX4_countOf_4 : decode cX4_countOf 4 = .ok (.iload_n 3, 1) := by decide +kernel
theorem dX4_countOf_5 : decode cX4_countOf 5 = .ok (.aload_n 0, 1) := by decide +kernel
theorem dX4_countOf_6 : decode cX4_countOf 6 = .ok (.getfield 9, 3) := by decide +kernel
theorem dX4_countOf_9 : decode cX4_countOf 9 = .ok (.invokevirtual 162, 3) := by decide +kernel
theorem dX4_countOf_12 : decode cX4_countOf 12 = .ok (.if_icmp .ge 21, 3) := by decide +kernel
theorem dX4_countOf_15 : decode cX4_countOf 15 = .ok (.aload_n 0, 1) := by decide +kernel
theorem dX4_countOf_16 : decode cX4_countOf 16 = .ok (.iload_n 3, 1) := by decide +kernel
theorem dX4_countOf_17 : decode cX4_countOf 17 = .ok (.invokevirtual 71, 3) := by decide +kernel
theorem dX4_countOf_20 : decode cX4_countOf 20 = .ok (.iload_n 1, 1) := by decide +kernel
theorem dX4_countOf_21 : decode cX4_countOf 21 = .ok (.if_icmp .ne 6, 3) := by decide +kernel
theorem dX4_countOf_24 : decode cX4_countOf 24 = .ok (.iinc 2 1, 3) := by decide +kernel
theorem dX4_countOf_27 : decode cX4_countOf 27 = .ok (.iinc 3 1, 3) := by decide +kernel
theorem dX4_countOf_30 : decode cX4_countOf 30 = .ok (.goto (-26), 3) := by decide +kernel
theorem dX4_countOf_33 : decode cX4_countOf 33 = .ok (.iload_n 2, 1) := by decide +kernel
theorem dX4_countOf_34 : decode cX4_countOf 34 = .ok (.ireturn, 1) := by decide +kernel
theorem dX4_mentionOf_0 : decode cX4_mentionOf 0 = .ok (.iconst 0, 1) := by decide +kernel
theorem dX4_mentionOf_1 : decode cX4_mentionOf 1 = .ok (.istore_n 3, 1) := by decide +kernel
theorem dX4_mentionOf_2 : decode cX4_mentionOf 2 = .ok (.iconst 0, 1) := by decide +kernel
theorem dX4_mentionOf_3 : decode cX4_mentionOf 3 = .ok (.istore 4, 2) := by decide +kernel
theorem dX4_mentionOf_5 : decode cX4_mentionOf 5 = .ok (.iload 4, 2) := by decide +kernel
theorem dX4_mentionOf_7 : decode cX4_mentionOf 7 = .ok (.aload_n 0, 1) := by decide +kernel
theorem dX4_mentionOf_8 : decode cX4_mentionOf 8 = .ok (.getfield 9, 3) := by decide +kernel
theorem dX4_mentionOf_11 : decode cX4_mentionOf 11 = .ok (.invokevirtual 162, 3) := by decide +kernel
theorem dX4_mentionOf_14 : decode cX4_mentionOf 14 = .ok (.if_icmp .ge 30, 3) := by decide +kernel
theorem dX4_mentionOf_17 : decode cX4_mentionOf 17 = .ok (.aload_n 0, 1) := by decide +kernel
theorem dX4_mentionOf_18 : decode cX4_mentionOf 18 = .ok (.iload 4, 2) := by decide +kernel
theorem dX4_mentionOf_20 : decode cX4_mentionOf 20 = .ok (.invokevirtual 71, 3) := by decide +kernel
theorem dX4_mentionOf_23 : decode cX4_mentionOf 23 = .ok (.iload_n 1, 1) := by decide +kernel
theorem dX4_mentionOf_24 : decode cX4_mentionOf 24 = .ok (.if_icmp .ne 14, 3) := by decide +kernel
theorem dX4_mentionOf_27 : decode cX4_mentionOf 27 = .ok (.iload_n 3, 1) := by decide +kernel
theorem dX4_mentionOf_28 : decode cX4_mentionOf 28 = .ok (.iload_n 2, 1) := by decide +kernel
theorem dX4_mentionOf_29 : decode cX4_mentionOf 29 = .ok (.if_icmp .ne 6, 3) := by decide +kernel
theorem dX4_mentionOf_32 : decode cX4_mentionOf 32 = .ok (.iload 4, 2) := by decide +kernel
theorem dX4_mentionOf_34 : decode cX4_mentionOf 34 = .ok (.ireturn, 1) := by decide +kernel
theorem dX4_mentionOf_35 : decode cX4_mentionOf 35 = .ok (.iinc 3 1, 3) := by decide +kernel
theorem dX4_mentionOf_38 : decode cX4_mentionOf 38 = .ok (.iinc 4 1, 3) := by decide +kernel
theorem dX4_mentionOf_41 : decode cX4_mentionOf 41 = .ok (.goto (-36), 3) := by decide +kernel
theorem dX4_mentionOf_44 : decode cX4_mentionOf 44 = .ok (.iconst (-1), 1) := by decide +kernel
theorem dX4_mentionOf_45 : decode cX4_mentionOf 45 = .ok (.ireturn, 1) := by decide +kernel
theorem dX5_init_0 : decode cX5_init 0 = .ok (.aload_n 0, 1) := by decide +kernel
theorem dX5_init_1 : decode cX5_init 1 = .ok (.invokespecial 3, 3) := by decide +kernel
theorem dX5_init_4 : decode cX5_init 4 = .ok (.aload_n 0, 1) := by decide +kernel
theorem dX5_init_5 : decode cX5_init 5 = .ok (.iload_n 1, 1) := by decide +kernel
theorem dX5_init_6 : decode cX5_init 6 = .ok (.iconst 0, 1) := by decide +kernel
theorem dX5_init_7 : decode cX5_init 7 = .ok (.invokestatic 9, 3) := by decide +kernel
theorem dX5_init_10 : decode cX5_init 10 = .ok (.newarray .byte, 2) := by decide +kernel
theorem dX5_init_12 : decode cX5_init 12 = .ok (.putfield 15, 3) := by decide +kernel
theorem dX5_init_15 : decode cX5_init 15 = .ok (.aload_n 0, 1) := by decide +kernel
theorem dX5_init_16 : decode cX5_init 16 = .ok (.iconst 0, 1) := by decide +kernel
theorem dX5_init_17 : decode cX5_init 17 = .ok (.putfield 21, 3) := by decide +kernel
theorem dX5_init_20 : decode cX5_init 20 = .ok (.return_, 1) := by decide +kernel
theorem dX5_size_0 : decode cX5_size 0 = .ok (.aload_n 0, 1) := by decide +kernel
theorem dX5_size_1 : decode cX5_size 1 = .ok (.getfield 21, 3) := by decide +kernel
theorem dX5_size_4 : decode cX5_size 4 = .ok (.ireturn, 1) := by decide +kernel
theorem dX5_clear_0 : decode cX5_clear 0 = .ok (.aload_n 0, 1) := by decide +kernel
theorem dX5_clear_1 : decode cX5_clear 1 = .ok (.iconst 0, 1) := by decide +kernel
theorem dX5_clear_2 : decode cX5_clear 2 = .ok (.putfield 21, 3) := by decide +kernel
theorem dX5_clear_5 : decode cX5_clear 5 = .ok (.return_, 1) := by decide +kernel
theorem dX5_shorten_0 : decode cX5_shorten 0 = .ok (.iload_n 1, 1) := by decide +kernel
theorem dX5_shorten_1 : decode cX5_shorten 1 = .ok (.ifCond .lt 11, 3) := by decide +kernel
theorem dX5_shorten_4 : decode cX5_shorten 4 = .ok (.iload_n 1, 1) := by decide +kernel
theorem dX5_shorten_5 : decode cX5_shorten 5 = .ok (.aload_n 0, 1) := by decide +kernel
theorem dX5_shorten_6 : decode cX5_shorten 6 = .ok (.getfield 21, 3) := by decide +kernel
theorem dX5_shorten_9 : decode cX5_shorten 9 = .ok (.if_icmp .le 5, 3) := by decide +kernel
theorem dX5_shorten_12 : decode cX5_shorten 12 = .ok (.iconst 0, 1) := by decide +kernel
theorem dX5_shorten_13 : decode cX5_shorten 13 = .ok (.ireturn, 1) := by decide +kernel
theorem dX5_shorten_14 : decode cX5_shorten 14 = .ok (.aload_n 0, 1) := by decide +kernel
theorem dX5_shorten_15 : decode cX5_shorten 15 = .ok (.iload_n 1, 1) := by decide +kernel
theorem dX5_shorten_16 : decode cX5_shorten 16 = .ok (.putfield 21, 3) := by decide +kernel
theorem dX5_shorten_19 : decode cX5_shorten 19 = .ok (.iconst 1, 1) := by decide +kernel
theorem dX5_shorten_20 : decode cX5_shorten 20 = .ok (.ireturn, 1) := by decide +kernel
theorem dX5_addNumber_0 : decode cX5_addNumber 0 = .ok (.bipush 24, 2) := by decide +kernel
theorem dX5_addNumber_2 : decode cX5_addNumber 2 = .ok (.istore_n 2, 1) := by decide +kernel
theorem dX5_addNumber_3 : decode cX5_addNumber 3 = .ok (.iload_n 2, 1) := by decide +kernel
theorem dX5_addNumber_4 : decode cX5_addNumber 4 = .ok (.ifCond .lt 16, 3) := by decide +kernel
theorem dX5_addNumber_7 : decode cX5_addNumber 7 = .ok (.aload_n 0, 1) := by decide +kernel
theorem dX5_addNumber_8 : decode cX5_addNumber 8 = .ok (.iload_n 1, 1) := by decide +kernel
theorem dX5_addNumber_9 : decode cX5_addNumber 9 = .ok (.iload_n 2, 1) := by decide +kernel
theorem dX5_addNumber_10 : decode cX5_addNumber 10 = .ok (.iushr, 1) := by decide +kernel
theorem dX5_addNumber_11 : decode cX5_addNumber 11 = .ok (.invokevirtual 25, 3) := by decide +kernel
theorem dX5_addNumber_14 : decode cX5_addNumber 14 = .ok (.iinc 2 (-8), 3) := by decide +kernel
theorem dX5_addNumber_17 : decode cX5_addNumber 17 = .ok (.goto (-14), 3) := by decide +kernel
theorem dX5_addNumber_20 : decode cX5_addNumber 20 = .ok (.return_, 1) := by decide +kernel
theorem dX5_addAll_0 : decode cX5_addAll 0 = .ok (.iconst 0, 1) := by decide +kernel
theorem dX5_addAll_1 : decode cX5_addAll 1 = .ok (.istore_n 2, 1) := by decide +kernel
theorem dX5_addAll_2 : decode cX5_addAll 2 = .ok (.iload_n 2, 1) := by decide +kernel
theorem dX5_addAll_3 : decode cX5_addAll 3 = .ok (.aload_n 1, 1) := by decide +kernel
theorem dX5_addAll_4 : decode cX5_addAll 4 = .ok (.getfield 21, 3) := by decide +kernel
theorem dX5_addAll_7 : decode cX5_addAll 7 = .ok (.if_icmp .ge 18, 3) := by decide +kernel
theorem dX5_addAll_10 : decode cX5_addAll 10 = .ok (.aload_n 0, 1) := by decide +kernel
theorem dX5_addAll_11 : decode cX5_addAll 11 = .ok (.aload_n 1, 1) := by decide +kernel
theorem dX5_addAll_12 : decode cX5_addAll 12 = .ok (.iload_n 2, 1) := by decide +kernel
theorem dX5_addAll_13 : decode cX5_addAll 13 = .ok (.invokevirtual 29, 3) := by decide +kernel
theorem dX5_addAll_16 : decode cX5_addAll 16 = .ok (.invokevirtual 25, 3) := by decide +kernel
theorem dX5_addAll_19 : decode cX5_addAll 19 = .ok (.iinc 2 1, 3) := by decide +kernel
theorem dX5_addAll_22 : decode cX5_addAll 22 = .ok (.goto (-20), 3) := by decide +kernel
theorem dX5_addAll_25 : decode cX5_addAll 25 = .ok (.return_, 1) := by decide +kernel
theorem dX5_addSign_0 : decode cX5_addSign 0 = .ok (.aload_n 0, 1) := by decide +kernel
theorem dX5_addSign_1 : decode cX5_addSign 1 = .ok (.getfield 21, 3) := by decide +kernel
theorem dX5_addSign_4 : decode cX5_addSign 4 = .ok (.aload_n 0, 1) := by decide +kernel
theorem dX5_addSign_5 : decode cX5_addSign 5 = .ok (.getfield 15, 3) := by decide +kernel
theorem dX5_addSign_8 : decode cX5_addSign 8 = .ok (.arraylength, 1) := by decide +kernel
theorem dX5_addSign_9 : decode cX5_addSign 9 = .ok (.if_icmp .ge 24, 3) := by decide +kernel
theorem dX5_addSign_12 : decode cX5_addSign 12 = .ok (.aload_n 0, 1) := by decide +kernel
theorem dX5_addSign_13 : decode cX5_addSign 13 = .ok (.getfield 15, 3) := by decide +kernel
theorem dX5_addSign_16 : decode cX5_addSign 16 = .ok (.aload_n 0, 1) := by decide +kernel
theorem dX5_addSign_17 : decode cX5_addSign 17 = .ok (.getfield 21, 3) := by decide +kernel
theorem dX5_addSign_20 : decode cX5_addSign 20 = .ok (.iload_n 1, 1) := by decide +kernel
theorem dX5_addSign_21 : decode cX5_addSign 21 = .ok (.i2b, 1) := by decide +kernel
theorem dX5_addSign_22 : decode cX5_addSign 22 = .ok (.bastore, 1) := by decide +kernel
theorem dX5_addSign_23 : decode cX5_addSign 23 = .ok (.aload_n 0, 1) := by decide +kernel
theorem dX5_addSign_24 : decode cX5_addSign 24 = .ok (.dup, 1) := by decide +kernel
theorem dX5_addSign_25 : decode cX5_addSign 25 = .ok (.getfield 21, 3) := by decide +kernel
theorem dX5_addSign_28 : decode cX5_addSign 28 = .ok (.iconst 1, 1) := by decide +kernel
theorem dX5_addSign_29 : decode cX5_addSign 29 = .ok (.iadd, 1) := by decide +kernel
theorem dX5_addSign_30 : decode cX5_addSign 30 = .ok (.putfield 21, 3) := by decide +kernel
theorem dX5_addSign_33 : decode cX5_addSign 33 = .ok (.return_, 1) := by decide +kernel
theorem dX5_signAt_0 : decode cX5_signAt 0 = .ok (.aload_n 0, 1) := by decide +kernel
theorem dX5_signAt_1 : decode cX5_signAt 1 = .ok (.iload_n 1, 1) := by decide +kernel
theorem dX5_signAt_2 : decode cX5_signAt 2 = .ok (.iconst 1, 1) := by decide +kernel
theorem dX5_signAt_3 : decode cX5_signAt 3 = .ok (.invokevirtual 33, 3) := by decide +kernel
theorem dX5_signAt_6 : decode cX5_signAt 6 = .ok (.ifCond .eq 12, 3) := by decide +kernel
theorem dX5_signAt_9 : decode cX5_signAt 9 = .ok (.aload_n 0, 1) := by decide +kernel
theorem dX5_signAt_10 : decode cX5_signAt 10 = .ok (.getfield 15, 3) := by decide +kernel
theorem dX5_signAt_13 : decode cX5_signAt 13 = .ok (.iload_n 1, 1) := by decide +kernel
theorem dX5_signAt_14 : decode cX5_signAt 14 = .ok (.baload, 1) := by decide +kernel
theorem dX5_signAt_15 : decode cX5_signAt 15 = .ok (.goto 4, 3) := by decide +kernel
theorem dX5_signAt_18 : decode cX5_signAt 18 = .ok (.iconst 0, 1) := by decide +kernel
theorem dX5_signAt_19 : decode cX5_signAt 19 = .ok (.ireturn, 1) := by decide +kernel
theorem dX5_holds_0 : decode cX5_holds 0 = .ok (.iload_n 1, 1) := by decide +kernel
theorem dX5_holds_1 : decode cX5_holds 1 = .ok (.ifCond .lt 29, 3) := by decide +kernel
theorem dX5_holds_4 : decode cX5_holds 4 = .ok (.iload_n 2, 1) := by decide +kernel
theorem dX5_holds_5 : decode cX5_holds 5 = .ok (.ifCond .lt 25, 3) := by decide +kernel
theorem dX5_holds_8 : decode cX5_holds 8 = .ok (.iload_n 2, 1) := by decide +kernel
theorem dX5_holds_9 : decode cX5_holds 9 = .ok (.aload_n 0, 1) := by decide +kernel
theorem dX5_holds_10 : decode cX5_holds 10 = .ok (.getfield 21, 3) := by decide +kernel
theorem dX5_holds_13 : decode cX5_holds 13 = .ok (.if_icmp .gt 17, 3) := by decide +kernel
theorem dX5_holds_16 : decode cX5_holds 16 = .ok (.iload_n 1, 1) := by decide +kernel
theorem dX5_holds_17 : decode cX5_holds 17 = .ok (.aload_n 0, 1) := by decide +kernel
theorem dX5_holds_18 : decode cX5_holds 18 = .ok (.getfield 21, 3) := by decide +kernel
theorem dX5_holds_21 : decode cX5_holds 21 = .ok (.iload_n 2, 1) := by decide +kernel
theorem dX5_holds_22 : decode cX5_holds 22 = .ok (.isub, 1) := by decide +kernel
theorem dX5_holds_23 : decode cX5_holds 23 = .ok (.if_icmp .gt 7, 3) := by decide +kernel
theorem dX5_holds_26 : decode cX5_holds 26 = .ok (.iconst 1, 1) := by decide +kernel
theorem dX5_holds_27 : decode cX5_holds 27 = .ok (.goto 4, 3) := by decide +kernel
theorem dX5_holds_30 : decode cX5_holds 30 = .ok (.iconst 0, 1) := by decide +kernel
theorem dX5_holds_31 : decode cX5_holds 31 = .ok (.ireturn, 1) := by decide +kernel
theorem dX5_lettersFrom_0 : decode cX5_lettersFrom 0 = .ok (.iconst 0, 1) := by decide +kernel
theorem dX5_lettersFrom_1 : decode cX5_lettersFrom 1 = .ok (.istore_n 2, 1) := by decide +kernel
theorem dX5_lettersFrom_2 : decode cX5_lettersFrom 2 = .ok (.iload_n 1, 1) := by decide +kernel
theorem dX5_lettersFrom_3 : decode cX5_lettersFrom 3 = .ok (.istore_n 3, 1) := by decide +kernel
theorem dX5_lettersFrom_4 : decode cX5_lettersFrom 4 = .ok (.iload_n 3, 1) := by decide +kernel
theorem dX5_lettersFrom_5 : decode cX5_lettersFrom 5 = .ok (.aload_n 0, 1) := by decide +kernel
theorem dX5_lettersFrom_6 : decode cX5_lettersFrom 6 = .ok (.getfield 21, 3) := by decide +kernel
theorem dX5_lettersFrom_9 : decode cX5_lettersFrom 9 = .ok (.if_icmp .ge 38, 3) := by decide +kernel
theorem dX5_lettersFrom_12 : decode cX5_lettersFrom 12 = .ok (.aload_n 0, 1) := by decide +kernel
theorem dX5_lettersFrom_13 : decode cX5_lettersFrom 13 = .ok (.iload_n 3, 1) := by decide +kernel
theorem dX5_lettersFrom_14 : decode cX5_lettersFrom 14 = .ok (.invokevirtual 29, 3) := by decide +kernel
theorem dX5_lettersFrom_17 : decode cX5_lettersFrom 17 = .ok (.istore 4, 2) := by decide +kernel
theorem dX5_lettersFrom_19 : decode cX5_lettersFrom 19 = .ok (.iload 4, 2) := by decide +kernel
theorem dX5_lettersFrom_21 : decode cX5_lettersFrom 21 = .ok (.invokestatic 37, 3) := by decide +kernel
theorem dX5_lettersFrom_24 : decode cX5_lettersFrom 24 = .ok (.ifCond .ne 14, 3) := by decide +kernel
theorem dX5_lettersFrom_27 : decode cX5_lettersFrom 27 = .ok (.iload 4, 2) := by decide +kernel
theorem dX5_lettersFrom_29 : decode cX5_lettersFrom 29 = .ok (.invokestatic 41, 3) := by decide +kernel
theorem dX5_lettersFrom_32 : decode cX5_lettersFrom 32 = .ok (.ifCond .ne 6, 3) := by decide +kernel
theorem dX5_lettersFrom_35 : decode cX5_lettersFrom 35 = .ok (.goto 12, 3) := by decide +kernel
theorem dX5_lettersFrom_38 : decode cX5_lettersFrom 38 = .ok (.iinc 2 1, 3) := by decide +kernel
theorem dX5_lettersFrom_41 : decode cX5_lettersFrom 41 = .ok (.iinc 3 1, 3) := by decide +kernel
theorem dX5_lettersFrom_44 : decode cX5_lettersFrom 44 = .ok (.goto (-40), 3) := by decide +kernel
theorem dX5_lettersFrom_47 : decode cX5_lettersFrom 47 = .ok (.iload_n 2, 1) := by decide +kernel
theorem dX5_lettersFrom_48 : decode cX5_lettersFrom 48 = .ok (.ireturn, 1) := by decide +kernel
theorem dX5_looksLikeName_0 : decode cX5_looksLikeName 0 = .ok (.iload_n 2, 1) := by decide +kernel
theorem dX5_looksLikeName_1 : decode cX5_looksLikeName 1 = .ok (.iconst 2, 1) := by decide +kernel
theorem dX5_looksLikeName_2 : decode cX5_looksLikeName 2 = .ok (.if_icmp .lt 18, 3) := by decide +kernel
theorem dX5_looksLikeName_5 : decode cX5_looksLikeName 5 = .ok (.iload_n 2, 1) := by decide +kernel
theorem dX5_looksLikeName_6 : decode cX5_looksLikeName 6 = .ok (.bipush 10, 2) := by decide +kernel
theorem dX5_looksLikeName_8 : decode cX5_looksLikeName 8 = .ok (.if_icmp .gt 12, 3) := by decide +kernel
theorem dX5_looksLikeName_11 : decode cX5_looksLikeName 11 = .ok (.aload_n 0, 1) := by decide +kernel
theorem dX5_looksLikeName_12 : decode cX5_looksLikeName 12 = .ok (.iload_n 1, 1) := by decide +kernel
theorem dX5_looksLikeName_13 : decode cX5_looksLikeName 13 = .ok (.iload_n 2, 1) := by decide +kernel
theorem dX5_looksLikeName_14 : decode cX5_looksLikeName 14 = .ok (.invokevirtual 33, 3) := by decide +kernel
theorem dX5_looksLikeName_17 : decode cX5_looksLikeName 17 = .ok (.ifCond .ne 5, 3) := by decide +kernel
theorem dX5_looksLikeName_20 : decode cX5_looksLikeName 20 = .ok (.iconst 0, 1) := by decide +kernel
theorem dX5_looksLikeName_21 : decode cX5_looksLikeName 21 = .ok (.ireturn, 1) := by decide +kernel
theorem dX5_looksLikeName_22 : decode cX5_looksLikeName 22 = .ok (.aload_n 0, 1) := by decide +kernel
theorem dX5_looksLikeName_23 : decode cX5_looksLikeName 23 = .ok (.getfield 15, 3) := by decide +kernel
theorem dX5_looksLikeName_26 : decode cX5_looksLikeName 26 = .ok (.iload_n 1, 1) := by decide +kernel
theorem dX5_looksLikeName_27 : decode cX5_looksLikeName 27 = .ok (.baload, 1) := by decide +kernel
theorem dX5_looksLikeName_28 : decode cX5_looksLikeName 28 = .ok (.invokestatic 41, 3) := by decide +kernel
theorem dX5_looksLikeName_31 : decode cX5_looksLikeName 31 = .ok (.ifCond .ne 5, 3) := by decide +kernel
theorem dX5_looksLikeName_34 : decode cX5_looksLikeName 34 = .ok (.iconst 0, 1) := by decide +kernel
theorem dX5_looksLikeName_35 : decode cX5_looksLikeName 35 = .ok (.ireturn, 1) := by decide +kernel
theorem dX5_looksLikeName_36 : decode cX5_looksLikeName 36 = .ok (.iconst 1, 1) := by decide +kernel
theorem dX5_looksLikeName_37 : decode cX5_looksLikeName 37 = .ok (.istore_n 3, 1) := by decide +kernel
theorem dX5_looksLikeName_38 : decode cX5_looksLikeName 38 = .ok (.iload_n 3, 1) := by decide +kernel
theorem dX5_looksLikeName_39 : decode cX5_looksLikeName 39 = .ok (.iload_n 2, 1) := by decide +kernel
theorem dX5_looksLikeName_40 : decode cX5_looksLikeName 40 = .ok (.if_icmp .ge 25, 3) := by decide +kernel
theorem dX5_looksLikeName_43 : decode cX5_looksLikeName 43 = .ok (.aload_n 0, 1) := by decide +kernel
theorem dX5_looksLikeName_44 : decode cX5_looksLikeName 44 = .ok (.getfield 15, 3) := by decide +kernel
theorem dX5_looksLikeName_47 : decode cX5_looksLikeName 47 = .ok (.iload_n 1, 1) := by decide +kernel
theorem dX5_looksLikeName_48 : decode cX5_looksLikeName 48 = .ok (.iload_n 3, 1) := by decide +kernel
theorem dX5_looksLikeName_49 : decode cX5_looksLikeName 49 = .ok (.iadd, 1) := by decide +kernel
theorem dX5_looksLikeName_50 : decode cX5_looksLikeName 50 = .ok (.baload, 1) := by decide +kernel
theorem dX5_looksLikeName_51 : decode cX5_looksLikeName 51 = .ok (.invokestatic 37, 3) := by decide +kernel
theorem dX5_looksLikeName_54 : decode cX5_looksLikeName 54 = .ok (.ifCond .ne 5, 3) := by decide +kernel
theorem dX5_looksLikeName_57 : decode cX5_looksLikeName 57 = .ok (.iconst 0, 1) := by decide +kernel
theorem dX5_looksLikeName_58 : decode cX5_looksLikeName 58 = .ok (.ireturn, 1) := by decide +kernel
theorem dX5_looksLikeName_59 : decode cX5_looksLikeName 59 = .ok (.iinc 3 1, 3) := by decide +kernel
theorem dX5_looksLikeName_62 : decode cX5_looksLikeName 62 = .ok (.goto (-24), 3) := by decide +kernel
theorem dX5_looksLikeName_65 : decode cX5_looksLikeName 65 = .ok (.iconst 1, 1) := by decide +kernel
theorem dX5_looksLikeName_66 : decode cX5_looksLikeName 66 = .ok (.ireturn, 1) := by decide +kernel
theorem dX5_spells_0 : decode cX5_spells 0 = .ok (.aload_n 0, 1) := by decide +kernel
theorem dX5_spells_1 : decode cX5_spells 1 = .ok (.iload_n 1, 1) := by decide +kernel
theorem dX5_spells_2 : decode cX5_spells 2 = .ok (.invokevirtual 29, 3) := by decide +kernel
theorem dX5_spells_5 : decode cX5_spells 5 = .ok (.invokestatic 37, 3) := by decide +kernel
theorem dX5_spells_8 : decode cX5_spells 8 = .ok (.ifCond .eq 17, 3) := by decide +kernel
theorem dX5_spells_11 : decode cX5_spells 11 = .ok (.aload_n 0, 1) := by decide +kernel
theorem dX5_spells_12 : decode cX5_spells 12 = .ok (.iload_n 1, 1) := by decide +kernel
theorem dX5_spells_13 : decode cX5_spells 13 = .ok (.iload_n 2, 1) := by decide +kernel
theorem dX5_spells_14 : decode cX5_spells 14 = .ok (.aload_n 3, 1) := by decide +kernel
theorem dX5_spells_15 : decode cX5_spells 15 = .ok (.invokevirtual 44, 3) := by decide +kernel
theorem dX5_spells_18 : decode cX5_spells 18 = .ok (.ifCond .eq 7, 3) := by decide +kernel
theorem dX5_spells_21 : decode cX5_spells 21 = .ok (.iconst 1, 1) := by decide +kernel
theorem dX5_spells_22 : decode cX5_spells 22 = .ok (.goto 4, 3) := by decide +kernel
theorem dX5_spells_25 : decode cX5_spells 25 = .ok (.iconst 0, 1) := by decide +kernel
theorem dX5_spells_26 : decode cX5_spells 26 = .ok (.ireturn, 1) := by decide +kernel
theorem dX5_heWordSex_0 : decode cX5_heWordSex 0 = .ok (.aload_n 0, 1) := by decide +kernel
theorem dX5_heWordSex_1 : decode cX5_heWordSex 1 = .ok (.iload_n 1, 1) := by decide +kernel
theorem dX5_heWordSex_2 : decode cX5_heWordSex 2 = .ok (.iload_n 2, 1) := by decide +kernel
theorem dX5_heWordSex_3 : decode cX5_heWordSex 3 = .ok (.ldc 48, 2) := by decide +kernel
theorem dX5_heWordSex_5 : decode cX5_heWordSex 5 = .ok (.ldc 50, 2) := by decide +kernel
theorem dX5_heWordSex_7 : decode cX5_heWordSex 7 = .ok (.ldc 52, 2) := by decide +kernel
theorem dX5_heWordSex_9 : decode cX5_heWordSex 9 = .ok (.invokevirtual 54, 3) := by decide +kernel
theorem dX5_heWordSex_12 : decode cX5_heWordSex 12 = .ok (.ifCond .eq 5, 3) := by decide +kernel
theorem dX5_heWordSex_15 : decode cX5_heWordSex 15 = .ok (.iconst 1, 1) := by decide +kernel
theorem dX5_heWordSex_16 : decode cX5_heWordSex 16 = .ok (.ireturn, 1) := by decide +kernel
theorem dX5_heWordSex_17 : decode cX5_heWordSex 17 = .ok (.aload_n 0, 1) := by decide +kernel
theorem dX5_heWordSex_18 : decode cX5_heWordSex 18 = .ok (.iload_n 1, 1) := by decide +kernel
theorem dX5_heWordSex_19 : decode cX5_heWordSex 19 = .ok (.iload_n 2, 1) := by decide +kernel
theorem dX5_heWordSex_20 : decode cX5_heWordSex 20 = .ok (.ldc 58, 2) := by decide +kernel
theorem dX5_heWordSex_22 : decode cX5_heWordSex 22 = .ok (.ldc 60, 2) := by decide +kernel
theorem dX5_heWordSex_24 : decode cX5_heWordSex 24 = .ok (.ldc 62, 2) := by decide +kernel
theorem dX5_heWordSex_26 : decode cX5_heWordSex 26 = .ok (.invokevirtual 54, 3) := by decide +kernel
theorem dX5_heWordSex_29 : decode cX5_heWordSex 29 = .ok (.ifCond .eq 5, 3) := by decide +kernel
theorem dX5_heWordSex_32 : decode cX5_heWordSex 32 = .ok (.iconst 2, 1) := by decide +kernel
theorem dX5_heWordSex_33 : decode cX5_heWordSex 33 = .ok (.ireturn, 1) := by decide +kernel
theorem dX5_heWordSex_34 : decode cX5_heWordSex 34 = .ok (.aload_n 0, 1) := by decide +kernel
theorem dX5_heWordSex_35 : decode cX5_heWordSex 35 = .ok (.iload_n 1, 1) := by decide +kernel
theorem dX5_heWordSex_36 : decode cX5_heWordSex 36 = .ok (.iload_n 2, 1) := by decide +kernel
theorem dX5_heWordSex_37 : decode cX5_heWordSex 37 = .ok (.ldc 64, 2) := by decide +kernel
theorem dX5_heWordSex_39 : decode cX5_heWordSex 39 = .ok (.ldc 66, 2) := by decide +kernel
theorem dX5_heWordSex_41 : decode cX5_heWordSex 41 = .ok (.ldc 66, 2) := by decide +kernel
theorem dX5_heWordSex_43 : decode cX5_heWordSex 43 = .ok (.invokevirtual 54, 3) := by decide +kernel
theorem dX5_heWordSex_46 : decode cX5_heWordSex 46 = .ok (.ifCond .eq 5, 3) := by decide +kernel
theorem dX5_heWordSex_49 : decode cX5_heWordSex 49 = .ok (.iconst 3, 1) := by decide +kernel
theorem dX5_heWordSex_50 : decode cX5_heWordSex 50 = .ok (.ireturn, 1) := by decide +kernel
theorem dX5_heWordSex_51 : decode cX5_heWordSex 51 = .ok (.aload_n 0, 1) := by decide +kernel
theorem dX5_heWordSex_52 : decode cX5_heWordSex 52 = .ok (.iload_n 1, 1) := by decide +kernel
theorem dX5_heWordSex_53 : decode cX5_heWordSex 53 = .ok (.iload_n 2, 1) := by decide +kernel
theorem dX5_heWordSex_54 : decode cX5_heWordSex 54 = .ok (.ldc 68, 2) := by decide +kernel
theorem dX5_heWordSex_56 : decode cX5_heWordSex 56 = .ok (.ldc 70, 2) := by decide +kernel
theorem dX5_heWordSex_58 : decode cX5_heWordSex 58 = .ok (.ldc 72, 2) := by decide +kernel
theorem dX5_heWordSex_60 : decode cX5_heWordSex 60 = .ok (.invokevirtual 54, 3) := by decide +kernel
theorem dX5_heWordSex_63 : decode cX5_heWordSex 63 = .ok (.ifCond .eq 7, 3) := by decide +kernel
theorem dX5_heWordSex_66 : decode cX5_heWordSex 66 = .ok (.iconst 4, 1) := by decide +kernel
theorem dX5_heWordSex_67 : decode cX5_heWordSex 67 = .ok (.goto 4, 3) := by decide +kernel
theorem dX5_heWordSex_70 : decode cX5_heWordSex 70 = .ok (.iconst 0, 1) := by decide +kernel
theorem dX5_heWordSex_71 : decode cX5_heWordSex 71 = .ok (.ireturn, 1) := by decide +kernel
theorem dX5_spellsOne_0 : decode cX5_spellsOne 0 = .ok (.aload_n 0, 1) := by decide +kernel
theorem dX5_spellsOne_1 : decode cX5_spellsOne 1 = .ok (.iload_n 1, 1) := by decide +kernel
theorem dX5_spellsOne_2 : decode cX5_spellsOne 2 = .ok (.iload_n 2, 1) := by decide +kernel
theorem dX5_spellsOne_3 : decode cX5_spellsOne 3 = .ok (.aload_n 3, 1) := by decide +kernel
theorem dX5_spellsOne_4 : decode cX5_spellsOne 4 = .ok (.invokevirtual 44, 3) := by decide +kernel
theorem dX5_spellsOne_7 : decode cX5_spellsOne 7 = .ok (.ifCond .ne 25, 3) := by decide +kernel
theorem dX5_spellsOne_10 : decode cX5_spellsOne 10 = .ok (.aload_n 0, 1) := by decide +kernel
theorem dX5_spellsOne_11 : decode cX5_spellsOne 11 = .ok (.iload_n 1, 1) := by decide +kernel
theorem dX5_spellsOne_12 : decode cX5_spellsOne 12 = .ok (.iload_n 2, 1) := by decide +kernel
theorem dX5_spellsOne_13 : decode cX5_spellsOne 13 = .ok (.aload 4, 2) := by decide +kernel
theorem dX5_spellsOne_15 : decode cX5_spellsOne 15 = .ok (.invokevirtual 44, 3) := by decide +kernel
theorem dX5_spellsOne_18 : decode cX5_spellsOne 18 = .ok (.ifCond .ne 14, 3) := by decide +kernel
theorem dX5_spellsOne_21 : decode cX5_spellsOne 21 = .ok (.aload_n 0, 1) := by decide +kernel
theorem dX5_spellsOne_22 : decode cX5_spellsOne 22 = .ok (.iload_n 1, 1) := by decide +kernel
theorem dX5_spellsOne_23 : decode cX5_spellsOne 23 = .ok (.iload_n 2, 1) := by decide +kernel
theorem dX5_spellsOne_24 : decode cX5_spellsOne 24 = .ok (.aload 5, 2) := by decide +kernel
theorem dX5_spellsOne_26 : decode cX5_spellsOne 26 = .ok (.invokevirtual 44, 3) := by decide +kernel
theorem dX5_spellsOne_29 : decode cX5_spellsOne 29 = .ok (.ifCond .eq 7, 3) := by decide +kernel
theorem dX5_spellsOne_32 : decode cX5_spellsOne 32 = .ok (.iconst 1, 1) := by decide +kernel
theorem dX5_spellsOne_33 : decode cX5_spellsOne 33 = .ok (.goto 4, 3) := by decide +kernel
theorem dX5_spellsOne_36 : decode cX5_spellsOne 36 = .ok (.iconst 0, 1) := by decide +kernel
theorem dX5_spellsOne_37 : decode cX5_spellsOne 37 = .ok (.ireturn, 1) := by decide +kernel
theorem dX5_spellsWithAnyFirst_0 : decode cX5_spellsWithAnyFirst 0 = .ok (.iload_n 2, 1) := by decide +kernel
theorem dX5_spellsWithAnyFirst_1 : decode cX5_spellsWithAnyFirst 1 = .ok (.aload_n 3, 1) := by decide +kernel
theorem dX5_spellsWithAnyFirst_2 : decode cX5_spellsWithAnyFirst 2 = .ok (.invokevirtual 74, 3) := by decide +kernel
theorem dX5_spellsWithAnyFirst_5 : decode cX5_spellsWithAnyFirst 5 = .ok (.if_icmp .ne 16, 3) := by decide +kernel
theorem dX5_spellsWithAnyFirst_8 : decode cX5_spellsWithAnyFirst 8 = .ok (.iload_n 2, 1) := by decide +kernel
theorem dX5_spellsWithAnyFirst_9 : decode cX5_spellsWithAnyFirst 9 = .ok (.ifCond .eq 12, 3) := by decide +kernel
theorem dX5_spellsWithAnyFirst_12 : decode cX5_spellsWithAnyFirst 12 = .ok (.aload_n 0, 1) := by decide +kernel
theorem dX5_spellsWithAnyFirst_13 : decode cX5_spellsWithAnyFirst 13 = .ok (.iload_n 1, 1) := by decide +kernel
theorem dX5_spellsWithAnyFirst_14 : decode cX5_spellsWithAnyFirst 14 = .ok (.iload_n 2, 1) := by decide +kernel
theorem dX5_spellsWithAnyFirst_15 : decode cX5_spellsWithAnyFirst 15 = .ok (.invokevirtual 33, 3) := by decide +kernel
theorem dX5_spellsWithAnyFirst_18 : decode cX5_spellsWithAnyFirst 18 = .ok (.ifCond .ne 5, 3) := by decide +kernel
theorem dX5_spellsWithAnyFirst_21 : decode cX5_spellsWithAnyFirst 21 = .ok (.iconst 0, 1) := by decide +kernel
theorem dX5_spellsWithAnyFirst_22 : decode cX5_spellsWithAnyFirst 22 = .ok (.ireturn, 1) := by decide +kernel
theorem dX5_spellsWithAnyFirst_23 : decode cX5_spellsWithAnyFirst 23 = .ok (.aload_n 0, 1) := by decide +kernel
theorem dX5_spellsWithAnyFirst_24 : decode cX5_spellsWithAnyFirst 24 = .ok (.getfield 15, 3) := by decide +kernel
theorem dX5_spellsWithAnyFirst_27 : decode cX5_spellsWithAnyFirst 27 = .ok (.iload_n 1, 1) := by decide +kernel
theorem dX5_spellsWithAnyFirst_28 : decode cX5_spellsWithAnyFirst 28 = .ok (.baload, 1) := by decide +kernel
theorem dX5_spellsWithAnyFirst_29 : decode cX5_spellsWithAnyFirst 29 = .ok (.istore 4, 2) := by decide +kernel
theorem dX5_spellsWithAnyFirst_31 : decode cX5_spellsWithAnyFirst 31 = .ok (.iload 4, 2) := by decide +kernel
theorem dX5_spellsWithAnyFirst_33 : decode cX5_spellsWithAnyFirst 33 = .ok (.invokestatic 41, 3) := by decide +kernel
theorem dX5_spellsWithAnyFirst_36 : decode cX5_spellsWithAnyFirst 36 = .ok (.ifCond .eq 14, 3) := by decide +kernel
theorem dX5_spellsWithAnyFirst_39 : decode cX5_spellsWithAnyFirst 39 = .ok (.iload 4, 2) := by decide +kernel
theorem dX5_spellsWithAnyFirst_41 : decode cX5_spellsWithAnyFirst 41 = .ok (.bipush 65, 2) := by decide +kernel
theorem dX5_spellsWithAnyFirst_43 : decode cX5_spellsWithAnyFirst 43 = .ok (.isub, 1) := by decide +kernel
theorem dX5_spellsWithAnyFirst_44 : decode cX5_spellsWithAnyFirst 44 = .ok (.bipush 97, 2) := by decide +kernel
theorem dX5_spellsWithAnyFirst_46 : decode cX5_spellsWithAnyFirst 46 = .ok (.iadd, 1) := by decide +kernel
theorem dX5_spellsWithAnyFirst_47 : decode cX5_spellsWithAnyFirst 47 = .ok (.goto 5, 3) := by decide +kernel
theorem dX5_spellsWithAnyFirst_50 : decode cX5_spellsWithAnyFirst 50 = .ok (.iload 4, 2) := by decide +kernel
theorem dX5_spellsWithAnyFirst_52 : decode cX5_spellsWithAnyFirst 52 = .ok (.istore 5, 2) := by decide +kernel
theorem dX5_spellsWithAnyFirst_54 : decode cX5_spellsWithAnyFirst 54 = .ok (.iload 5, 2) := by decide +kernel
theorem dX5_spellsWithAnyFirst_56 : decode cX5_spellsWithAnyFirst 56 = .ok (.aload_n 3, 1) := by decide +kernel
theorem dX5_spellsWithAnyFirst_57 : decode cX5_spellsWithAnyFirst 57 = .ok (.iconst 0, 1) := by decide +kernel
theorem dX5_spellsWithAnyFirst_58 : decode cX5_spellsWithAnyFirst 58 = .ok (.invokevirtual 80, 3) := by decide +kernel
theorem dX5_spellsWithAnyFirst_61 : decode cX5_spellsWithAnyFirst 61 = .ok (.if_icmp .eq 5, 3) := by decide +kernel
theorem dX5_spellsWithAnyFirst_64 : decode cX5_spellsWithAnyFirst 64 = .ok (.iconst 0, 1) := by decide +kernel
theorem dX5_spellsWithAnyFirst_65 : decode cX5_spellsWithAnyFirst 65 = .ok (.ireturn, 1) := by decide +kernel
theorem dX5_spellsWithAnyFirst_66 : decode cX5_spellsWithAnyFirst 66 = .ok (.iconst 1, 1) := by decide +kernel
theorem dX5_spellsWithAnyFirst_67 : decode cX5_spellsWithAnyFirst 67 = .ok (.istore 6, 2) := by decide +kernel
theorem dX5_spellsWithAnyFirst_69 : decode cX5_spellsWithAnyFirst 69 = .ok (.iload 6, 2) := by decide +kernel
theorem dX5_spellsWithAnyFirst_71 : decode cX5_spellsWithAnyFirst 71 = .ok (.iload_n 2, 1) := by decide +kernel
theorem dX5_spellsWithAnyFirst_72 : decode cX5_spellsWithAnyFirst 72 = .ok (.if_icmp .ge 29, 3) := by decide +kernel
theorem dX5_spellsWithAnyFirst_75 : decode cX5_spellsWithAnyFirst 75 = .ok (.aload_n 0, 1) := by decide +kernel
theorem dX5_spellsWithAnyFirst_76 : decode cX5_spellsWithAnyFirst 76 = .ok (.getfield 15, 3) := by decide +kernel
theorem dX5_spellsWithAnyFirst_79 : decode cX5_spellsWithAnyFirst 79 = .ok (.iload_n 1, 1) := by decide +kernel
theorem dX5_spellsWithAnyFirst_80 : decode cX5_spellsWithAnyFirst 80 = .ok (.iload 6, 2) := by decide +kernel
theorem dX5_spellsWithAnyFirst_82 : decode cX5_spellsWithAnyFirst 82 = .ok (.iadd, 1) := by decide +kernel
theorem dX5_spellsWithAnyFirst_83 : decode cX5_spellsWithAnyFirst 83 = .ok (.baload, 1) := by decide +kernel
theorem dX5_spellsWithAnyFirst_84 : decode cX5_spellsWithAnyFirst 84 = .ok (.aload_n 3, 1) := by decide +kernel
theorem dX5_spellsWithAnyFirst_85 : decode cX5_spellsWithAnyFirst 85 = .ok (.iload 6, 2) := by decide +kernel
theorem dX5_spellsWithAnyFirst_87 : decode cX5_spellsWithAnyFirst 87 = .ok (.invokevirtual 80, 3) := by decide +kernel
theorem dX5_spellsWithAnyFirst_90 : decode cX5_spellsWithAnyFirst 90 = .ok (.if_icmp .eq 5, 3) := by decide +kernel
theorem dX5_spellsWithAnyFirst_93 : decode cX5_spellsWithAnyFirst 93 = .ok (.iconst 0, 1) := by decide +kernel
theorem dX5_spellsWithAnyFirst_94 : decode cX5_spellsWithAnyFirst 94 = .ok (.ireturn, 1) := by decide +kernel
theorem dX5_spellsWithAnyFirst_95 : decode cX5_spellsWithAnyFirst 95 = .ok (.iinc 6 1, 3) := by decide +kernel
theorem dX5_spellsWithAnyFirst_98 : decode cX5_spellsWithAnyFirst 98 = .ok (.goto (-29), 3) := by decide +kernel
theorem dX5_spellsWithAnyFirst_101 : decode cX5_spellsWithAnyFirst 101 = .ok (.iconst 1, 1) := by decide +kernel
theorem dX5_spellsWithAnyFirst_102 : decode cX5_spellsWithAnyFirst 102 = .ok (.ireturn, 1) := by decide +kernel
theorem dX5_sameAs_0 : decode cX5_sameAs 0 = .ok (.iload_n 1, 1) := by decide +kernel
theorem dX5_sameAs_1 : decode cX5_sameAs 1 = .ok (.ifCond .lt 29, 3) := by decide +kernel
theorem dX5_sameAs_4 : decode cX5_sameAs 4 = .ok (.iload_n 3, 1) := by decide +kernel
theorem dX5_sameAs_5 : decode cX5_sameAs 5 = .ok (.ifCond .lt 25, 3) := by decide +kernel
theorem dX5_sameAs_8 : decode cX5_sameAs 8 = .ok (.iload 4, 2) := by decide +kernel
theorem dX5_sameAs_10 : decode cX5_sameAs 10 = .ok (.aload_n 0, 1) := by decide +kernel
theorem dX5_sameAs_11 : decode cX5_sameAs 11 = .ok (.getfield 21, 3) := by decide +kernel
theorem dX5_sameAs_14 : decode cX5_sameAs 14 = .ok (.iload_n 1, 1) := by decide +kernel
theorem dX5_sameAs_15 : decode cX5_sameAs 15 = .ok (.isub, 1) := by decide +kernel
theorem dX5_sameAs_16 : decode cX5_sameAs 16 = .ok (.if_icmp .gt 14, 3) := by decide +kernel
theorem dX5_sameAs_19 : decode cX5_sameAs 19 = .ok (.iload 4, 2) := by decide +kernel
theorem dX5_sameAs_21 : decode cX5_sameAs 21 = .ok (.aload_n 2, 1) := by decide +kernel
theorem dX5_sameAs_22 : decode cX5_sameAs 22 = .ok (.getfield 21, 3) := by decide +kernel
theorem dX5_sameAs_25 : decode cX5_sameAs 25 = .ok (.iload_n 3, 1) := by decide +kernel
theorem dX5_sameAs_26 : decode cX5_sameAs 26 = .ok (.isub, 1) := by decide +kernel
theorem dX5_sameAs_27 : decode cX5_sameAs 27 = .ok (.if_icmp .le 5, 3) := by decide +kernel
theorem dX5_sameAs_30 : decode cX5_sameAs 30 = .ok (.iconst 0, 1) := by decide +kernel
theorem dX5_sameAs_31 : decode cX5_sameAs 31 = .ok (.ireturn, 1) := by decide +kernel
theorem dX5_sameAs_32 : decode cX5_sameAs 32 = .ok (.iconst 0, 1) := by decide +kernel
theorem dX5_sameAs_33 : decode cX5_sameAs 33 = .ok (.istore 5, 2) := by decide +kernel
theorem dX5_sameAs_35 : decode cX5_sameAs 35 = .ok (.iload 5, 2) := by decide +kernel
theorem dX5_sameAs_37 : decode cX5_sameAs 37 = .ok (.iload 4, 2) := by decide +kernel
theorem dX5_sameAs_39 : decode cX5_sameAs 39 = .ok (.if_icmp .ge 32, 3) := by decide +kernel
theorem dX5_sameAs_42 : decode cX5_sameAs 42 = .ok (.aload_n 0, 1) := by decide +kernel
theorem dX5_sameAs_43 : decode cX5_sameAs 43 = .ok (.getfield 15, 3) := by decide +kernel
theorem dX5_sameAs_46 : decode cX5_sameAs 46 = .ok (.iload_n 1, 1) := by decide +kernel
theorem dX5_sameAs_47 : decode cX5_sameAs 47 = .ok (.iload 5, 2) := by decide +kernel
theorem dX5_sameAs_49 : decode cX5_sameAs 49 = .ok (.iadd, 1) := by decide +kernel
theorem dX5_sameAs_50 : decode cX5_sameAs 50 = .ok (.baload, 1) := by decide +kernel
theorem dX5_sameAs_51 : decode cX5_sameAs 51 = .ok (.aload_n 2, 1) := by decide +kernel
theorem dX5_sameAs_52 : decode cX5_sameAs 52 = .ok (.getfield 15, 3) := by decide +kernel
theorem dX5_sameAs_55 : decode cX5_sameAs 55 = .ok (.iload_n 3, 1) := by decide +kernel
theorem dX5_sameAs_56 : decode cX5_sameAs 56 = .ok (.iload 5, 2) := by decide +kernel
theorem dX5_sameAs_58 : decode cX5_sameAs 58 = .ok (.iadd, 1) := by decide +kernel
theorem dX5_sameAs_59 : decode cX5_sameAs 59 = .ok (.baload, 1) := by decide +kernel
theorem dX5_sameAs_60 : decode cX5_sameAs 60 = .ok (.if_icmp .eq 5, 3) := by decide +kernel
theorem dX5_sameAs_63 : decode cX5_sameAs 63 = .ok (.iconst 0, 1) := by decide +kernel
theorem dX5_sameAs_64 : decode cX5_sameAs 64 = .ok (.ireturn, 1) := by decide +kernel
theorem dX5_sameAs_65 : decode cX5_sameAs 65 = .ok (.iinc 5 1, 3) := by decide +kernel
theorem dX5_sameAs_68 : decode cX5_sameAs 68 = .ok (.goto (-33), 3) := by decide +kernel
theorem dX5_sameAs_71 : decode cX5_sameAs 71 = .ok (.iconst 1, 1) := by decide +kernel
theorem dX5_sameAs_72 : decode cX5_sameAs 72 = .ok (.ireturn, 1) := by decide +kernel
theorem dX6_init_0 : decode cX6_init 0 = .ok (.aload_n 0, 1) := by decide +kernel
theorem dX6_init_1 : decode cX6_init 1 = .ok (.invokespecial 3, 3) := by decide +kernel
theorem dX6_init_4 : decode cX6_init 4 = .ok (.aload_n 0, 1) := by decide +kernel
theorem dX6_init_5 : decode cX6_init 5 = .ok (.new 9, 3) := by decide +kernel
theorem dX6_init_8 : decode cX6_init 8 = .ok (.dup, 1) := by decide +kernel
theorem dX6_init_9 : decode cX6_init 9 = .ok (.bipush 80, 2) := by decide +kernel
theorem dX6_init_11 : decode cX6_init 11 = .ok (.invokespecial 11, 3) := by decide +kernel
theorem dX6_init_14 : decode cX6_init 14 = .ok (.putfield 14, 3) := by decide +kernel
theorem dX6_init_17 : decode cX6_init 17 = .ok (.aload_n 0, 1) := by decide +kernel
theorem dX6_init_18 : decode cX6_init 18 = .ok (.bipush 8, 2) := by decide +kernel
theorem dX6_init_20 : decode cX6_init 20 = .ok (.newarray .int, 2) := by decide +kernel
theorem dX6_init_22 : decode cX6_init 22 = .ok (.putfield 20, 3) := by decide +kernel
theorem dX6_init_25 : decode cX6_init 25 = .ok (.aload_n 0, 1) := by decide +kernel
theorem dX6_init_26 : decode cX6_init 26 = .ok (.bipush 8, 2) := by decide +kernel
theorem dX6_init_28 : decode cX6_init 28 = .ok (.newarray .int, 2) := by decide +kernel
theorem dX6_init_30 : decode cX6_init 30 = .ok (.putfield 24, 3) := by decide +kernel
theorem dX6_init_33 : decode cX6_init 33 = .ok (.aload_n 0, 1) := by decide +kernel
theorem dX6_init_34 : decode cX6_init 34 = .ok (.bipush 8, 2) := by decide +kernel
theorem dX6_init_36 : decode cX6_init 36 = .ok (.newarray .int, 2) := by decide +kernel
theorem dX6_init_38 : decode cX6_init 38 = .ok (.putfield 27, 3) := by decide +kernel
theorem dX6_init_41 : decode cX6_init 41 = .ok (.aload_n 0, 1) := by decide +kernel
theorem dX6_init_42 : decode cX6_init 42 = .ok (.iconst 0, 1) := by decide +kernel
theorem dX6_init_43 : decode cX6_init 43 = .ok (.putfield 30, 3) := by decide +kernel
theorem dX6_init_46 : decode cX6_init 46 = .ok (.return_, 1) := by decide +kernel
theorem dX6_size_0 : decode cX6_size 0 = .ok (.aload_n 0, 1) := by decide +kernel
theorem dX6_size_1 : decode cX6_size 1 = .ok (.getfield 30, 3) := by decide +kernel
theorem dX6_size_4 : decode cX6_size 4 = .ok (.ireturn, 1) := by decide +kernel
theorem dX6_clear_0 : decode cX6_clear 0 = .ok (.aload_n 0, 1) := by decide +kernel
theorem dX6_clear_1 : decode cX6_clear 1 = .ok (.iconst 0, 1) := by decide +kernel
theorem dX6_clear_2 : decode cX6_clear 2 = .ok (.putfield 30, 3) := by decide +kernel
theorem dX6_clear_5 : decode cX6_clear 5 = .ok (.aload_n 0, 1) := by decide +kernel
theorem dX6_clear_6 : decode cX6_clear 6 = .ok (.getfield 14, 3) := by decide +kernel
theorem dX6_clear_9 : decode cX6_clear 9 = .ok (.invokevirtual 34, 3) := by decide +kernel
theorem dX6_clear_12 : decode cX6_clear 12 = .ok (.return_, 1) := by decide +kernel
theorem dX6_take_0 : decode cX6_take 0 = .ok (.aload_n 1, 1) := by decide +kernel
theorem dX6_take_1 : decode cX6_take 1 = .ok (.invokevirtual 37, 3) := by decide +kernel
theorem dX6_take_4 : decode cX6_take 4 = .ok (.istore_n 3, 1) := by decide +kernel
theorem dX6_take_5 : decode cX6_take 5 = .ok (.aload_n 1, 1) := by decide +kernel
theorem dX6_take_6 : decode cX6_take 6 = .ok (.iconst 0, 1) := by decide +kernel
theorem dX6_take_7 : decode cX6_take 7 = .ok (.iload_n 3, 1) := by decide +kernel
theorem dX6_take_8 : decode cX6_take 8 = .ok (.invokevirtual 41, 3) := by decide +kernel
theorem dX6_take_11 : decode cX6_take 11 = .ok (.ifCond .eq 12, 3) := by decide +kernel
theorem dX6_take_14 : decode cX6_take 14 = .ok (.aload_n 1, 1) := by decide +kernel
theorem dX6_take_15 : decode cX6_take 15 = .ok (.iconst 0, 1) := by decide +kernel
theorem dX6_take_16 : decode cX6_take 16 = .ok (.iload_n 3, 1) := by decide +kernel
theorem dX6_take_17 : decode cX6_take 17 = .ok (.invokevirtual 45, 3) := by decide +kernel
theorem dX6_take_20 : decode cX6_take 20 = .ok (.ifCond .le 5, 3) := by decide +kernel
theorem dX6_take_23 : decode cX6_take 23 = .ok (.iconst 0, 1) := by decide +kernel
theorem dX6_take_24 : decode cX6_take 24 = .ok (.ireturn, 1) := by decide +kernel
theorem dX6_take_25 : decode cX6_take 25 = .ok (.iload_n 2, 1) := by decide +kernel
theorem dX6_take_26 : decode cX6_take 26 = .ok (.ifCond .lt 8, 3) := by decide +kernel
theorem dX6_take_29 : decode cX6_take 29 = .ok (.iload_n 2, 1) := by decide +kernel
theorem dX6_take_30 : decode cX6_take 30 = .ok (.iconst 3, 1) := by decide +kernel
theorem dX6_take_31 : decode cX6_take 31 = .ok (.if_icmp .le 5, 3) := by decide +kernel
theorem dX6_take_34 : decode cX6_take 34 = .ok (.iconst 0, 1) := by decide +kernel
theorem dX6_take_35 : decode cX6_take 35 = .ok (.ireturn, 1) := by decide +kernel
theorem dX6_take_36 : decode cX6_take 36 = .ok (.aload_n 0, 1) := by decide +kernel
theorem dX6_take_37 : decode cX6_take 37 = .ok (.aload_n 1, 1) := by decide +kernel
theorem dX6_take_38 : decode cX6_take 38 = .ok (.iconst 0, 1) := by decide +kernel
theorem dX6_take_39 : decode cX6_take 39 = .ok (.iload_n 3, 1) := by decide +kernel
theorem dX6_take_40 : decode cX6_take 40 = .ok (.invokevirtual 49, 3) := by decide +kernel
theorem dX6_take_43 : decode cX6_take 43 = .ok (.istore 4, 2) := by decide +kernel
theorem dX6_take_45 : decode cX6_take 45 = .ok (.iload 4, 2) := by decide +kernel
theorem dX6_take_47 : decode cX6_take 47 = .ok (.iconst (-1), 1) := by decide +kernel
theorem dX6_take_48 : decode cX6_take 48 = .ok (.if_icmp .ne 14, 3) := by decide +kernel
theorem dX6_take_51 : decode cX6_take 51 = .ok (.aload_n 0, 1) := by decide +kernel
theorem dX6_take_52 : decode cX6_take 52 = .ok (.getfield 30, 3) := by decide +kernel
theorem dX6_take_55 : decode cX6_take 55 = .ok (.bipush 8, 2) := by decide +kernel
theorem dX6_take_57 : decode cX6_take 57 = .ok (.if_icmp .lt 5, 3) := by decide +kernel
theorem dX6_take_60 : decode cX6_take 60 = .ok (.iconst 0, 1) := by decide +kernel
theorem dX6_take_61 : decode cX6_take 61 = .ok (.ireturn, 1) := by decide +kernel
theorem dX6_take_62 : decode cX6_take 62 = .ok (.iload 4, 2) := by decide +kernel
theorem dX6_take_64 : decode cX6_take 64 = .ok (.iconst (-1), 1) := by decide +kernel
theorem dX6_take_65 : decode cX6_take 65 = .ok (.if_icmp .ne 11, 3) := by decide +kernel
theorem dX6_take_68 : decode cX6_take 68 = .ok (.aload_n 0, 1) := by decide +kernel
theorem dX6_take_69 : decode cX6_take 69 = .ok (.aload_n 1, 1) := by decide +kernel
theorem dX6_take_70 : decode cX6_take 70 = .ok (.invokevirtual 53, 3) := by decide +kernel
theorem dX6_take_73 : decode cX6_take 73 = .ok (.goto 5, 3) := by decide +kernel
theorem dX6_take_76 : decode cX6_take 76 = .ok (.iload 4, 2) := by decide +kernel
theorem dX6_take_78 : decode cX6_take 78 = .ok (.istore 5, 2) := by decide +kernel
theorem dX6_take_80 : decode cX6_take 80 = .ok (.aload_n 0, 1) := by decide +kernel
theorem dX6_take_81 : decode cX6_take 81 = .ok (.getfield 27, 3) := by decide +kernel
theorem dX6_take_84 : decode cX6_take 84 = .ok (.iload 5, 2) := by decide +kernel
theorem dX6_take_86 : decode cX6_take 86 = .ok (.iload_n 2, 1) := by decide +kernel
theorem dX6_take_87 : decode cX6_take 87 = .ok (.iastore, 1) := by decide +kernel
theorem dX6_take_88 : decode cX6_take 88 = .ok (.iconst 1, 1) := by decide +kernel
theorem dX6_take_89 : decode cX6_take 89 = .ok (.ireturn, 1) := by decide +kernel
theorem dX6_append_0 : decode cX6_append 0 = .ok (.aload_n 0, 1) := by decide +kernel
theorem dX6_append_1 : decode cX6_append 1 = .ok (.getfield 30, 3) := by decide +kernel
theorem dX6_append_4 : decode cX6_append 4 = .ok (.bipush 7, 2) := by decide +kernel
theorem dX6_append_6 : decode cX6_append 6 = .ok (.invokestatic 57, 3) := by decide +kernel
theorem dX6_append_9 : decode cX6_append 9 = .ok (.istore_n 2, 1) := by decide +kernel
theorem dX6_append_10 : decode cX6_append 10 = .ok (.aload_n 0, 1) := by decide +kernel
theorem dX6_append_11 : decode cX6_append 11 = .ok (.getfield 20, 3) := by decide +kernel
theorem dX6_append_14 : decode cX6_append 14 = .ok (.iload_n 2, 1) := by decide +kernel
theorem dX6_append_15 : decode cX6_append 15 = .ok (.aload_n 0, 1) := by decide +kernel
theorem dX6_append_16 : decode cX6_append 16 = .ok (.getfield 14, 3) := by decide +kernel
theorem dX6_append_19 : decode cX6_append 19 = .ok (.invokevirtual 37, 3) := by decide +kernel
theorem dX6_append_22 : decode cX6_append 22 = .ok (.iastore, 1) := by decide +kernel
theorem dX6_append_23 : decode cX6_append 23 = .ok (.aload_n 0, 1) := by decide +kernel
theorem dX6_append_24 : decode cX6_append 24 = .ok (.getfield 24, 3) := by decide +kernel
theorem dX6_append_27 : decode cX6_append 27 = .ok (.iload_n 2, 1) := by decide +kernel
theorem dX6_append_28 : decode cX6_append 28 = .ok (.aload_n 1, 1) := by decide +kernel
theorem dX6_append_29 : decode cX6_append 29 = .ok (.invokevirtual 37, 3) := by decide +kernel
theorem dX6_append_32 : decode cX6_append 32 = .ok (.iastore, 1) := by decide +kernel
theorem dX6_append_33 : decode cX6_append 33 = .ok (.aload_n 0, 1) := by decide +kernel
theorem dX6_append_34 : decode cX6_append 34 = .ok (.getfield 14, 3) := by decide +kernel
theorem dX6_append_37 : decode cX6_append 37 = .ok (.aload_n 1, 1) := by decide +kernel
theorem dX6_append_38 : decode cX6_append 38 = .ok (.invokevirtual 62, 3) := by decide +kernel
theorem dX6_append_41 : decode cX6_append 41 = .ok (.aload_n 0, 1) := by decide +kernel
theorem dX6_append_42 : decode cX6_append 42 = .ok (.iload_n 2, 1) := by decide +kernel
theorem dX6_append_43 : decode cX6_append 43 = .ok (.iconst 1, 1) := by decide +kernel
theorem dX6_append_44 : decode cX6_append 44 = .ok (.iadd, 1) := by decide +kernel
theorem dX6_append_45 : decode cX6_append 45 = .ok (.putfield 30, 3) := by decide +kernel
theorem dX6_append_48 : decode cX6_append 48 = .ok (.iload_n 2, 1) := by decide +kernel
theorem dX6_append_49 : decode cX6_append 49 = .ok (.ireturn, 1) := by decide +kernel
theorem dX6_find_0 : decode cX6_find 0 = .ok (.iconst 0, 1) := by decide +kernel
theorem dX6_find_1 : decode cX6_find 1 = .ok (.istore 4, 2) := by decide +kernel
theorem dX6_find_3 : decode cX6_find 3 = .ok (.iload 4, 2) := by decide +kernel
theorem dX6_find_5 : decode cX6_find 5 = .ok (.aload_n 0, 1) := by decide +kernel
theorem dX6_find_6 : decode cX6_find 6 = .ok (.getfield 30, 3) := by decide +kernel
theorem dX6_find_9 : decode cX6_find 9 = .ok (.if_icmp .ge 43, 3) := by decide +kernel
theorem dX6_find_12 : decode cX6_find 12 = .ok (.aload_n 0, 1) := by decide +kernel
theorem dX6_find_13 : decode cX6_find 13 = .ok (.getfield 24, 3) := by decide +kernel
theorem dX6_find_16 : decode cX6_find 16 = .ok (.iload 4, 2) := by decide +kernel
theorem dX6_find_18 : decode cX6_find 18 = .ok (.iaload, 1) := by decide +kernel
theorem dX6_find_19 : decode cX6_find 19 = .ok (.iload_n 3, 1) := by decide +kernel
theorem dX6_find_20 : decode cX6_find 20 = .ok (.if_icmp .ne 26, 3) := by decide +kernel
theorem dX6_find_23 : decode cX6_find 23 = .ok (.aload_n 1, 1) := by decide +kernel
theorem dX6_find_24 : decode cX6_find 24 = .ok (.iload_n 2, 1) := by decide +kernel
theorem dX6_find_25 : decode cX6_find 25 = .ok (.aload_n 0, 1) := by decide +kernel
theorem dX6_find_26 : decode cX6_find 26 = .ok (.getfield 14, 3) := by decide +kernel
theorem dX6_find_29 : decode cX6_find 29 = .ok (.aload_n 0, 1) := by decide +kernel
theorem dX6_find_30 : decode cX6_find 30 = .ok (.getfield 20, 3) := by decide +kernel
theorem dX6_find_33 : decode cX6_find 33 = .ok (.iload 4, 2) := by decide +kernel
theorem dX6_find_35 : decode cX6_find 35 = .ok (.iaload, 1) := by decide +kernel
theorem dX6_find_36 : decode cX6_find 36 = .ok (.iload_n 3, 1) := by decide +kernel
theorem dX6_find_37 : decode cX6_find 37 = .ok (.invokevirtual 66, 3) := by decide +kernel
theorem dX6_find_40 : decode cX6_find 40 = .ok (.ifCond .eq 6, 3) := by decide +kernel
theorem dX6_find_43 : decode cX6_find 43 = .ok (.iload 4, 2) := by decide +kernel
theorem dX6_find_45 : decode cX6_find 45 = .ok (.ireturn, 1) := by decide +kernel
theorem dX6_find_46 : decode cX6_find 46 = .ok (.iinc 4 1, 3) := by decide +kernel
theorem dX6_find_49 : decode cX6_find 49 = .ok (.goto (-46), 3) := by decide +kernel
theorem dX6_find_52 : decode cX6_find 52 = .ok (.iconst (-1), 1) := by decide +kernel
theorem dX6_find_53 : decode cX6_find 53 = .ok (.ireturn, 1) := by decide +kernel
theorem dX6_sexOf_0 : decode cX6_sexOf 0 = .ok (.iload_n 1, 1) := by decide +kernel
theorem dX6_sexOf_1 : decode cX6_sexOf 1 = .ok (.ifCond .lt 20, 3) := by decide +kernel
theorem dX6_sexOf_4 : decode cX6_sexOf 4 = .ok (.iload_n 1, 1) := by decide +kernel
theorem dX6_sexOf_5 : decode cX6_sexOf 5 = .ok (.aload_n 0, 1) := by decide +kernel
theorem dX6_sexOf_6 : decode cX6_sexOf 6 = .ok (.getfield 30, 3) := by decide +kernel
theorem dX6_sexOf_9 : decode cX6_sexOf 9 = .ok (.if_icmp .ge 12, 3) := by decide +kernel
theorem dX6_sexOf_12 : decode cX6_sexOf 12 = .ok (.aload_n 0, 1) := by decide +kernel
theorem dX6_sexOf_13 : decode cX6_sexOf 13 = .ok (.getfield 27, 3) := by decide +kernel
theorem dX6_sexOf_16 : decode cX6_sexOf 16 = .ok (.iload_n 1, 1) := by decide +kernel
theorem dX6_sexOf_17 : decode cX6_sexOf 17 = .ok (.iaload, 1) := by decide +kernel
theorem dX6_sexOf_18 : decode cX6_sexOf 18 = .ok (.goto 4, 3) := by decide +kernel
theorem dX6_sexOf_21 : decode cX6_sexOf 21 = .ok (.iconst 0, 1) := by decide +kernel
theorem dX6_sexOf_22 : decode cX6_sexOf 22 = .ok (.ireturn, 1) := by decide +kernel
theorem dX7_init_0 : decode cX7_init 0 = .ok (.aload_n 0, 1) := by decide +kernel
theorem dX7_init_1 : decode cX7_init 1 = .ok (.invokespecial 3, 3) := by decide +kernel
theorem dX7_init_4 : decode cX7_init 4 = .ok (.aload_n 0, 1) := by decide +kernel
theorem dX7_init_5 : decode cX7_init 5 = .ok (.new 9, 3) := by decide +kernel
theorem dX7_init_8 : decode cX7_init 8 = .ok (.dup, 1) := by decide +kernel
theorem dX7_init_9 : decode cX7_init 9 = .ok (.sipush 600, 3) := by decide +kernel
theorem dX7_init_12 : decode cX7_init 12 = .ok (.invokespecial 11, 3) := by decide +kernel
theorem dX7_init_15 : decode cX7_init 15 = .ok (.putfield 14, 3) := by decide +kernel
theorem dX7_init_18 : decode cX7_init 18 = .ok (.aload_n 0, 1) := by decide +kernel
theorem dX7_init_19 : decode cX7_init 19 = .ok (.sipush 300, 3) := by decide +kernel
theorem dX7_init_22 : decode cX7_init 22 = .ok (.newarray .int, 2) := by decide +kernel
theorem dX7_init_24 : decode cX7_init 24 = .ok (.putfield 20, 3) := by decide +kernel
theorem dX7_init_27 : decode cX7_init 27 = .ok (.aload_n 0, 1) := by decide +kernel
theorem dX7_init_28 : decode cX7_init 28 = .ok (.sipush 300, 3) := by decide +kernel
theorem dX7_init_31 : decode cX7_init 31 = .ok (.newarray .int, 2) := by decide +kernel
theorem dX7_init_33 : decode cX7_init 33 = .ok (.putfield 24, 3) := by decide +kernel
theorem dX7_init_36 : decode cX7_init 36 = .ok (.aload_n 0, 1) := by decide +kernel
theorem dX7_init_37 : decode cX7_init 37 = .ok (.sipush 300, 3) := by decide +kernel
theorem dX7_init_40 : decode cX7_init 40 = .ok (.newarray .int, 2) := by decide +kernel
theorem dX7_init_42 : decode cX7_init 42 = .ok (.putfield 27, 3) := by decide +kernel
theorem dX7_init_45 : decode cX7_init 45 = .ok (.aload_n 0, 1) := by decide +kernel
theorem dX7_init_46 : decode cX7_init 46 = .ok (.sipush 300, 3) := by decide +kernel
theorem dX7_init_49 : decode cX7_init 49 = .ok (.newarray .int, 2) := by decide +kernel
theorem dX7_init_51 : decode cX7_init 51 = .ok (.putfield 30, 3) := by decide +kernel
theorem dX7_init_54 : decode cX7_init 54 = .ok (.aload_n 0, 1) := by decide +kernel
theorem dX7_init_55 : decode cX7_init 55 = .ok (.iconst 0, 1) := by decide +kernel
theorem dX7_init_56 : decode cX7_init 56 = .ok (.putfield 33, 3) := by decide +kernel
theorem dX7_init_59 : decode cX7_init 59 = .ok (.aload_n 0, 1) := by decide +kernel
theorem dX7_init_60 : decode cX7_init 60 = .ok (.iconst 0, 1) := by decide +kernel
theorem dX7_init_61 : decode cX7_init 61 = .ok (.putfield 37, 3) := by decide +kernel
theorem dX7_init_64 : decode cX7_init 64 = .ok (.return_, 1) := by decide +kernel
theorem dX7_take_0 : decode cX7_take 0 = .ok (.aload_n 0, 1) := by decide +kernel
theorem dX7_take_1 : decode cX7_take 1 = .ok (.getfield 14, 3) := by decide +kernel
theorem dX7_take_4 : decode cX7_take 4 = .ok (.invokevirtual 40, 3) := by decide +kernel
theorem dX7_take_7 : decode cX7_take 7 = .ok (.aload_n 0, 1) := by decide +kernel
theorem dX7_take_8 : decode cX7_take 8 = .ok (.getfield 14, 3) := by decide +kernel
theorem dX7_take_11 : decode cX7_take 11 = .ok (.aload_n 1, 1) := by decide +kernel
theorem dX7_take_12 : decode cX7_take 12 = .ok (.invokevirtual 43, 3) := by decide +kernel
theorem dX7_take_15 : decode cX7_take 15 = .ok (.aload_n 0, 1) := by decide +kernel
theorem dX7_take_16 : decode cX7_take 16 = .ok (.invokevirtual 47, 3) := by decide +kernel
theorem dX7_take_19 : decode cX7_take 19 = .ok (.iconst 0, 1) := by decide +kernel
theorem dX7_take_20 : decode cX7_take 20 = .ok (.istore_n 2, 1) := by decide +kernel
theorem dX7_take_21 : decode cX7_take 21 = .ok (.iload_n 2, 1) := by decide +kernel
theorem dX7_take_22 : decode cX7_take 22 = .ok (.aload_n 0, 1) := by decide +kernel
theorem dX7_take_23 : decode cX7_take 23 = .ok (.getfield 33, 3) := by decide +kernel
theorem dX7_take_26 : decode cX7_take 26 = .ok (.if_icmp .ge 20, 3) := by decide +kernel
theorem dX7_take_29 : decode cX7_take 29 = .ok (.aload_n 0, 1) := by decide +kernel
theorem dX7_take_30 : decode cX7_take 30 = .ok (.getfield 30, 3) := by decide +kernel
theorem dX7_take_33 : decode cX7_take 33 = .ok (.iload_n 2, 1) := by decide +kernel
theorem dX7_take_34 : decode cX7_take 34 = .ok (.aload_n 0, 1) := by decide +kernel
theorem dX7_take_35 : decode cX7_take 35 = .ok (.iload_n 2, 1) := by decide +kernel
theorem dX7_take_36 : decode cX7_take 36 = .ok (.invokevirtual 50, 3) := by decide +kernel
theorem dX7_take_39 : decode cX7_take 39 = .ok (.iastore, 1) := by decide +kernel
theorem dX7_take_40 : decode cX7_take 40 = .ok (.iinc 2 1, 3) := by decide +kernel
theorem dX7_take_43 : decode cX7_take 43 = .ok (.goto (-22), 3) := by decide +kernel
theorem dX7_take_46 : decode cX7_take 46 = .ok (.iconst 0, 1) := by decide +kernel
theorem dX7_take_47 : decode cX7_take 47 = .ok (.istore_n 2, 1) := by decide +kernel
theorem dX7_take_48 : decode cX7_take 48 = .ok (.iload_n 2, 1) := by decide +kernel
theorem dX7_take_49 : decode cX7_take 49 = .ok (.aload_n 0, 1) := by decide +kernel
theorem dX7_take_50 : decode cX7_take 50 = .ok (.getfield 33, 3) := by decide +kernel
theorem dX7_take_53 : decode cX7_take 53 = .ok (.if_icmp .ge 35, 3) := by decide +kernel
theorem dX7_take_56 : decode cX7_take 56 = .ok (.aload_n 0, 1) := by decide +kernel
theorem dX7_take_57 : decode cX7_take 57 = .ok (.getfield 30, 3) := by decide +kernel
theorem dX7_take_60 : decode cX7_take 60 = .ok (.iload_n 2, 1) := by decide +kernel
theorem dX7_take_61 : decode cX7_take 61 = .ok (.iaload, 1) := by decide +kernel
theorem dX7_take_62 : decode cX7_take 62 = .ok (.bipush 8, 2) := by decide +kernel
theorem dX7_take_64 : decode cX7_take 64 = .ok (.if_icmp .ne 18, 3) := by decide +kernel
theorem dX7_take_67 : decode cX7_take 67 = .ok (.aload_n 0, 1) := by decide +kernel
theorem dX7_take_68 : decode cX7_take 68 = .ok (.iload_n 2, 1) := by decide +kernel
theorem dX7_take_69 : decode cX7_take 69 = .ok (.invokevirtual 54, 3) := by decide +kernel
theorem dX7_take_72 : decode cX7_take 72 = .ok (.ifCond .eq 10, 3) := by decide +kernel
theorem dX7_take_75 : decode cX7_take 75 = .ok (.aload_n 0, 1) := by decide +kernel
theorem dX7_take_76 : decode cX7_take 76 = .ok (.getfield 30, 3) := by decide +kernel
theorem dX7_take_79 : decode cX7_take 79 = .ok (.iload_n 2, 1) := by decide +kernel
theorem dX7_take_80 : decode cX7_take 80 = .ok (.iconst 0, 1) := by decide +kernel
theorem dX7_take_81 : decode cX7_take 81 = .ok (.iastore, 1) := by decide +kernel
theorem dX7_take_82 : decode cX7_take 82 = .ok (.iinc 2 1, 3) := by decide +kernel
theorem dX7_take_85 : decode cX7_take 85 = .ok (.goto (-37), 3) := by decide +kernel
theorem dX7_take_88 : decode cX7_take 88 = .ok (.return_, 1) := by decide +kernel
theorem dX7_split_0 : decode cX7_split 0 = .ok (.aload_n 0, 1) := by decide +kernel
theorem dX7_split_1 : decode cX7_split 1 = .ok (.iconst 0, 1) := by decide +kernel
theorem dX7_split_2 : decode cX7_split 2 = .ok (.putfield 33, 3) := by decide +kernel
theorem dX7_split_5 : decode cX7_split 5 = .ok (.iconst 0, 1) := by decide +kernel
theorem dX7_split_6 : decode cX7_split 6 = .ok (.istore_n 1, 1) := by decide +kernel
theorem dX7_split_7 : decode cX7_split 7 = .ok (.iconst 0, 1) := by decide +kernel
theorem dX7_split_8 : decode cX7_split 8 = .ok (.istore_n 2, 1) := by decide +kernel
theorem dX7_split_9 : decode cX7_split 9 = .ok (.iconst 0, 1) := by decide +kernel
theorem dX7_split_10 : decode cX7_split 10 = .ok (.istore 4, 2) := by decide +kernel
theorem dX7_split_12 : decode cX7_split 12 = .ok (.iload 4, 2) := by decide +kernel
theorem dX7_split_14 : decode cX7_split 14 = .ok (.aload_n 0, 1) := by decide +kernel
theorem dX7_split_15 : decode cX7_split 15 = .ok (.getfield 14, 3) := by decide +kernel
theorem dX7_split_18 : decode cX7_split 18 = .ok (.invokevirtual 58, 3) := by decide +kernel
theorem dX7_split_21 : decode cX7_split 21 = .ok (.if_icmp .ge 62, 3) := by decide +kernel
theorem dX7_split_24 : decode cX7_split 24 = .ok (.aload_n 0, 1) := by decide +kernel
theorem dX7_split_25 : decode cX7_split 25 = .ok (.getfield 14, 3) := by decide +kernel
theorem dX7_split_28 : decode cX7_split 28 = .ok (.iload 4, 2) := by decide +kernel
theorem dX7_split_30 : decode cX7_split 30 = .ok (.invokevirtual 62, 3) := by decide +kernel
theorem dX7_split_33 : decode cX7_split 33 = .ok (.istore_n 3, 1) := by decide +kernel
theorem dX7_split_34 : decode cX7_split 34 = .ok (.iload_n 3, 1) := by decide +kernel
theorem dX7_split_35 : decode cX7_split 35 = .ok (.ifCond .le 16, 3) := by decide +kernel
theorem dX7_split_38 : decode cX7_split 38 = .ok (.aload_n 0, 1) := by decide +kernel
theorem dX7_split_39 : decode cX7_split 39 = .ok (.iload 4, 2) := by decide +kernel
theorem dX7_split_41 : decode cX7_split 41 = .ok (.iload_n 3, 1) := by decide +kernel
theorem dX7_split_42 : decode cX7_split 42 = .ok (.iload_n 1, 1) := by decide +kernel
theorem dX7_split_43 : decode cX7_split 43 = .ok (.invokevirtual 65, 3) := by decide +kernel
theorem dX7_split_46 : decode cX7_split 46 = .ok (.iconst 1, 1) := by decide +kernel
theorem dX7_split_47 : decode cX7_split 47 = .ok (.istore_n 2, 1) := by decide +kernel
theorem dX7_split_48 : decode cX7_split 48 = .ok (.goto 22, 3) := by decide +kernel
theorem dX7_split_51 : decode cX7_split 51 = .ok (.aload_n 0, 1) := by decide +kernel
theorem dX7_split_52 : decode cX7_split 52 = .ok (.getfield 14, 3) := by decide +kernel
theorem dX7_split_55 : decode cX7_split 55 = .ok (.iload 4, 2) := by decide +kernel
theorem dX7_split_57 : decode cX7_split 57 = .ok (.invokevirtual 69, 3) := by decide +kernel
theorem dX7_split_60 : decode cX7_split 60 = .ok (.bipush 46, 2) := by decide +kernel
theorem dX7_split_62 : decode cX7_split 62 = .ok (.if_icmp .ne 8, 3) := by decide +kernel
theorem dX7_split_65 : decode cX7_split 65 = .ok (.iinc 1 1, 3) := by decide +kernel
theorem dX7_split_68 : decode cX7_split 68 = .ok (.iconst 0, 1) := by decide +kernel
theorem dX7_split_69 : decode cX7_split 69 = .ok (.istore_n 2, 1) := by decide +kernel
theorem dX7_split_70 : decode cX7_split 70 = .ok (.iload 4, 2) := by decide +kernel
theorem dX7_split_72 : decode cX7_split 72 = .ok (.iload_n 3, 1) := by decide +kernel
theorem dX7_split_73 : decode cX7_split 73 = .ok (.iconst 1, 1) := by decide +kernel
theorem dX7_split_74 : decode cX7_split 74 = .ok (.invokestatic 72, 3) := by decide +kernel
theorem dX7_split_77 : decode cX7_split 77 = .ok (.iadd, 1) := by decide +kernel
theorem dX7_split_78 : decode cX7_split 78 = .ok (.istore 4, 2) := by decide +kernel
theorem dX7_split_80 : decode cX7_split 80 = .ok (.goto (-68), 3) := by decide +kernel
theorem dX7_split_83 : decode cX7_split 83 = .ok (.aload_n 0, 1) := by decide +kernel
theorem dX7_split_84 : decode cX7_split 84 = .ok (.iload_n 2, 1) := by decide +kernel
theorem dX7_split_85 : decode cX7_split 85 = .ok (.ifCond .eq 9, 3) := by decide +kernel
theorem dX7_split_88 : decode cX7_split 88 = .ok (.iload_n 1, 1) := by decide +kernel
theorem dX7_split_89 : decode cX7_split 89 = .ok (.iconst 1, 1) := by decide +kernel
theorem dX7_split_90 : decode cX7_split 90 = .ok (.iadd, 1) := by decide +kernel
theorem dX7_split_91 : decode cX7_split 91 = .ok (.goto 4, 3) := by decide +kernel
theorem dX7_split_94 : decode cX7_split 94 = .ok (.iload_n 1, 1) := by decide +kernel
theorem dX7_split_95 : decode cX7_split 95 = .ok (.putfield 37, 3) := by decide +kernel
theorem dX7_split_98 : decode cX7_split 98 = .ok (.return_, 1) := by decide +kernel
theorem dX7_add_0 : decode cX7_add 0 = .ok (.aload_n 0, 1) := by decide +kernel
theorem dX7_add_1 : decode cX7_add 1 = .ok (.getfield 33, 3) := by decide +kernel
theorem dX7_add_4 : decode cX7_add 4 = .ok (.sipush 300, 3) := by decide +kernel
theorem dX7_add_7 : decode cX7_add 7 = .ok (.if_icmp .ge 43, 3) := by decide +kernel
theorem dX7_add_10 : decode cX7_add 10 = .ok (.aload_n 0, 1) := by decide +kernel
theorem dX7_add_11 : decode cX7_add 11 = .ok (.getfield 20, 3) := by decide +kernel
theorem dX7_add_14 : decode cX7_add 14 = .ok (.aload_n 0, 1) := by decide +kernel
theorem dX7_add_15 : decode cX7_add 15 = .ok (.getfield 33, 3) := by decide +kernel
theorem dX7_add_18 : decode cX7_add 18 = .ok (.iload_n 1, 1) := by decide +kernel
theorem dX7_add_19 : decode cX7_add 19 = .ok (.iastore, 1) := by decide +kernel
theorem dX7_add_20 : decode cX7_add 20 = .ok (.aload_n 0, 1) := by decide +kernel
theorem dX7_add_21 : decode cX7_add 21 = .ok (.getfield 24, 3) := by decide +kernel
theorem dX7_add_24 : decode cX7_add 24 = .ok (.aload_n 0, 1) := by decide +kernel
theorem dX7_add_25 : decode cX7_add 25 = .ok (.getfield 33, 3) := by decide +kernel
theorem dX7_add_28 : decode cX7_add 28 = .ok (.iload_n 2, 1) := by decide +kernel
theorem dX7_add_29 : decode cX7_add 29 = .ok (.iastore, 1) := by decide +kernel
theorem dX7_add_30 : decode cX7_add 30 = .ok (.aload_n 0, 1) := by decide +kernel
theorem dX7_add_31 : decode cX7_add 31 = .ok (.getfield 27, 3) := by decide +kernel
theorem dX7_add_34 : decode cX7_add 34 = .ok (.aload_n 0, 1) := by decide +kernel
theorem dX7_add_35 : decode cX7_add 35 = .ok (.getfield 33, 3) := by decide +kernel
theorem dX7_add_38 : decode cX7_add 38 = .ok (.iload_n 3, 1) := by decide +kernel
theorem dX7_add_39 : decode cX7_add 39 = .ok (.iastore, 1) := by decide +kernel
theorem dX7_add_40 : decode cX7_add 40 = .ok (.aload_n 0, 1) := by decide +kernel
theorem dX7_add_41 : decode cX7_add 41 = .ok (.dup, 1) := by decide +kernel
theorem dX7_add_42 : decode cX7_add 42 = .ok (.getfield 33, 3) := by decide +kernel
theorem dX7_add_45 : decode cX7_add 45 = .ok (.iconst 1, 1) := by decide +kernel
theorem dX7_add_46 : decode cX7_add 46 = .ok (.iadd, 1) := by decide +kernel
theorem dX7_add_47 : decode cX7_add 47 = .ok (.putfield 33, 3) := by decide +kernel
theorem dX7_add_50 : decode cX7_add 50 = .ok (.return_, 1) := by decide +kernel
theorem dX7_kindBySpelling_0 : decode cX7_kindBySpelling 0 = .ok (.aload_n 0, 1) := by decide +kernel
theorem dX7_kindBySpelling_1 : decode cX7_kindBySpelling 1 = .ok (.iload_n 1, 1) := by decide +kernel
theorem dX7_kindBySpelling_2 : decode cX7_kindBySpelling 2 = .ok (.invokevirtual 78, 3) := by decide +kernel
theorem dX7_kindBySpelling_5 : decode cX7_kindBySpelling 5 = .ok (.istore_n 2, 1) := by decide +kernel
theorem dX7_kindBySpelling_6 : decode cX7_kindBySpelling 6 = .ok (.aload_n 0, 1) := by decide +kernel
theorem dX7_kindBySpelling_7 : decode cX7_kindBySpelling 7 = .ok (.iload_n 1, 1) := by decide +kernel
theorem dX7_kindBySpelling_8 : decode cX7_kindBySpelling 8 = .ok (.invokevirtual 81, 3) := by decide +kernel
theorem dX7_kindBySpelling_11 : decode cX7_kindBySpelling 11 = .ok (.istore_n 3, 1) := by decide +kernel
theorem dX7_kindBySpelling_12 : decode cX7_kindBySpelling 12 = .ok (.aload_n 0, 1) := by decide +kernel
theorem dX7_kindBySpelling_13 : decode cX7_kindBySpelling 13 = .ok (.getfield 14, 3) := by decide +kernel
theorem dX7_kindBySpelling_16 : decode cX7_kindBySpelling 16 = .ok (.iload_n 2, 1) := by decide +kernel
theorem dX7_kindBySpelling_17 : decode cX7_kindBySpelling 17 = .ok (.iload_n 3, 1) := by decide +kernel
theorem dX7_kindBySpelling_18 : decode cX7_kindBySpelling 18 = .ok (.invokevirtual 84, 3) := by decide +kernel
theorem dX7_kindBySpelling_21 : decode cX7_kindBySpelling 21 = .ok (.istore 4, 2) := by decide +kernel
theorem dX7_kindBySpelling_23 : decode cX7_kindBySpelling 23 = .ok (.iload 4, 2) := by decide +kernel
theorem dX7_kindBySpelling_25 : decode cX7_kindBySpelling 25 = .ok (.ifCond .le 32, 3) := by decide +kernel
theorem dX7_kindBySpelling_28 : decode cX7_kindBySpelling 28 = .ok (.aload_n 0, 1) := by decide +kernel
theorem dX7_kindBySpelling_29 : decode cX7_kindBySpelling 29 = .ok (.getfield 14, 3) := by decide +kernel
theorem dX7_kindBySpelling_32 : decode cX7_kindBySpelling 32 = .ok (.iload_n 2, 1) := by decide +kernel
theorem dX7_kindBySpelling_33 : decode cX7_kindBySpelling 33 = .ok (.invokevirtual 69, 3) := by decide +kernel
theorem dX7_kindBySpelling_36 : decode cX7_kindBySpelling 36 = .ok (.invokestatic 87, 3) := by decide +kernel
theorem dX7_kindBySpelling_39 : decode cX7_kindBySpelling 39 = .ok (.ifCond .ne 11, 3) := by decide +kernel
theorem dX7_kindBySpelling_42 : decode cX7_kindBySpelling 42 = .ok (.aload_n 0, 1) := by decide +kernel
theorem dX7_kindBySpelling_43 : decode cX7_kindBySpelling 43 = .ok (.iload_n 1, 1) := by decide +kernel
theorem dX7_kindBySpelling_44 : decode cX7_kindBySpelling 44 = .ok (.invokevirtual 90, 3) := by decide +kernel
theorem dX7_kindBySpelling_47 : decode cX7_kindBySpelling 47 = .ok (.ifCond .eq 8, 3) := by decide +kernel
theorem dX7_kindBySpelling_50 : decode cX7_kindBySpelling 50 = .ok (.iload 4, 2) := by decide +kernel
theorem dX7_kindBySpelling_52 : decode cX7_kindBySpelling 52 = .ok (.goto 4, 3) := by decide +kernel
theorem dX7_kindBySpelling_55 : decode cX7_kindBySpelling 55 = .ok (.iconst 5, 1) := by decide +kernel
theorem dX7_kindBySpelling_56 : decode cX7_kindBySpelling 56 = .ok (.ireturn, 1) := by decide +kernel
theorem dX7_kindBySpelling_57 : decode cX7_kindBySpelling 57 = .ok (.aload_n 0, 1) := by decide +kernel
theorem dX7_kindBySpelling_58 : decode cX7_kindBySpelling 58 = .ok (.getfield 14, 3) := by decide +kernel
theorem dX7_kindBySpelling_61 : decode cX7_kindBySpelling 61 = .ok (.iload_n 2, 1) := by decide +kernel
theorem dX7_kindBySpelling_62 : decode cX7_kindBySpelling 62 = .ok (.iload_n 3, 1) := by decide +kernel
theorem dX7_kindBySpelling_63 : decode cX7_kindBySpelling 63 = .ok (.invokevirtual 93, 3) := by decide +kernel
theorem dX7_kindBySpelling_66 : decode cX7_kindBySpelling 66 = .ok (.ifCond .eq 18, 3) := by decide +kernel
theorem dX7_kindBySpelling_69 : decode cX7_kindBySpelling 69 = .ok (.aload_n 0, 1) := by decide +kernel
theorem dX7_kindBySpelling_70 : decode cX7_kindBySpelling 70 = .ok (.iload_n 1, 1) := by decide +kernel
theorem dX7_kindBySpelling_71 : decode cX7_kindBySpelling 71 = .ok (.invokevirtual 90, 3) := by decide +kernel
theorem dX7_kindBySpelling_74 : decode cX7_kindBySpelling 74 = .ok (.ifCond .eq 8, 3) := by decide +kernel
theorem dX7_kindBySpelling_77 : decode cX7_kindBySpelling 77 = .ok (.bipush 8, 2) := by decide +kernel
theorem dX7_kindBySpelling_79 : decode cX7_kindBySpelling 79 = .ok (.goto 4, 3) := by decide +kernel
theorem dX7_kindBySpelling_82 : decode cX7_kindBySpelling 82 = .ok (.iconst 0, 1) := by decide +kernel
theorem dX7_kindBySpelling_83 : decode cX7_kindBySpelling 83 = .ok (.ireturn, 1) := by decide +kernel
theorem dX7_kindBySpelling_84 : decode cX7_kindBySpelling 84 = .ok (.aload_n 0, 1) := by decide +kernel
theorem dX7_kindBySpelling_85 : decode cX7_kindBySpelling 85 = .ok (.getfield 14, 3) := by decide +kernel
theorem dX7_kindBySpelling_88 : decode cX7_kindBySpelling 88 = .ok (.iload_n 2, 1) := by decide +kernel
theorem dX7_kindBySpelling_89 : decode cX7_kindBySpelling 89 = .ok (.iload_n 3, 1) := by decide +kernel
theorem dX7_kindBySpelling_90 : decode cX7_kindBySpelling 90 = .ok (.ldc 97, 2) := by decide +kernel
theorem dX7_kindBySpelling_92 : decode cX7_kindBySpelling 92 = .ok (.invokevirtual 99, 3) := by decide +kernel
theorem dX7_kindBySpelling_95 : decode cX7_kindBySpelling 95 = .ok (.ifCond .eq 6, 3) := by decide +kernel
theorem dX7_kindBySpelling_98 : decode cX7_kindBySpelling 98 = .ok (.bipush 6, 2) := by decide +kernel
theorem dX7_kindBySpelling_100 : decode cX7_kindBySpelling 100 = .ok (.ireturn, 1) := by decide +kernel
theorem dX7_kindBySpelling_101 : decode cX7_kindBySpelling 101 = .ok (.aload_n 0, 1) := by decide +kernel
theorem dX7_kindBySpelling_102 : decode cX7_kindBySpelling 102 = .ok (.getfield 14, 3) := by decide +kernel
theorem dX7_kindBySpelling_105 : decode cX7_kindBySpelling 105 = .ok (.iload_n 2, 1) := by decide +kernel
theorem dX7_kindBySpelling_106 : decode cX7_kindBySpelling 106 = .ok (.iload_n 3, 1) := by decide +kernel
theorem dX7_kindBySpelling_107 : decode cX7_kindBySpelling 107 = .ok (.ldc 103, 2) := by decide +kernel
theorem dX7_kindBySpelling_109 : decode cX7_kindBySpelling 109 = .ok (.invokevirtual 99, 3) := by decide +kernel
theorem dX7_kindBySpelling_112 : decode cX7_kindBySpelling 112 = .ok (.ifCond .ne 17, 3) := by decide +kernel
theorem dX7_kindBySpelling_115 : decode cX7_kindBySpelling 115 = .ok (.aload_n 0, 1) := by decide +kernel
theorem dX7_kindBySpelling_116 : decode cX7_kindBySpelling 116 = .ok (.getfield 14, 3) := by decide +kernel
theorem dX7_kindBySpelling_119 : decode cX7_kindBySpelling 119 = .ok (.iload_n 2, 1) := by decide +kernel
theorem dX7_kindBySpelling_120 : decode cX7_kindBySpelling 120 = .ok (.iload_n 3, 1) := by decide +kernel
theorem dX7_kindBySpelling_121 : decode cX7_kindBySpelling 121 = .ok (.ldc 105, 2) := by decide +kernel
theorem dX7_kindBySpelling_123 : decode cX7_kindBySpelling 123 = .ok (.invokevirtual 99, 3) := by decide +kernel
theorem dX7_kindBySpelling_126 : decode cX7_kindBySpelling 126 = .ok (.ifCond .eq 7, 3) := by decide +kernel
theorem dX7_kindBySpelling_129 : decode cX7_kindBySpelling 129 = .ok (.iconst 1, 1) := by decide +kernel
theorem dX7_kindBySpelling_130 : decode cX7_kindBySpelling 130 = .ok (.goto 4, 3) := by decide +kernel
theorem dX7_kindBySpelling_133 : decode cX7_kindBySpelling 133 = .ok (.iconst 0, 1) := by decide +kernel
theorem dX7_kindBySpelling_134 : decode cX7_kindBySpelling 134 = .ok (.istore 5, 2) := by decide +kernel
theorem dX7_kindBySpelling_136 : decode cX7_kindBySpelling 136 = .ok (.iload 5, 2) := by decide +kernel
theorem dX7_kindBySpelling_138 : decode cX7_kindBySpelling 138 = .ok (.ifCond .eq 8, 3) := by decide +kernel
theorem dX7_kindBySpelling_141 : decode cX7_kindBySpelling 141 = .ok (.bipush 7, 2) := by decide +kernel
theorem dX7_kindBySpelling_143 : decode cX7_kindBySpelling 143 = .ok (.goto 4, 3) := by decide +kernel
theorem dX7_kindBySpelling_146 : decode cX7_kindBySpelling 146 = .ok (.iconst 5, 1) := by decide +kernel
theorem dX7_kindBySpelling_147 : decode cX7_kindBySpelling 147 = .ok (.ireturn, 1) := by decide +kernel
theorem dX7_isFirst_0 : decode cX7_isFirst 0 = .ok (.iload_n 1, 1) := by decide +kernel
theorem dX7_isFirst_1 : decode cX7_isFirst 1 = .ok (.ifCond .eq 18, 3) := by decide +kernel
theorem dX7_isFirst_4 : decode cX7_isFirst 4 = .ok (.aload_n 0, 1) := by decide +kernel
theorem dX7_isFirst_5 : decode cX7_isFirst 5 = .ok (.iload_n 1, 1) := by decide +kernel
theorem dX7_isFirst_6 : decode cX7_isFirst 6 = .ok (.iconst 1, 1) := by decide +kernel
theorem dX7_isFirst_7 : decode cX7_isFirst 7 = .ok (.isub, 1) := by decide +kernel
theorem dX7_isFirst_8 : decode cX7_isFirst 8 = .ok (.invokevirtual 107, 3) := by decide +kernel
theorem dX7_isFirst_11 : decode cX7_isFirst 11 = .ok (.aload_n 0, 1) := by decide +kernel
theorem dX7_isFirst_12 : decode cX7_isFirst 12 = .ok (.iload_n 1, 1) := by decide +kernel
theorem dX7_isFirst_13 : decode cX7_isFirst 13 = .ok (.invokevirtual 107, 3) := by decide +kernel
theorem dX7_isFirst_16 : decode cX7_isFirst 16 = .ok (.if_icmp .eq 7, 3) := by decide +kernel
theorem dX7_isFirst_19 : decode cX7_isFirst 19 = .ok (.iconst 1, 1) := by decide +kernel
theorem dX7_isFirst_20 : decode cX7_isFirst 20 = .ok (.goto 4, 3) := by decide +kernel
theorem dX7_isFirst_23 : decode cX7_isFirst 23 = .ok (.iconst 0, 1) := by decide +kernel
theorem dX7_isFirst_24 : decode cX7_isFirst 24 = .ok (.ireturn, 1) := by decide +kernel
theorem dX7_isNameInsideSentence_0 : decode cX7_isNameInsideSentence 0 = .ok (.iconst 0, 1) := by decide +kernel
theorem dX7_isNameInsideSentence_1 : decode cX7_isNameInsideSentence 1 = .ok (.istore_n 2, 1) := by decide +kernel
theorem dX7_isNameInsideSentence_2 : decode cX7_isNameInsideSentence 2 = .ok (.iload_n 2, 1) := by decide +kernel
theorem dX7_isNameInsideSentence_3 : decode cX7_isNameInsideSentence 3 = .ok (.aload_n 0, 1) := by decide +kernel
theorem dX7_isNameInsideSentence_4 : decode cX7_isNameInsideSentence 4 = .ok (.getfield 33, 3) := by decide +kernel
theorem dX7_isNameInsideSentence_7 : decode cX7_isNameInsideSentence 7 = .ok (.if_icmp .ge 51, 3) := by decide +kernel
theorem dX7_isNameInsideSentence_10 : decode cX7_isNameInsideSentence 10 = .ok (.aload_n 0, 1) := by decide +kernel
theorem dX7_isNameInsideSentence_11 : decode cX7_isNameInsideSentence 11 = .ok (.getfield 30, 3) := by decide +kernel
theorem dX7_isNameInsideSentence_14 : decode cX7_isNameInsideSentence 14 = .ok (.iload_n 2, 1) := by decide +kernel
theorem dX7_isNameInsideSentence_15 : decode cX7_isNameInsideSentence 15 = .ok (.iaload, 1) := by decide +kernel
theorem dX7_isNameInsideSentence_16 : decode cX7_isNameInsideSentence 16 = .ok (.ifCond .ne 36, 3) := by decide +kernel
theorem dX7_isNameInsideSentence_19 : decode cX7_isNameInsideSentence 19 = .ok (.aload_n 0, 1) := by decide +kernel
theorem dX7_isNameInsideSentence_20 : decode cX7_isNameInsideSentence 20 = .ok (.iload_n 2, 1) := by decide +kernel
theorem dX7_isNameInsideSentence_21 : decode cX7_isNameInsideSentence 21 = .ok (.invokevirtual 90, 3) := by decide +kernel
theorem dX7_isNameInsideSentence_24 : decode cX7_isNameInsideSentence 24 = .ok (.ifCond .ne 28, 3) := by decide +kernel
theorem dX7_isNameInsideSentence_27 : decode cX7_isNameInsideSentence 27 = .ok (.aload_n 0, 1) := by decide +kernel
theorem dX7_isNameInsideSentence_28 : decode cX7_isNameInsideSentence 28 = .ok (.getfield 24, 3) := by decide +kernel
theorem dX7_isNameInsideSentence_31 : decode cX7_isNameInsideSentence 31 = .ok (.iload_n 2, 1) := by decide +kernel
theorem dX7_isNameInsideSentence_32 : decode cX7_isNameInsideSentence 32 = .ok (.iaload, 1) := by decide +kernel
theorem dX7_isNameInsideSentence_33 : decode cX7_isNameInsideSentence 33 = .ok (.aload_n 0, 1) := by decide +kernel
theorem dX7_isNameInsideSentence_34 : decode cX7_isNameInsideSentence 34 = .ok (.iload_n 1, 1) := by decide +kernel
theorem dX7_isNameInsideSentence_35 : decode cX7_isNameInsideSentence 35 = .ok (.invokevirtual 81, 3) := by decide +kernel
theorem dX7_isNameInsideSentence_38 : decode cX7_isNameInsideSentence 38 = .ok (.if_icmp .ne 14, 3) := by decide +kernel
theorem dX7_isNameInsideSentence_41 : decode cX7_isNameInsideSentence 41 = .ok (.aload_n 0, 1) := by decide +kernel
theorem dX7_isNameInsideSentence_42 : decode cX7_isNameInsideSentence 42 = .ok (.iload_n 2, 1) := by decide +kernel
theorem dX7_isNameInsideSentence_43 : decode cX7_isNameInsideSentence 43 = .ok (.iload_n 1, 1) := by decide +kernel
theorem dX7_isNameInsideSentence_44 : decode cX7_isNameInsideSentence 44 = .ok (.invokevirtual 110, 3) := by decide +kernel
theorem dX7_isNameInsideSentence_47 : decode cX7_isNameInsideSentence 47 = .ok (.ifCond .eq 5, 3) := by decide +kernel
theorem dX7_isNameInsideSentence_50 : decode cX7_isNameInsideSentence 50 = .ok (.iconst 1, 1) := by decide +kernel
theorem dX7_isNameInsideSentence_51 : decode cX7_isNameInsideSentence 51 = .ok (.ireturn, 1) := by decide +kernel
theorem dX7_isNameInsideSentence_52 : decode cX7_isNameInsideSentence 52 = .ok (.iinc 2 1, 3) := by decide +kernel
theorem dX7_isNameInsideSentence_55 : decode cX7_isNameInsideSentence 55 = .ok (.goto (-53), 3) := by decide +kernel
theorem dX7_isNameInsideSentence_58 : decode cX7_isNameInsideSentence 58 = .ok (.iconst 0, 1) := by decide +kernel
theorem dX7_isNameInsideSentence_59 : decode cX7_isNameInsideSentence 59 = .ok (.ireturn, 1) := by decide +kernel
theorem dX7_beginsWith_0 : decode cX7_beginsWith 0 = .ok (.aload_n 0, 1) := by decide +kernel
theorem dX7_beginsWith_1 : decode cX7_beginsWith 1 = .ok (.iload_n 2, 1) := by decide +kernel
theorem dX7_beginsWith_2 : decode cX7_beginsWith 2 = .ok (.invokevirtual 81, 3) := by decide +kernel
theorem dX7_beginsWith_5 : decode cX7_beginsWith 5 = .ok (.aload_n 0, 1) := by decide +kernel
theorem dX7_beginsWith_6 : decode cX7_beginsWith 6 = .ok (.iload_n 1, 1) := by decide +kernel
theorem dX7_beginsWith_7 : decode cX7_beginsWith 7 = .ok (.invokevirtual 81, 3) := by decide +kernel
theorem dX7_beginsWith_10 : decode cX7_beginsWith 10 = .ok (.if_icmp .gt 36, 3) := by decide +kernel
theorem dX7_beginsWith_13 : decode cX7_beginsWith 13 = .ok (.aload_n 0, 1) := by decide +kernel
theorem dX7_beginsWith_14 : decode cX7_beginsWith 14 = .ok (.getfield 14, 3) := by decide +kernel
theorem dX7_beginsWith_17 : decode cX7_beginsWith 17 = .ok (.aload_n 0, 1) := by decide +kernel
theorem dX7_beginsWith_18 : decode cX7_beginsWith 18 = .ok (.iload_n 1, 1) := by decide +kernel
theorem dX7_beginsWith_19 : decode cX7_beginsWith 19 = .ok (.invokevirtual 78, 3) := by decide +kernel
theorem dX7_beginsWith_22 : decode cX7_beginsWith 22 = .ok (.aload_n 0, 1) := by decide +kernel
theorem dX7_beginsWith_23 : decode cX7_beginsWith 23 = .ok (.getfield 14, 3) := by decide +kernel
theorem dX7_beginsWith_26 : decode cX7_beginsWith 26 = .ok (.aload_n 0, 1) := by decide +kernel
theorem dX7_beginsWith_27 : decode cX7_beginsWith 27 = .ok (.iload_n 2, 1) := by decide +kernel
theorem dX7_beginsWith_28 : decode cX7_beginsWith 28 = .ok (.invokevirtual 78, 3) := by decide +kernel
theorem dX7_beginsWith_31 : decode cX7_beginsWith 31 = .ok (.aload_n 0, 1) := by decide +kernel
theorem dX7_beginsWith_32 : decode cX7_beginsWith 32 = .ok (.iload_n 2, 1) := by decide +kernel
theorem dX7_beginsWith_33 : decode cX7_beginsWith 33 = .ok (.invokevirtual 81, 3) := by decide +kernel
theorem dX7_beginsWith_36 : decode cX7_beginsWith 36 = .ok (.invokevirtual 113, 3) := by decide +kernel
theorem dX7_beginsWith_39 : decode cX7_beginsWith 39 = .ok (.ifCond .eq 7, 3) := by decide +kernel
theorem dX7_beginsWith_42 : decode cX7_beginsWith 42 = .ok (.iconst 1, 1) := by decide +kernel
theorem dX7_beginsWith_43 : decode cX7_beginsWith 43 = .ok (.goto 4, 3) := by decide +kernel
theorem dX7_beginsWith_46 : decode cX7_beginsWith 46 = .ok (.iconst 0, 1) := by decide +kernel
theorem dX7_beginsWith_47 : decode cX7_beginsWith 47 = .ok (.ireturn, 1) := by decide +kernel
theorem dX7_has_0 : decode cX7_has 0 = .ok (.iload_n 1, 1) := by decide +kernel
theorem dX7_has_1 : decode cX7_has 1 = .ok (.ifCond .lt 15, 3) := by decide +kernel
theorem dX7_has_4 : decode cX7_has 4 = .ok (.iload_n 1, 1) := by decide +kernel
theorem dX7_has_5 : decode cX7_has 5 = .ok (.aload_n 0, 1) := by decide +kernel
theorem dX7_has_6 : decode cX7_has 6 = .ok (.getfield 33, 3) := by decide +kernel
theorem dX7_has_9 : decode cX7_has 9 = .ok (.if_icmp .ge 7, 3) := by decide +kernel
theorem dX7_has_12 : decode cX7_has 12 = .ok (.iconst 1, 1) := by decide +kernel
theorem dX7_has_13 : decode cX7_has 13 = .ok (.goto 4, 3) := by decide +kernel
theorem dX7_has_16 : decode cX7_has 16 = .ok (.iconst 0, 1) := by decide +kernel
theorem dX7_has_17 : decode cX7_has 17 = .ok (.ireturn, 1) := by decide +kernel
theorem dX7_size_0 : decode cX7_size 0 = .ok (.aload_n 0, 1) := by decide +kernel
theorem dX7_size_1 : decode cX7_size 1 = .ok (.getfield 33, 3) := by decide +kernel
theorem dX7_size_4 : decode cX7_size 4 = .ok (.ireturn, 1) := by decide +kernel
theorem dX7_sentenceCount_0 : decode cX7_sentenceCount 0 = .ok (.aload_n 0, 1) := by decide +kernel
theorem dX7_sentenceCount_1 : decode cX7_sentenceCount 1 = .ok (.getfield 37, 3) := by decide +kernel
theorem dX7_sentenceCount_4 : decode cX7_sentenceCount 4 = .ok (.ireturn, 1) := by decide +kernel
theorem dX7_tale_0 : decode cX7_tale 0 = .ok (.aload_n 0, 1) := by decide +kernel
theorem dX7_tale_1 : decode cX7_tale 1 = .ok (.getfield 14, 3) := by decide +kernel
theorem dX7_tale_4 : decode cX7_tale 4 = .ok (.areturn, 1) := by decide +kernel
theorem dX7_placeOf_0 : decode cX7_placeOf 0 = .ok (.aload_n 0, 1) := by decide +kernel
theorem dX7_placeOf_1 : decode cX7_placeOf 1 = .ok (.iload_n 1, 1) := by decide +kernel
theorem dX7_placeOf_2 : decode cX7_placeOf 2 = .ok (.invokevirtual 117, 3) := by decide +kernel
theorem dX7_placeOf_5 : decode cX7_placeOf 5 = .ok (.ifCond .eq 12, 3) := by decide +kernel
theorem dX7_placeOf_8 : decode cX7_placeOf 8 = .ok (.aload_n 0, 1) := by decide +kernel
theorem dX7_placeOf_9 : decode cX7_placeOf 9 = .ok (.getfield 20, 3) := by decide +kernel
theorem dX7_placeOf_12 : decode cX7_placeOf 12 = .ok (.iload_n 1, 1) := by decide +kernel
theorem dX7_placeOf_13 : decode cX7_placeOf 13 = .ok (.iaload, 1) := by decide +kernel
theorem dX7_placeOf_14 : decode cX7_placeOf 14 = .ok (.goto 4, 3) := by decide +kernel
theorem dX7_placeOf_17 : decode cX7_placeOf 17 = .ok (.iconst 0, 1) := by decide +kernel
theorem dX7_placeOf_18 : decode cX7_placeOf 18 = .ok (.ireturn, 1) := by decide +kernel
theorem dX7_lengthOf_0 : decode cX7_lengthOf 0 = .ok (.aload_n 0, 1) := by decide +kernel
theorem dX7_lengthOf_1 : decode cX7_lengthOf 1 = .ok (.iload_n 1, 1) := by decide +kernel
theorem dX7_lengthOf_2 : decode cX7_lengthOf 2 = .ok (.invokevirtual 117, 3) := by decide +kernel
theorem dX7_lengthOf_5 : decode cX7_lengthOf 5 = .ok (.ifCond .eq 12, 3) := by decide +kernel
theorem dX7_lengthOf_8 : decode cX7_lengthOf 8 = .ok (.aload_n 0, 1) := by decide +kernel
theorem dX7_lengthOf_9 : decode cX7_lengthOf 9 = .ok (.getfield 24, 3) := by decide +kernel
theorem dX7_lengthOf_12 : decode cX7_lengthOf 12 = .ok (.iload_n 1, 1) := by decide +kernel
theorem dX7_lengthOf_13 : decode cX7_lengthOf 13 = .ok (.iaload, 1) := by decide +kernel
theorem dX7_lengthOf_14 : decode cX7_lengthOf 14 = .ok (.goto 4, 3) := by decide +kernel
theorem dX7_lengthOf_17 : decode cX7_lengthOf 17 = .ok (.iconst 0, 1) := by decide +kernel
theorem dX7_lengthOf_18 : decode cX7_lengthOf 18 = .ok (.ireturn, 1) := by decide +kernel
theorem dX7_sentenceOf_0 : decode cX7_sentenceOf 0 = .ok (.aload_n 0, 1) := by decide +kernel
theorem dX7_sentenceOf_1 : decode cX7_sentenceOf 1 = .ok (.iload_n 1, 1) := by decide +kernel
theorem dX7_sentenceOf_2 : decode cX7_sentenceOf 2 = .ok (.invokevirtual 117, 3) := by decide +kernel
theorem dX7_sentenceOf_5 : decode cX7_sentenceOf 5 = .ok (.ifCond .eq 12, 3) := by decide +kernel
theorem dX7_sentenceOf_8 : decode cX7_sentenceOf 8 = .ok (.aload_n 0, 1) := by decide +kernel
theorem dX7_sentenceOf_9 : decode cX7_sentenceOf 9 = .ok (.getfield 27, 3) := by decide +kernel
theorem dX7_sentenceOf_12 : decode cX7_sentenceOf 12 = .ok (.iload_n 1, 1) := by decide +kernel
theorem dX7_sentenceOf_13 : decode cX7_sentenceOf 13 = .ok (.iaload, 1) := by decide +kernel
theorem dX7_sentenceOf_14 : decode cX7_sentenceOf 14 = .ok (.goto 4, 3) := by decide +kernel
theorem dX7_sentenceOf_17 : decode cX7_sentenceOf 17 = .ok (.iconst (-1), 1) := by decide +kernel
theorem dX7_sentenceOf_18 : decode cX7_sentenceOf 18 = .ok (.ireturn, 1) := by decide +kernel
theorem dX7_kindOf_0 : decode cX7_kindOf 0 = .ok (.aload_n 0, 1) := by decide +kernel
theorem dX7_kindOf_1 : decode cX7_kindOf 1 = .ok (.iload_n 1, 1) := by decide +kernel
theorem dX7_kindOf_2 : decode cX7_kindOf 2 = .ok (.invokevirtual 117, 3) := by decide +kernel
theorem dX7_kindOf_5 : decode cX7_kindOf 5 = .ok (.ifCond .eq 12, 3) := by decide +kernel
theorem dX7_kindOf_8 : decode cX7_kindOf 8 = .ok (.aload_n 0, 1) := by decide +kernel
theorem dX7_kindOf_9 : decode cX7_kindOf 9 = .ok (.getfield 30, 3) := by decide +kernel
theorem dX7_kindOf_12 : decode cX7_kindOf 12 = .ok (.iload_n 1, 1) := by decide +kernel
theorem dX7_kindOf_13 : decode cX7_kindOf 13 = .ok (.iaload, 1) := by decide +kernel
theorem dX7_kindOf_14 : decode cX7_kindOf 14 = .ok (.goto 4, 3) := by decide +kernel
theorem dX7_kindOf_17 : decode cX7_kindOf 17 = .ok (.iconst 5, 1) := by decide +kernel
theorem dX7_kindOf_18 : decode cX7_kindOf 18 = .ok (.ireturn, 1) := by decide +kernel
theorem dX8_init_0 : decode cX8_init 0 = .ok (.aload_n 0, 1) := by decide +kernel
theorem dX8_init_1 : decode cX8_init 1 = .ok (.invokespecial 1, 3) := by decide +kernel
theorem dX8_init_4 : decode cX8_init 4 = .ok (.aload_n 0, 1) := by decide +kernel
theorem dX8_init_5 : decode cX8_init 5 = .ok (.new 7, 3) := by decide +kernel
theorem dX8_init_8 : decode cX8_init 8 = .ok (.dup, 1) := by decide +kernel
theorem dX8_init_9 : decode cX8_init 9 = .ok (.sipush 600, 3) := by decide +kernel
theorem dX8_init_12 : decode cX8_init 12 = .ok (.invokespecial 11, 3) := by decide +kernel
theorem dX8_init_15 : decode cX8_init 15 = .ok (.putfield 14, 3) := by decide +kernel
theorem dX8_init_18 : decode cX8_init 18 = .ok (.aload_n 0, 1) := by decide +kernel
theorem dX8_init_19 : decode cX8_init 19 = .ok (.new 18, 3) := by decide +kernel
theorem dX8_init_22 : decode cX8_init 22 = .ok (.dup, 1) := by decide +kernel
theorem dX8_init_23 : decode cX8_init 23 = .ok (.invokespecial 20, 3) := by decide +kernel
theorem dX8_init_26 : decode cX8_init 26 = .ok (.putfield 21, 3) := by decide +kernel
theorem dX8_init_29 : decode cX8_init 29 = .ok (.aload_n 0, 1) := by decide +kernel
theorem dX8_init_30 : decode cX8_init 30 = .ok (.new 25, 3) := by decide +kernel
theorem dX8_init_33 : decode cX8_init 33 = .ok (.dup, 1) := by decide +kernel
theorem dX8_init_34 : decode cX8_init 34 = .ok (.invokespecial 27, 3) := by decide +kernel
theorem dX8_init_37 : decode cX8_init 37 = .ok (.putfield 28, 3) := by decide +kernel
theorem dX8_init_40 : decode cX8_init 40 = .ok (.aload_n 0, 1) := by decide +kernel
theorem dX8_init_41 : decode cX8_init 41 = .ok (.new 32, 3) := by decide +kernel
theorem dX8_init_44 : decode cX8_init 44 = .ok (.dup, 1) := by decide +kernel
theorem dX8_init_45 : decode cX8_init 45 = .ok (.invokespecial 34, 3) := by decide +kernel
theorem dX8_init_48 : decode cX8_init 48 = .ok (.putfield 35, 3) := by decide +kernel
theorem dX8_init_51 : decode cX8_init 51 = .ok (.aload_n 0, 1) := by decide +kernel
theorem dX8_init_52 : decode cX8_init 52 = .ok (.new 39, 3) := by decide +kernel
theorem dX8_init_55 : decode cX8_init 55 = .ok (.dup, 1) := by decide +kernel
theorem dX8_init_56 : decode cX8_init 56 = .ok (.aload_n 0, 1) := by decide +kernel
theorem dX8_init_57 : decode cX8_init 57 = .ok (.getfield 21, 3) := by decide +kernel
theorem dX8_init_60 : decode cX8_init 60 = .ok (.invokespecial 41, 3) := by decide +kernel
theorem dX8_init_63 : decode cX8_init 63 = .ok (.putfield 44, 3) := by decide +kernel
theorem dX8_init_66 : decode cX8_init 66 = .ok (.aload_n 0, 1) := by decide +kernel
theorem dX8_init_67 : decode cX8_init 67 = .ok (.new 48, 3) := by decide +kernel
theorem dX8_init_70 : decode cX8_init 70 = .ok (.dup, 1) := by decide +kernel
theorem dX8_init_71 : decode cX8_init 71 = .ok (.invokespecial 50, 3) := by decide +kernel
theorem dX8_init_74 : decode cX8_init 74 = .ok (.putfield 51, 3) := by decide +kernel
theorem dX8_init_77 : decode cX8_init 77 = .ok (.aload_n 0, 1) := by decide +kernel
theorem dX8_init_78 : decode cX8_init 78 = .ok (.new 55, 3) := by decide +kernel
theorem dX8_init_81 : decode cX8_init 81 = .ok (.dup, 1) := by decide +kernel
theorem dX8_init_82 : decode cX8_init 82 = .ok (.aload_n 0, 1) := by decide +kernel
theorem dX8_init_83 : decode cX8_init 83 = .ok (.getfield 44, 3) := by decide +kernel
theorem dX8_init_86 : decode cX8_init 86 = .ok (.invokespecial 57, 3) := by decide +kernel
theorem dX8_init_89 : decode cX8_init 89 = .ok (.putfield 60, 3) := by decide +kernel
theorem dX8_init_92 : decode cX8_init 92 = .ok (.aload_n 0, 1) := by decide +kernel
theorem dX8_init_93 : decode cX8_init 93 = .ok (.new 64, 3) := by decide +kernel
theorem dX8_init_96 : decode cX8_init 96 = .ok (.dup, 1) := by decide +kernel
theorem dX8_init_97 : decode cX8_init 97 = .ok (.aload_n 0, 1) := by decide +kernel
theorem dX8_init_98 : decode cX8_init 98 = .ok (.getfield 44, 3) := by decide +kernel
theorem dX8_init_101 : decode cX8_init 101 = .ok (.aload_n 0, 1) := by decide +kernel
theorem dX8_init_102 : decode cX8_init 102 = .ok (.getfield 35, 3) := by decide +kernel
theorem dX8_init_105 : decode cX8_init 105 = .ok (.aload_n 0, 1) := by decide +kernel
theorem dX8_init_106 : decode cX8_init 106 = .ok (.getfield 51, 3) := by decide +kernel
theorem dX8_init_109 : decode cX8_init 109 = .ok (.aload_n 0, 1) := by decide +kernel
theorem dX8_init_110 : decode cX8_init 110 = .ok (.getfield 60, 3) := by decide +kernel
theorem dX8_init_113 : decode cX8_init 113 = .ok (.invokespecial 66, 3) := by decide +kernel
theorem dX8_init_116 : decode cX8_init 116 = .ok (.putfield 69, 3) := by decide +kernel
theorem dX8_init_119 : decode cX8_init 119 = .ok (.return_, 1) := by decide +kernel
theorem dX8_feed_0 : decode cX8_feed 0 = .ok (.aload_n 0, 1) := by decide +kernel
theorem dX8_feed_1 : decode cX8_feed 1 = .ok (.getfield 14, 3) := by decide +kernel
theorem dX8_feed_4 : decode cX8_feed 4 = .ok (.invokevirtual 73, 3) := by decide +kernel
theorem dX8_feed_7 : decode cX8_feed 7 = .ok (.bipush 20, 2) := by decide +kernel
theorem dX8_feed_9 : decode cX8_feed 9 = .ok (.iadd, 1) := by decide +kernel
theorem dX8_feed_10 : decode cX8_feed 10 = .ok (.sipush 600, 3) := by decide +kernel
theorem dX8_feed_13 : decode cX8_feed 13 = .ok (.if_icmp .le 5, 3) := by decide +kernel
theorem dX8_feed_16 : decode cX8_feed 16 = .ok (.iconst (-1), 1) := by decide +kernel
theorem dX8_feed_17 : decode cX8_feed 17 = .ok (.ireturn, 1) := by decide +kernel
theorem dX8_feed_18 : decode cX8_feed 18 = .ok (.aload_n 0, 1) := by decide +kernel
theorem dX8_feed_19 : decode cX8_feed 19 = .ok (.getfield 14, 3) := by decide +kernel
theorem dX8_feed_22 : decode cX8_feed 22 = .ok (.iload_n 1, 1) := by decide +kernel
theorem dX8_feed_23 : decode cX8_feed 23 = .ok (.invokevirtual 77, 3) := by decide +kernel
theorem dX8_feed_26 : decode cX8_feed 26 = .ok (.aload_n 0, 1) := by decide +kernel
theorem dX8_feed_27 : decode cX8_feed 27 = .ok (.getfield 14, 3) := by decide +kernel
theorem dX8_feed_30 : decode cX8_feed 30 = .ok (.iload_n 2, 1) := by decide +kernel
theorem dX8_feed_31 : decode cX8_feed 31 = .ok (.invokevirtual 77, 3) := by decide +kernel
theorem dX8_feed_34 : decode cX8_feed 34 = .ok (.aload_n 0, 1) := by decide +kernel
theorem dX8_feed_35 : decode cX8_feed 35 = .ok (.getfield 14, 3) := by decide +kernel
theorem dX8_feed_38 : decode cX8_feed 38 = .ok (.iload_n 3, 1) := by decide +kernel
theorem dX8_feed_39 : decode cX8_feed 39 = .ok (.invokevirtual 77, 3) := by decide +kernel
theorem dX8_feed_42 : decode cX8_feed 42 = .ok (.aload_n 0, 1) := by decide +kernel
theorem dX8_feed_43 : decode cX8_feed 43 = .ok (.getfield 14, 3) := by decide +kernel
theorem dX8_feed_46 : decode cX8_feed 46 = .ok (.iload 4, 2) := by decide +kernel
theorem dX8_feed_48 : decode cX8_feed 48 = .ok (.invokevirtual 77, 3) := by decide +kernel
theorem dX8_feed_51 : decode cX8_feed 51 = .ok (.aload_n 0, 1) := by decide +kernel
theorem dX8_feed_52 : decode cX8_feed 52 = .ok (.getfield 14, 3) := by decide +kernel
theorem dX8_feed_55 : decode cX8_feed 55 = .ok (.iload 5, 2) := by decide +kernel
theorem dX8_feed_57 : decode cX8_feed 57 = .ok (.invokevirtual 77, 3) := by decide +kernel
theorem dX8_feed_60 : decode cX8_feed 60 = .ok (.aload_n 0, 1) := by decide +kernel
theorem dX8_feed_61 : decode cX8_feed 61 = .ok (.getfield 14, 3) := by decide +kernel
theorem dX8_feed_64 : decode cX8_feed 64 = .ok (.invokevirtual 73, 3) := by decide +kernel
theorem dX8_feed_67 : decode cX8_feed 67 = .ok (.ireturn, 1) := by decide +kernel
theorem dX8_end_0 : decode cX8_end 0 = .ok (.aload_n 0, 1) := by decide +kernel
theorem dX8_end_1 : decode cX8_end 1 = .ok (.getfield 14, 3) := by decide +kernel
theorem dX8_end_4 : decode cX8_end 4 = .ok (.iload_n 1, 1) := by decide +kernel
theorem dX8_end_5 : decode cX8_end 5 = .ok (.invokevirtual 80, 3) := by decide +kernel
theorem dX8_end_8 : decode cX8_end 8 = .ok (.ireturn, 1) := by decide +kernel
theorem dX8_read_0 : decode cX8_read 0 = .ok (.aload_n 0, 1) := by decide +kernel
theorem dX8_read_1 : decode cX8_read 1 = .ok (.getfield 21, 3) := by decide +kernel
theorem dX8_read_4 : decode cX8_read 4 = .ok (.aload_n 0, 1) := by decide +kernel
theorem dX8_read_5 : decode cX8_read 5 = .ok (.getfield 14, 3) := by decide +kernel
theorem dX8_read_8 : decode cX8_read 8 = .ok (.invokevirtual 84, 3) := by decide +kernel
theorem dX8_read_11 : decode cX8_read 11 = .ok (.aload_n 0, 1) := by decide +kernel
theorem dX8_read_12 : decode cX8_read 12 = .ok (.getfield 14, 3) := by decide +kernel
theorem dX8_read_15 : decode cX8_read 15 = .ok (.invokevirtual 88, 3) := by decide +kernel
theorem dX8_read_18 : decode cX8_read 18 = .ok (.aload_n 0, 1) := by decide +kernel
theorem dX8_read_19 : decode cX8_read 19 = .ok (.getfield 35, 3) := by decide +kernel
theorem dX8_read_22 : decode cX8_read 22 = .ok (.invokevirtual 91, 3) := by decide +kernel
theorem dX8_read_25 : decode cX8_read 25 = .ok (.aload_n 0, 1) := by decide +kernel
theorem dX8_read_26 : decode cX8_read 26 = .ok (.invokevirtual 92, 3) := by decide +kernel
theorem dX8_read_29 : decode cX8_read 29 = .ok (.aload_n 0, 1) := by decide +kernel
theorem dX8_read_30 : decode cX8_read 30 = .ok (.getfield 44, 3) := by decide +kernel
theorem dX8_read_33 : decode cX8_read 33 = .ok (.invokevirtual 95, 3) := by decide +kernel
theorem dX8_read_36 : decode cX8_read 36 = .ok (.ireturn, 1) := by decide +kernel
theorem dX8_tell_0 : decode cX8_tell 0 = .ok (.aload_n 0, 1) := by decide +kernel
theorem dX8_tell_1 : decode cX8_tell 1 = .ok (.getfield 28, 3) := by decide +kernel
theorem dX8_tell_4 : decode cX8_tell 4 = .ok (.aload_n 0, 1) := by decide +kernel
theorem dX8_tell_5 : decode cX8_tell 5 = .ok (.getfield 14, 3) := by decide +kernel
theorem dX8_tell_8 : decode cX8_tell 8 = .ok (.iload_n 1, 1) := by decide +kernel
theorem dX8_tell_9 : decode cX8_tell 9 = .ok (.invokevirtual 96, 3) := by decide +kernel
theorem dX8_tell_12 : decode cX8_tell 12 = .ok (.istore_n 2, 1) := by decide +kernel
theorem dX8_tell_13 : decode cX8_tell 13 = .ok (.aload_n 0, 1) := by decide +kernel
theorem dX8_tell_14 : decode cX8_tell 14 = .ok (.getfield 14, 3) := by decide +kernel
theorem dX8_tell_17 : decode cX8_tell 17 = .ok (.invokevirtual 88, 3) := by decide +kernel
theorem dX8_tell_20 : decode cX8_tell 20 = .ok (.iload_n 2, 1) := by decide +kernel
theorem dX8_tell_21 : decode cX8_tell 21 = .ok (.ifCond .eq 7, 3) := by decide +kernel
theorem dX8_tell_24 : decode cX8_tell 24 = .ok (.aload_n 0, 1) := by decide +kernel
theorem dX8_tell_25 : decode cX8_tell 25 = .ok (.invokevirtual 92, 3) := by decide +kernel
theorem dX8_tell_28 : decode cX8_tell 28 = .ok (.iload_n 2, 1) := by decide +kernel
theorem dX8_tell_29 : decode cX8_tell 29 = .ok (.ireturn, 1) := by decide +kernel
theorem dX8_forget_0 : decode cX8_forget 0 = .ok (.aload_n 0, 1) := by decide +kernel
theorem dX8_forget_1 : decode cX8_forget 1 = .ok (.getfield 28, 3) := by decide +kernel
theorem dX8_forget_4 : decode cX8_forget 4 = .ok (.invokevirtual 99, 3) := by decide +kernel
theorem dX8_forget_7 : decode cX8_forget 7 = .ok (.aload_n 0, 1) := by decide +kernel
theorem dX8_forget_8 : decode cX8_forget 8 = .ok (.invokevirtual 92, 3) := by decide +kernel
theorem dX8_forget_11 : decode cX8_forget 11 = .ok (.return_, 1) := by decide +kernel
theorem dX8_pin_0 : decode cX8_pin 0 = .ok (.aload_n 0, 1) := by decide +kernel
theorem dX8_pin_1 : decode cX8_pin 1 = .ok (.getfield 44, 3) := by decide +kernel
theorem dX8_pin_4 : decode cX8_pin 4 = .ok (.iload_n 1, 1) := by decide +kernel
theorem dX8_pin_5 : decode cX8_pin 5 = .ok (.invokevirtual 100, 3) := by decide +kernel
theorem dX8_pin_8 : decode cX8_pin 8 = .ok (.ifCond .eq 31, 3) := by decide +kernel
theorem dX8_pin_11 : decode cX8_pin 11 = .ok (.aload_n 0, 1) := by decide +kernel
theorem dX8_pin_12 : decode cX8_pin 12 = .ok (.getfield 44, 3) := by decide +kernel
theorem dX8_pin_15 : decode cX8_pin 15 = .ok (.iload_n 2, 1) := by decide +kernel
theorem dX8_pin_16 : decode cX8_pin 16 = .ok (.invokevirtual 100, 3) := by decide +kernel
theorem dX8_pin_19 : decode cX8_pin 19 = .ok (.ifCond .eq 20, 3) := by decide +kernel
theorem dX8_pin_22 : decode cX8_pin 22 = .ok (.iload_n 2, 1) := by decide +kernel
theorem dX8_pin_23 : decode cX8_pin 23 = .ok (.iload_n 1, 1) := by decide +kernel
theorem dX8_pin_24 : decode cX8_pin 24 = .ok (.if_icmp .ge 15, 3) := by decide +kernel
theorem dX8_pin_27 : decode cX8_pin 27 = .ok (.aload_n 0, 1) := by decide +kernel
theorem dX8_pin_28 : decode cX8_pin 28 = .ok (.getfield 35, 3) := by decide +kernel
theorem dX8_pin_31 : decode cX8_pin 31 = .ok (.invokevirtual 103, 3) := by decide +kernel
theorem dX8_pin_34 : decode cX8_pin 34 = .ok (.bipush 20, 2) := by decide +kernel
theorem dX8_pin_36 : decode cX8_pin 36 = .ok (.if_icmp .lt 5, 3) := by decide +kernel
theorem dX8_pin_39 : decode cX8_pin 39 = .ok (.iconst 0, 1) := by decide +kernel
theorem dX8_pin_40 : decode cX8_pin 40 = .ok (.ireturn, 1) := by decide +kernel
theorem dX8_pin_41 : decode cX8_pin 41 = .ok (.aload_n 0, 1) := by decide +kernel
theorem dX8_pin_42 : decode cX8_pin 42 = .ok (.getfield 35, 3) := by decide +kernel
theorem dX8_pin_45 : decode cX8_pin 45 = .ok (.iload_n 1, 1) := by decide +kernel
theorem dX8_pin_46 : decode cX8_pin 46 = .ok (.iload_n 2, 1) := by decide +kernel
theorem dX8_pin_47 : decode cX8_pin 47 = .ok (.invokevirtual 104, 3) := by decide +kernel
theorem dX8_pin_50 : decode cX8_pin 50 = .ok (.aload_n 0, 1) := by decide +kernel
theorem dX8_pin_51 : decode cX8_pin 51 = .ok (.invokevirtual 92, 3) := by decide +kernel
theorem dX8_pin_54 : decode cX8_pin 54 = .ok (.iconst 1, 1) := by decide +kernel
theorem dX8_pin_55 : decode cX8_pin 55 = .ok (.ireturn, 1) := by decide +kernel
theorem dX8_loose_0 : decode cX8_loose 0 = .ok (.aload_n 0, 1) := by decide +kernel
theorem dX8_loose_1 : decode cX8_loose 1 = .ok (.getfield 35, 3) := by decide +kernel
theorem dX8_loose_4 : decode cX8_loose 4 = .ok (.iload_n 1, 1) := by decide +kernel
theorem dX8_loose_5 : decode cX8_loose 5 = .ok (.invokevirtual 108, 3) := by decide +kernel
theorem dX8_loose_8 : decode cX8_loose 8 = .ok (.iconst (-1), 1) := by decide +kernel
theorem dX8_loose_9 : decode cX8_loose 9 = .ok (.if_icmp .ne 5, 3) := by decide +kernel
theorem dX8_loose_12 : decode cX8_loose 12 = .ok (.iconst 0, 1) := by decide +kernel
theorem dX8_loose_13 : decode cX8_loose 13 = .ok (.ireturn, 1) := by decide +kernel
theorem dX8_loose_14 : decode cX8_loose 14 = .ok (.aload_n 0, 1) := by decide +kernel
theorem dX8_loose_15 : decode cX8_loose 15 = .ok (.getfield 35, 3) := by decide +kernel
theorem dX8_loose_18 : decode cX8_loose 18 = .ok (.iload_n 1, 1) := by decide +kernel
theorem dX8_loose_19 : decode cX8_loose 19 = .ok (.invokevirtual 112, 3) := by decide +kernel
theorem dX8_loose_22 : decode cX8_loose 22 = .ok (.aload_n 0, 1) := by decide +kernel
theorem dX8_loose_23 : decode cX8_loose 23 = .ok (.invokevirtual 92, 3) := by decide +kernel
theorem dX8_loose_26 : decode cX8_loose 26 = .ok (.iconst 1, 1) := by decide +kernel
theorem dX8_loose_27 : decode cX8_loose 27 = .ok (.ireturn, 1) := by decide +kernel
theorem dX8_look_0 : decode cX8_look 0 = .ok (.iload_n 1, 1) := by decide +kernel
theorem dX8_look_1 : decode cX8_look 1 = .ok (.tableswitch 120 0 7 #[47, 55, 63, 71, 79, 88, 104, 112], 47) := by decide +kernel
theorem dX8_look_48 : decode cX8_look 48 = .ok (.aload_n 0, 1) := by decide +kernel
theorem dX8_look_49 : decode cX8_look 49 = .ok (.getfield 44, 3) := by decide +kernel
theorem dX8_look_52 : decode cX8_look 52 = .ok (.invokevirtual 95, 3) := by decide +kernel
theorem dX8_look_55 : decode cX8_look 55 = .ok (.ireturn, 1) := by decide +kernel
theorem dX8_look_56 : decode cX8_look 56 = .ok (.aload_n 0, 1) := by decide +kernel
theorem dX8_look_57 : decode cX8_look 57 = .ok (.getfield 51, 3) := by decide +kernel
theorem dX8_look_60 : decode cX8_look 60 = .ok (.invokevirtual 115, 3) := by decide +kernel
theorem dX8_look_63 : decode cX8_look 63 = .ok (.ireturn, 1) := by decide +kernel
theorem dX8_look_64 : decode cX8_look 64 = .ok (.aload_n 0, 1) := by decide +kernel
theorem dX8_look_65 : decode cX8_look 65 = .ok (.getfield 21, 3) := by decide +kernel
theorem dX8_look_68 : decode cX8_look 68 = .ok (.invokevirtual 116, 3) := by decide +kernel
theorem dX8_look_71 : decode cX8_look 71 = .ok (.ireturn, 1) := by decide +kernel
theorem dX8_look_72 : decode cX8_look 72 = .ok (.aload_n 0, 1) := by decide +kernel
theorem dX8_look_73 : decode cX8_look 73 = .ok (.getfield 69, 3) := by decide +kernel
theorem dX8_look_76 : decode cX8_look 76 = .ok (.invokevirtual 119, 3) := by decide +kernel
theorem dX8_look_79 : decode cX8_look 79 = .ok (.ireturn, 1) := by decide +kernel
theorem dX8_look_80 : decode cX8_look 80 = .ok (.aload_n 0, 1) := by decide +kernel
theorem dX8_look_81 : decode cX8_look 81 = .ok (.getfield 69, 3) := by decide +kernel
theorem dX8_look_84 : decode cX8_look 84 = .ok (.iconst (-1), 1) := by decide +kernel
theorem dX8_look_85 : decode cX8_look 85 = .ok (.invokevirtual 122, 3) := by decide +kernel
theorem dX8_look_88 : decode cX8_look 88 = .ok (.ireturn, 1) := by decide +kernel
theorem dX8_look_89 : decode cX8_look 89 = .ok (.aload_n 0, 1) := by decide +kernel
theorem dX8_look_90 : decode cX8_look 90 = .ok (.getfield 44, 3) := by decide +kernel
theorem dX8_look_93 : decode cX8_look 93 = .ok (.invokevirtual 125, 3) := by decide +kernel
theorem dX8_look_96 : decode cX8_look 96 = .ok (.ifCond .eq 7, 3) := by decide +kernel
theorem dX8_look_99 : decode cX8_look 99 = .ok (.iconst 1, 1) := by decide +kernel
theorem dX8_look_100 : decode cX8_look 100 = .ok (.goto 4, 3) := by decide +kernel
theorem dX8_look_103 : decode cX8_look 103 = .ok (.iconst 0, 1) := by decide +kernel
theorem dX8_look_104 : decode cX8_look 104 = .ok (.ireturn, 1) := by decide +kernel
theorem dX8_look_105 : decode cX8_look 105 = .ok (.aload_n 0, 1) := by decide +kernel
theorem dX8_look_106 : decode cX8_look 106 = .ok (.getfield 35, 3) := by decide +kernel
theorem dX8_look_109 : decode cX8_look 109 = .ok (.invokevirtual 103, 3) := by decide +kernel
theorem dX8_look_112 : decode cX8_look 112 = .ok (.ireturn, 1) := by decide +kernel
theorem dX8_look_113 : decode cX8_look 113 = .ok (.aload_n 0, 1) := by decide +kernel
theorem dX8_look_114 : decode cX8_look 114 = .ok (.getfield 28, 3) := by decide +kernel
theorem dX8_look_117 : decode cX8_look 117 = .ok (.invokevirtual 129, 3) := by decide +kernel
theorem dX8_look_120 : decode cX8_look 120 = .ok (.ireturn, 1) := by decide +kernel
theorem dX8_look_121 : decode cX8_look 121 = .ok (.iconst (-1), 1) := by decide +kernel
theorem dX8_look_122 : decode cX8_look 122 = .ok (.ireturn, 1) := by decide +kernel
theorem dX8_mention_0 : decode cX8_mention 0 = .ok (.aload_n 0, 1) := by decide +kernel
theorem dX8_mention_1 : decode cX8_mention 1 = .ok (.getfield 44, 3) := by decide +kernel
theorem dX8_mention_4 : decode cX8_mention 4 = .ok (.iload_n 1, 1) := by decide +kernel
theorem dX8_mention_5 : decode cX8_mention 5 = .ok (.invokevirtual 100, 3) := by decide +kernel
theorem dX8_mention_8 : decode cX8_mention 8 = .ok (.ifCond .ne 5, 3) := by decide +kernel
theorem dX8_mention_11 : decode cX8_mention 11 = .ok (.iconst (-1), 1) := by decide +kernel
theorem dX8_mention_12 : decode cX8_mention 12 = .ok (.ireturn, 1) := by decide +kernel
theorem dX8_mention_13 : decode cX8_mention 13 = .ok (.iload_n 2, 1) := by decide +kernel
theorem dX8_mention_14 : decode cX8_mention 14 = .ok (.tableswitch 113 0 6 #[42, 51, 60, 69, 78, 87, 96], 42) := by decide +kernel
theorem dX8_mention_56 : decode cX8_mention 56 = .ok (.aload_n 0, 1) := by decide +kernel
theorem dX8_mention_57 : decode cX8_mention 57 = .ok (.getfield 44, 3) := by decide +kernel
theorem dX8_mention_60 : decode cX8_mention 60 = .ok (.iload_n 1, 1) := by decide +kernel
theorem dX8_mention_61 : decode cX8_mention 61 = .ok (.invokevirtual 130, 3) := by decide +kernel
theorem dX8_mention_64 : decode cX8_mention 64 = .ok (.ireturn, 1) := by decide +kernel
theorem dX8_mention_65 : decode cX8_mention 65 = .ok (.aload_n 0, 1) := by decide +kernel
theorem dX8_mention_66 : decode cX8_mention 66 = .ok (.getfield 44, 3) := by decide +kernel
theorem dX8_mention_69 : decode cX8_mention 69 = .ok (.iload_n 1, 1) := by decide +kernel
theorem dX8_mention_70 : decode cX8_mention 70 = .ok (.invokevirtual 133, 3) := by decide +kernel
theorem dX8_mention_73 : decode cX8_mention 73 = .ok (.ireturn, 1) := by decide +kernel
theorem dX8_mention_74 : decode cX8_mention 74 = .ok (.aload_n 0, 1) := by decide +kernel
theorem dX8_mention_75 : decode cX8_mention 75 = .ok (.getfield 44, 3) := by decide +kernel
theorem dX8_mention_78 : decode cX8_mention 78 = .ok (.iload_n 1, 1) := by decide +kernel
theorem dX8_mention_79 : decode cX8_mention 79 = .ok (.invokevirtual 136, 3) := by decide +kernel
theorem dX8_mention_82 : decode cX8_mention 82 = .ok (.ireturn, 1) := by decide +kernel
theorem dX8_mention_83 : decode cX8_mention 83 = .ok (.aload_n 0, 1) := by decide +kernel
theorem dX8_mention_84 : decode cX8_mention 84 = .ok (.getfield 44, 3) := by decide +kernel
theorem dX8_mention_87 : decode cX8_mention 87 = .ok (.iload_n 1, 1) := by decide +kernel
theorem dX8_mention_88 : decode cX8_mention 88 = .ok (.invokevirtual 139, 3) := by decide +kernel
theorem dX8_mention_91 : decode cX8_mention 91 = .ok (.ireturn, 1) := by decide +kernel
theorem dX8_mention_92 : decode cX8_mention 92 = .ok (.aload_n 0, 1) := by decide +kernel
theorem dX8_mention_93 : decode cX8_mention 93 = .ok (.getfield 69, 3) := by decide +kernel
theorem dX8_mention_96 : decode cX8_mention 96 = .ok (.iload_n 1, 1) := by decide +kernel
theorem dX8_mention_97 : decode cX8_mention 97 = .ok (.invokevirtual 142, 3) := by decide +kernel
theorem dX8_mention_100 : decode cX8_mention 100 = .ok (.ireturn, 1) := by decide +kernel
theorem dX8_mention_101 : decode cX8_mention 101 = .ok (.aload_n 0, 1) := by decide +kernel
theorem dX8_mention_102 : decode cX8_mention 102 = .ok (.getfield 69, 3) := by decide +kernel
theorem dX8_mention_105 : decode cX8_mention 105 = .ok (.iload_n 1, 1) := by decide +kernel
theorem dX8_mention_106 : decode cX8_mention 106 = .ok (.invokevirtual 145, 3) := by decide +kernel
theorem dX8_mention_109 : decode cX8_mention 109 = .ok (.ireturn, 1) := by decide +kernel
theorem dX8_mention_110 : decode cX8_mention 110 = .ok (.aload_n 0, 1) := by decide +kernel
theorem dX8_mention_111 : decode cX8_mention 111 = .ok (.getfield 69, 3) := by decide +kernel
theorem dX8_mention_114 : decode cX8_mention 114 = .ok (.iload_n 1, 1) := by decide +kernel
theorem dX8_mention_115 : decode cX8_mention 115 = .ok (.invokevirtual 148, 3) := by decide +kernel
theorem dX8_mention_118 : decode cX8_mention 118 = .ok (.ifCond .eq 7, 3) := by decide +kernel
theorem dX8_mention_121 : decode cX8_mention 121 = .ok (.iconst 1, 1) := by decide +kernel
theorem dX8_mention_122 : decode cX8_mention 122 = .ok (.goto 4, 3) := by decide +kernel
theorem dX8_mention_125 : decode cX8_mention 125 = .ok (.iconst 0, 1) := by decide +kernel
theorem dX8_mention_126 : decode cX8_mention 126 = .ok (.ireturn, 1) := by decide +kernel
theorem dX8_mention_127 : decode cX8_mention 127 = .ok (.iconst (-1), 1) := by decide +kernel
theorem dX8_mention_128 : decode cX8_mention 128 = .ok (.ireturn, 1) := by decide +kernel
theorem dX8_person_0 : decode cX8_person 0 = .ok (.aload_n 0, 1) := by decide +kernel
theorem dX8_person_1 : decode cX8_person 1 = .ok (.getfield 51, 3) := by decide +kernel
theorem dX8_person_4 : decode cX8_person 4 = .ok (.iload_n 1, 1) := by decide +kernel
theorem dX8_person_5 : decode cX8_person 5 = .ok (.invokevirtual 151, 3) := by decide +kernel
theorem dX8_person_8 : decode cX8_person 8 = .ok (.istore_n 3, 1) := by decide +kernel
theorem dX8_person_9 : decode cX8_person 9 = .ok (.iload_n 3, 1) := by decide +kernel
theorem dX8_person_10 : decode cX8_person 10 = .ok (.iconst (-1), 1) := by decide +kernel
theorem dX8_person_11 : decode cX8_person 11 = .ok (.if_icmp .ne 5, 3) := by decide +kernel
theorem dX8_person_14 : decode cX8_person 14 = .ok (.iconst (-1), 1) := by decide +kernel
theorem dX8_person_15 : decode cX8_person 15 = .ok (.ireturn, 1) := by decide +kernel
theorem dX8_person_16 : decode cX8_person 16 = .ok (.iload_n 2, 1) := by decide +kernel
theorem dX8_person_17 : decode cX8_person 17 = .ok (.tableswitch 86 0 5 #[39, 41, 50, 59, 68, 77], 39) := by decide +kernel
theorem dX8_person_56 : decode cX8_person 56 = .ok (.iload_n 3, 1) := by decide +kernel
theorem dX8_person_57 : decode cX8_person 57 = .ok (.ireturn, 1) := by decide +kernel
theorem dX8_person_58 : decode cX8_person 58 = .ok (.aload_n 0, 1) := by decide +kernel
theorem dX8_person_59 : decode cX8_person 59 = .ok (.getfield 51, 3) := by decide +kernel
theorem dX8_person_62 : decode cX8_person 62 = .ok (.iload_n 3, 1) := by decide +kernel
theorem dX8_person_63 : decode cX8_person 63 = .ok (.invokevirtual 154, 3) := by decide +kernel
theorem dX8_person_66 : decode cX8_person 66 = .ok (.ireturn, 1) := by decide +kernel
theorem dX8_person_67 : decode cX8_person 67 = .ok (.aload_n 0, 1) := by decide +kernel
theorem dX8_person_68 : decode cX8_person 68 = .ok (.getfield 69, 3) := by decide +kernel
theorem dX8_person_71 : decode cX8_person 71 = .ok (.iload_n 3, 1) := by decide +kernel
theorem dX8_person_72 : decode cX8_person 72 = .ok (.invokevirtual 122, 3) := by decide +kernel
theorem dX8_person_75 : decode cX8_person 75 = .ok (.ireturn, 1) := by decide +kernel
theorem dX8_person_76 : decode cX8_person 76 = .ok (.aload_n 0, 1) := by decide +kernel
theorem dX8_person_77 : decode cX8_person 77 = .ok (.getfield 60, 3) := by decide +kernel
theorem dX8_person_80 : decode cX8_person 80 = .ok (.iload_n 3, 1) := by decide +kernel
theorem dX8_person_81 : decode cX8_person 81 = .ok (.invokevirtual 157, 3) := by decide +kernel
theorem dX8_person_84 : decode cX8_person 84 = .ok (.ireturn, 1) := by decide +kernel
theorem dX8_person_85 : decode cX8_person 85 = .ok (.aload_n 0, 1) := by decide +kernel
theorem dX8_person_86 : decode cX8_person 86 = .ok (.getfield 51, 3) := by decide +kernel
theorem dX8_person_89 : decode cX8_person 89 = .ok (.iload_n 3, 1) := by decide +kernel
theorem dX8_person_90 : decode cX8_person 90 = .ok (.invokevirtual 158, 3) := by decide +kernel
theorem dX8_person_93 : decode cX8_person 93 = .ok (.ireturn, 1) := by decide +kernel
theorem dX8_person_94 : decode cX8_person 94 = .ok (.aload_n 0, 1) := by decide +kernel
theorem dX8_person_95 : decode cX8_person 95 = .ok (.getfield 51, 3) := by decide +kernel
theorem dX8_person_98 : decode cX8_person 98 = .ok (.iload_n 1, 1) := by decide +kernel
theorem dX8_person_99 : decode cX8_person 99 = .ok (.invokevirtual 161, 3) := by decide +kernel
theorem dX8_person_102 : decode cX8_person 102 = .ok (.ireturn, 1) := by decide +kernel
theorem dX8_person_103 : decode cX8_person 103 = .ok (.iconst (-1), 1) := by decide +kernel
theorem dX8_person_104 : decode cX8_person 104 = .ok (.ireturn, 1) := by decide +kernel
theorem dX8_chain_0 : decode cX8_chain 0 = .ok (.aload_n 0, 1) := by decide +kernel
theorem dX8_chain_1 : decode cX8_chain 1 = .ok (.getfield 51, 3) := by decide +kernel
theorem dX8_chain_4 : decode cX8_chain 4 = .ok (.iload_n 1, 1) := by decide +kernel
theorem dX8_chain_5 : decode cX8_chain 5 = .ok (.invokevirtual 151, 3) := by decide +kernel
theorem dX8_chain_8 : decode cX8_chain 8 = .ok (.istore_n 3, 1) := by decide +kernel
theorem dX8_chain_9 : decode cX8_chain 9 = .ok (.iload_n 3, 1) := by decide +kernel
theorem dX8_chain_10 : decode cX8_chain 10 = .ok (.iconst (-1), 1) := by decide +kernel
theorem dX8_chain_11 : decode cX8_chain 11 = .ok (.if_icmp .ne 7, 3) := by decide +kernel
theorem dX8_chain_14 : decode cX8_chain 14 = .ok (.iconst (-1), 1) := by decide +kernel
theorem dX8_chain_15 : decode cX8_chain 15 = .ok (.goto 12, 3) := by decide +kernel
theorem dX8_chain_18 : decode cX8_chain 18 = .ok (.aload_n 0, 1) := by decide +kernel
theorem dX8_chain_19 : decode cX8_chain 19 = .ok (.getfield 69, 3) := by decide +kernel
theorem dX8_chain_22 : decode cX8_chain 22 = .ok (.iload_n 3, 1) := by decide +kernel
theorem dX8_chain_23 : decode cX8_chain 23 = .ok (.iload_n 2, 1) := by decide +kernel
theorem dX8_chain_24 : decode cX8_chain 24 = .ok (.invokevirtual 164, 3) := by decide +kernel
theorem dX8_chain_27 : decode cX8_chain 27 = .ok (.ireturn, 1) := by decide +kernel
theorem dX8_name_0 : decode cX8_name 0 = .ok (.aload_n 0, 1) := by decide +kernel
theorem dX8_name_1 : decode cX8_name 1 = .ok (.getfield 51, 3) := by decide +kernel
theorem dX8_name_4 : decode cX8_name 4 = .ok (.iload_n 1, 1) := by decide +kernel
theorem dX8_name_5 : decode cX8_name 5 = .ok (.invokevirtual 151, 3) := by decide +kernel
theorem dX8_name_8 : decode cX8_name 8 = .ok (.istore_n 3, 1) := by decide +kernel
theorem dX8_name_9 : decode cX8_name 9 = .ok (.iload_n 3, 1) := by decide +kernel
theorem dX8_name_10 : decode cX8_name 10 = .ok (.iconst (-1), 1) := by decide +kernel
theorem dX8_name_11 : decode cX8_name 11 = .ok (.if_icmp .ne 7, 3) := by decide +kernel
theorem dX8_name_14 : decode cX8_name 14 = .ok (.iconst (-1), 1) := by decide +kernel
theorem dX8_name_15 : decode cX8_name 15 = .ok (.goto 12, 3) := by decide +kernel
theorem dX8_name_18 : decode cX8_name 18 = .ok (.aload_n 0, 1) := by decide +kernel
theorem dX8_name_19 : decode cX8_name 19 = .ok (.getfield 60, 3) := by decide +kernel
theorem dX8_name_22 : decode cX8_name 22 = .ok (.iload_n 3, 1) := by decide +kernel
theorem dX8_name_23 : decode cX8_name 23 = .ok (.iload_n 2, 1) := by decide +kernel
theorem dX8_name_24 : decode cX8_name 24 = .ok (.invokevirtual 168, 3) := by decide +kernel
theorem dX8_name_27 : decode cX8_name 27 = .ok (.ireturn, 1) := by decide +kernel
theorem dX8_who_0 : decode cX8_who 0 = .ok (.aload_n 0, 1) := by decide +kernel
theorem dX8_who_1 : decode cX8_who 1 = .ok (.getfield 44, 3) := by decide +kernel
theorem dX8_who_4 : decode cX8_who 4 = .ok (.iload_n 1, 1) := by decide +kernel
theorem dX8_who_5 : decode cX8_who 5 = .ok (.invokevirtual 171, 3) := by decide +kernel
theorem dX8_who_8 : decode cX8_who 8 = .ok (.ifCond .eq 14, 3) := by decide +kernel
theorem dX8_who_11 : decode cX8_who 11 = .ok (.aload_n 0, 1) := by decide +kernel
theorem dX8_who_12 : decode cX8_who 12 = .ok (.getfield 60, 3) := by decide +kernel
theorem dX8_who_15 : decode cX8_who 15 = .ok (.iload_n 1, 1) := by decide +kernel
theorem dX8_who_16 : decode cX8_who 16 = .ok (.invokevirtual 174, 3) := by decide +kernel
theorem dX8_who_19 : decode cX8_who 19 = .ok (.goto 4, 3) := by decide +kernel
theorem dX8_who_22 : decode cX8_who 22 = .ok (.iconst (-1), 1) := by decide +kernel
theorem dX8_who_23 : decode cX8_who 23 = .ok (.ireturn, 1) := by decide +kernel
theorem dX8_readAnew_0 : decode cX8_readAnew 0 = .ok (.aload_n 0, 1) := by decide +kernel
theorem dX8_readAnew_1 : decode cX8_readAnew 1 = .ok (.getfield 44, 3) := by decide +kernel
theorem dX8_readAnew_4 : decode cX8_readAnew 4 = .ok (.aload_n 0, 1) := by decide +kernel
theorem dX8_readAnew_5 : decode cX8_readAnew 5 = .ok (.getfield 28, 3) := by decide +kernel
theorem dX8_readAnew_8 : decode cX8_readAnew 8 = .ok (.invokevirtual 177, 3) := by decide +kernel
theorem dX8_readAnew_11 : decode cX8_readAnew 11 = .ok (.aload_n 0, 1) := by decide +kernel
theorem dX8_readAnew_12 : decode cX8_readAnew 12 = .ok (.getfield 51, 3) := by decide +kernel
theorem dX8_readAnew_15 : decode cX8_readAnew 15 = .ok (.invokevirtual 181, 3) := by decide +kernel
theorem dX8_readAnew_18 : decode cX8_readAnew 18 = .ok (.aload_n 0, 1) := by decide +kernel
theorem dX8_readAnew_19 : decode cX8_readAnew 19 = .ok (.getfield 60, 3) := by decide +kernel
theorem dX8_readAnew_22 : decode cX8_readAnew 22 = .ok (.invokevirtual 182, 3) := by decide +kernel
theorem dX8_readAnew_25 : decode cX8_readAnew 25 = .ok (.iconst 0, 1) := by decide +kernel
theorem dX8_readAnew_26 : decode cX8_readAnew 26 = .ok (.istore_n 1, 1) := by decide +kernel
theorem dX8_readAnew_27 : decode cX8_readAnew 27 = .ok (.iload_n 1, 1) := by decide +kernel
theorem dX8_readAnew_28 : decode cX8_readAnew 28 = .ok (.aload_n 0, 1) := by decide +kernel
theorem dX8_readAnew_29 : decode cX8_readAnew 29 = .ok (.getfield 44, 3) := by decide +kernel
theorem dX8_readAnew_32 : decode cX8_readAnew 32 = .ok (.invokevirtual 95, 3) := by decide +kernel
theorem dX8_readAnew_35 : decode cX8_readAnew 35 = .ok (.if_icmp .ge 17, 3) := by decide +kernel
theorem dX8_readAnew_38 : decode cX8_readAnew 38 = .ok (.aload_n 0, 1) := by decide +kernel
theorem dX8_readAnew_39 : decode cX8_readAnew 39 = .ok (.getfield 69, 3) := by decide +kernel
theorem dX8_readAnew_42 : decode cX8_readAnew 42 = .ok (.iload_n 1, 1) := by decide +kernel
theorem dX8_readAnew_43 : decode cX8_readAnew 43 = .ok (.invokevirtual 183, 3) := by decide +kernel
theorem dX8_readAnew_46 : decode cX8_readAnew 46 = .ok (.iinc 1 1, 3) := by decide +kernel
theorem dX8_readAnew_49 : decode cX8_readAnew 49 = .ok (.goto (-22), 3) := by decide +kernel
theorem dX8_readAnew_52 : decode cX8_readAnew 52 = .ok (.return_, 1) := by decide +kernel
theorem dX8_isSmall_0 : decode cX8_isSmall 0 = .ok (.iload_n 0, 1) := by decide +kernel
theorem dX8_isSmall_1 : decode cX8_isSmall 1 = .ok (.bipush 97, 2) := by decide +kernel
theorem dX8_isSmall_3 : decode cX8_isSmall 3 = .ok (.if_icmp .lt 13, 3) := by decide +kernel
theorem dX8_isSmall_6 : decode cX8_isSmall 6 = .ok (.iload_n 0, 1) := by decide +kernel
theorem dX8_isSmall_7 : decode cX8_isSmall 7 = .ok (.bipush 122, 2) := by decide +kernel
theorem dX8_isSmall_9 : decode cX8_isSmall 9 = .ok (.if_icmp .gt 7, 3) := by decide +kernel
theorem dX8_isSmall_12 : decode cX8_isSmall 12 = .ok (.iconst 1, 1) := by decide +kernel
theorem dX8_isSmall_13 : decode cX8_isSmall 13 = .ok (.goto 4, 3) := by decide +kernel
theorem dX8_isSmall_16 : decode cX8_isSmall 16 = .ok (.iconst 0, 1) := by decide +kernel
theorem dX8_isSmall_17 : decode cX8_isSmall 17 = .ok (.ireturn, 1) := by decide +kernel
theorem dX8_isCapital_0 : decode cX8_isCapital 0 = .ok (.iload_n 0, 1) := by decide +kernel
theorem dX8_isCapital_1 : decode cX8_isCapital 1 = .ok (.bipush 65, 2) := by decide +kernel
theorem dX8_isCapital_3 : decode cX8_isCapital 3 = .ok (.if_icmp .lt 13, 3) := by decide +kernel
theorem dX8_isCapital_6 : decode cX8_isCapital 6 = .ok (.iload_n 0, 1) := by decide +kernel
theorem dX8_isCapital_7 : decode cX8_isCapital 7 = .ok (.bipush 90, 2) := by decide +kernel
theorem dX8_isCapital_9 : decode cX8_isCapital 9 = .ok (.if_icmp .gt 7, 3) := by decide +kernel
theorem dX8_isCapital_12 : decode cX8_isCapital 12 = .ok (.iconst 1, 1) := by decide +kernel
theorem dX8_isCapital_13 : decode cX8_isCapital 13 = .ok (.goto 4, 3) := by decide +kernel
theorem dX8_isCapital_16 : decode cX8_isCapital 16 = .ok (.iconst 0, 1) := by decide +kernel
theorem dX8_isCapital_17 : decode cX8_isCapital 17 = .ok (.ireturn, 1) := by decide +kernel
