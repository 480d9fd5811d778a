theorem dJ6_lowestOneBit_0f7a4_0 : decode cJ6_lowestOneBit_0f7a4 0 = .ok (.iload_n 0, 1) := by decide +kernel
theorem dJ6_lowestOneBit_0f7a4_1 : decode cJ6_lowestOneBit_0f7a4 1 = .ok (.iload_n 0, 1) := by decide +kernel
theorem dJ6_lowestOneBit_0f7a4_2 : decode cJ6_lowestOneBit_0f7a4 2 = .ok (.ineg, 1) := by decide +kernel
theorem dJ6_lowestOneBit_0f7a4_3 : decode cJ6_lowestOneBit_0f7a4 3 = .ok (.iand, 1) := by decide +kernel
theorem dJ6_lowestOneBit_0f7a4_4 : decode cJ6_lowestOneBit_0f7a4 4 = .ok (.ireturn, 1) := by decide +kernel
theorem dJ6_bitCount_0f7a4_0 : decode cJ6_bitCount_0f7a4 0 = .ok (.iload_n 0, 1) := by decide +kernel
theorem dJ6_bitCount_0f7a4_1 : decode cJ6_bitCount_0f7a4 1 = .ok (.iload_n 0, 1) := by decide +kernel
theorem dJ6_bitCount_0f7a4_2 : decode cJ6_bitCount_0f7a4 2 = .ok (.iconst 1, 1) := by decide +kernel
theorem dJ6_bitCount_0f7a4_3 : decode cJ6_bitCount_0f7a4 3 = .ok (.iushr, 1) := by decide +kernel
theorem dJ6_bitCount_0f7a4_4 : decode cJ6_bitCount_0f7a4 4 = .ok (.ldc_w 265, 3) := by decide +kernel
theorem dJ6_bitCount_0f7a4_7 : decode cJ6_bitCount_0f7a4 7 = .ok (.iand, 1) := by decide +kernel
theorem dJ6_bitCount_0f7a4_8 : decode cJ6_bitCount_0f7a4 8 = .ok (.isub, 1) := by decide +kernel
theorem dJ6_bitCount_0f7a4_9 : decode cJ6_bitCount_0f7a4 9 = .ok (.istore_n 0, 1) := by decide +kernel
theorem dJ6_bitCount_0f7a4_10 : decode cJ6_bitCount_0f7a4 10 = .ok (.iload_n 0, 1) := by decide +kernel
theorem dJ6_bitCount_0f7a4_11 : decode cJ6_bitCount_0f7a4 11 = .ok (.ldc_w 266, 3) := by decide +kernel
theorem dJ6_bitCount_0f7a4_14 : decode cJ6_bitCount_0f7a4 14 = .ok (.iand, 1) := by decide +kernel
theorem dJ6_bitCount_0f7a4_15 : decode cJ6_bitCount_0f7a4 15 = .ok (.iload_n 0, 1) := by decide +kernel
theorem dJ6_bitCount_0f7a4_16 : decode cJ6_bitCount_0f7a4 16 = .ok (.iconst 2, 1) := by decide +kernel
theorem dJ6_bitCount_0f7a4_17 : decode cJ6_bitCount_0f7a4 17 = .ok (.iushr, 1) := by decide +kernel
theorem dJ6_bitCount_0f7a4_18 : decode cJ6_bitCount_0f7a4 18 = .ok (.ldc_w 266, 3) := by decide +kernel
theorem dJ6_bitCount_0f7a4_21 : decode cJ6_bitCount_0f7a4 21 = .ok (.iand, 1) := by decide +kernel
theorem dJ6_bitCount_0f7a4_22 : decode cJ6_bitCount_0f7a4 22 = .ok (.iadd, 1) := by decide +kernel
theorem dJ6_bitCount_0f7a4_23 : decode cJ6_bitCount_0f7a4 23 = .ok (.istore_n 0, 1) := by decide +kernel
theorem dJ6_bitCount_0f7a4_24 : decode cJ6_bitCount_0f7a4 24 = .ok (.iload_n 0, 1) := by decide +kernel
theorem dJ6_bitCount_0f7a4_25 : decode cJ6_bitCount_0f7a4 25 = .ok (.iload_n 0, 1) := by decide +kernel
theorem dJ6_bitCount_0f7a4_26 : decode cJ6_bitCount_0f7a4 26 = .ok (.iconst 4, 1) := by decide +kernel
theorem dJ6_bitCount_0f7a4_27 : decode cJ6_bitCount_0f7a4 27 = .ok (.iushr, 1) := by decide +kernel
theorem dJ6_bitCount_0f7a4_28 : decode cJ6_bitCount_0f7a4 28 = .ok (.iadd, 1) := by decide +kernel
theorem dJ6_bitCount_0f7a4_29 : decode cJ6_bitCount_0f7a4 29 = .ok (.ldc_w 267, 3) := by decide +kernel
theorem dJ6_bitCount_0f7a4_32 : decode cJ6_bitCount_0f7a4 32 = .ok (.iand, 1) := by decide +kernel
theorem dJ6_bitCount_0f7a4_33 : decode cJ6_bitCount_0f7a4 33 = .ok (.istore_n 0, 1) := by decide +kernel
theorem dJ6_bitCount_0f7a4_34 : decode cJ6_bitCount_0f7a4 34 = .ok (.iload_n 0, 1) := by decide +kernel
theorem dJ6_bitCount_0f7a4_35 : decode cJ6_bitCount_0f7a4 35 = .ok (.iload_n 0, 1) := by decide +kernel
theorem dJ6_bitCount_0f7a4_36 : decode cJ6_bitCount_0f7a4 36 = .ok (.bipush 8, 2) := by decide +kernel
theorem dJ6_bitCount_0f7a4_38 : decode cJ6_bitCount_0f7a4 38 = .ok (.iushr, 1) := by decide +kernel
theorem dJ6_bitCount_0f7a4_39 : decode cJ6_bitCount_0f7a4 39 = .ok (.iadd, 1) := by decide +kernel
theorem dJ6_bitCount_0f7a4_40 : decode cJ6_bitCount_0f7a4 40 = .ok (.istore_n 0, 1) := by decide +kernel
theorem dJ6_bitCount_0f7a4_41 : decode cJ6_bitCount_0f7a4 41 = .ok (.iload_n 0, 1) := by decide +kernel
theorem dJ6_bitCount_0f7a4_42 : decode cJ6_bitCount_0f7a4 42 = .ok (.iload_n 0, 1) := by decide +kernel
theorem dJ6_bitCount_0f7a4_43 : decode cJ6_bitCount_0f7a4 43 = .ok (.bipush 16, 2) := by decide +kernel
theorem dJ6_bitCount_0f7a4_45 : decode cJ6_bitCount_0f7a4 45 = .ok (.iushr, 1) := by decide +kernel
theorem dJ6_bitCount_0f7a4_46 : decode cJ6_bitCount_0f7a4 46 = .ok (.iadd, 1) := by decide +kernel
theorem dJ6_bitCount_0f7a4_47 : decode cJ6_bitCount_0f7a4 47 = .ok (.istore_n 0, 1) := by decide +kernel
theorem dJ6_bitCount_0f7a4_48 : decode cJ6_bitCount_0f7a4 48 = .ok (.iload_n 0, 1) := by decide +kernel
theorem dJ6_bitCount_0f7a4_49 : decode cJ6_bitCount_0f7a4 49 = .ok (.bipush 63, 2) := by decide +kernel
theorem dJ6_bitCount_0f7a4_51 : decode cJ6_bitCount_0f7a4 51 = .ok (.iand, 1) := by decide +kernel
theorem dJ6_bitCount_0f7a4_52 : decode cJ6_bitCount_0f7a4 52 = .ok (.ireturn, 1) := by decide +kernel
theorem dJ9_max_7cf53_0 : decode cJ9_max_7cf53 0 = .ok (.iload_n 0, 1) := by decide +kernel
theorem dJ9_max_7cf53_1 : decode cJ9_max_7cf53 1 = .ok (.iload_n 1, 1) := by decide +kernel
theorem dJ9_max_7cf53_2 : decode cJ9_max_7cf53 2 = .ok (.if_icmp .lt 7, 3) := by decide +kernel
theorem dJ9_max_7cf53_5 : decode cJ9_max_7cf53 5 = .ok (.iload_n 0, 1) := by decide +kernel
theorem dJ9_max_7cf53_6 : decode cJ9_max_7cf53 6 = .ok (.goto 4, 3) := by decide +kernel
theorem dJ9_max_7cf53_9 : decode cJ9_max_7cf53 9 = .ok (.iload_n 1, 1) := by decide +kernel
theorem dJ9_max_7cf53_10 : decode cJ9_max_7cf53 10 = .ok (.ireturn, 1) := by decide +kernel
theorem dJ9_min_7cf53_0 : decode cJ9_min_7cf53 0 = .ok (.iload_n 0, 1) := by decide +kernel
theorem dJ9_min_7cf53_1 : decode cJ9_min_7cf53 1 = .ok (.iload_n 1, 1) := by decide +kernel
theorem dJ9_min_7cf53_2 : decode cJ9_min_7cf53 2 = .ok (.if_icmp .gt 7, 3) := by decide +kernel
theorem dJ9_min_7cf53_5 : decode cJ9_min_7cf53 5 = .ok (.iload_n 0, 1) := by decide +kernel
theorem dJ9_min_7cf53_6 : decode cJ9_min_7cf53 6 = .ok (.goto 4, 3) := by decide +kernel
theorem dJ9_min_7cf53_9 : decode cJ9_min_7cf53 9 = .ok (.iload_n 1, 1) := by decide +kernel
theorem dJ9_min_7cf53_10 : decode cJ9_min_7cf53 10 = .ok (.ireturn, 1) := by decide +kernel
theorem dJ0_length_8abf5_0 : decode cJ0_length_8abf5 0 = .ok (.aload_n 0, 1) := by decide +kernel
theorem dJ0_length_8abf5_1 : decode cJ0_length_8abf5 1 = .ok (.getfield 9, 3) := by decide +kernel
theorem dJ0_length_8abf5_4 : decode cJ0_length_8abf5 4 = .ok (.arraylength, 1) := by decide +kernel
theorem dJ0_length_8abf5_5 : decode cJ0_length_8abf5 5 = .ok (.aload_n 0, 1) := by decide +kernel
theorem dJ0_length_8abf5_6 : decode cJ0_length_8abf5 6 = .ok (.invokevirtual 335, 3) := by decide +kernel
theorem dJ0_length_8abf5_9 : decode cJ0_length_8abf5 9 = .ok (.ishr, 1) := by decide +kernel
theorem dJ0_length_8abf5_10 : decode cJ0_length_8abf5 10 = .ok (.ireturn, 1) := by decide +kernel
theorem dJ0_charAt_5068e_0 : decode cJ0_charAt_5068e 0 = .ok (.aload_n 0, 1) := by decide +kernel
theorem dJ0_charAt_5068e_1 : decode cJ0_charAt_5068e 1 = .ok (.invokevirtual 492, 3) := by decide +kernel
theorem dJ0_charAt_5068e_4 : decode cJ0_charAt_5068e 4 = .ok (.ifCond .eq 12, 3) := by decide +kernel
theorem dJ0_charAt_5068e_7 : decode cJ0_charAt_5068e 7 = .ok (.aload_n 0, 1) := by decide +kernel
theorem dJ0_charAt_5068e_8 : decode cJ0_charAt_5068e 8 = .ok (.getfield 9, 3) := by decide +kernel
theorem dJ0_charAt_5068e_11 : decode cJ0_charAt_5068e 11 = .ok (.iload_n 1, 1) := by decide +kernel
theorem dJ0_charAt_5068e_12 : decode cJ0_charAt_5068e 12 = .ok (.invokestatic 495, 3) := by decide +kernel
theorem dJ0_charAt_5068e_15 : decode cJ0_charAt_5068e 15 = .ok (.ireturn, 1) := by decide +kernel
theorem dJ0_charAt_5068e_16 : decode cJ0_charAt_5068e 16 = .ok (.aload_n 0, 1) := by decide +kernel
theorem dJ0_charAt_5068e_17 : decode cJ0_charAt_5068e 17 = .ok (.getfield 9, 3) := by decide +kernel
theorem dJ0_charAt_5068e_20 : decode cJ0_charAt_5068e 20 = .ok (.iload_n 1, 1) := by decide +kernel
theorem dJ0_charAt_5068e_21 : decode cJ0_charAt_5068e 21 = .ok (.invokestatic 498, 3) := by decide +kernel
theorem dJ0_charAt_5068e_24 : decode cJ0_charAt_5068e 24 = .ok (.ireturn, 1) := by decide +kernel
theorem dJ0_coder_7d493_0 : decode cJ0_coder_7d493 0 = .ok (.getstatic 38, 3) := by decide +kernel
theorem dJ0_coder_7d493_3 : decode cJ0_coder_7d493 3 = .ok (.ifCond .eq 10, 3) := by decide +kernel
theorem dJ0_coder_7d493_6 : decode cJ0_coder_7d493 6 = .ok (.aload_n 0, 1) := by decide +kernel
theorem dJ0_coder_7d493_7 : decode cJ0_coder_7d493 7 = .ok (.getfield 15, 3) := by decide +kernel
theorem dJ0_coder_7d493_10 : decode cJ0_coder_7d493 10 = .ok (.goto 4, 3) := by decide +kernel
theorem dJ0_coder_7d493_13 : decode cJ0_coder_7d493 13 = .ok (.iconst 1, 1) := by decide +kernel
theorem dJ0_coder_7d493_14 : decode cJ0_coder_7d493 14 = .ok (.ireturn, 1) := by decide +kernel
theorem dJ0_isLatin1_aae02_0 : decode cJ0_isLatin1_aae02 0 = .ok (.getstatic 38, 3) := by decide +kernel
theorem dJ0_isLatin1_aae02_3 : decode cJ0_isLatin1_aae02 3 = .ok (.ifCond .eq 14, 3) := by decide +kernel
theorem dJ0_isLatin1_aae02_6 : decode cJ0_isLatin1_aae02 6 = .ok (.aload_n 0, 1) := by decide +kernel
theorem dJ0_isLatin1_aae02_7 : decode cJ0_isLatin1_aae02 7 = .ok (.getfield 15, 3) := by decide +kernel
theorem dJ0_isLatin1_aae02_10 : decode cJ0_isLatin1_aae02 10 = .ok (.ifCond .ne 7, 3) := by decide +kernel
theorem dJ0_isLatin1_aae02_13 : decode cJ0_isLatin1_aae02 13 = .ok (.iconst 1, 1) := by decide +kernel
theorem dJ0_isLatin1_aae02_14 : decode cJ0_isLatin1_aae02 14 = .ok (.goto 4, 3) := by decide +kernel
theorem dJ0_isLatin1_aae02_17 : decode cJ0_isLatin1_aae02 17 = .ok (.iconst 0, 1) := by decide +kernel
theorem dJ0_isLatin1_aae02_18 : decode cJ0_isLatin1_aae02 18 = .ok (.ireturn, 1) := by decide +kernel
theorem dJ0_checkIndex_df160_0 : decode cJ0_checkIndex_df160 0 = .ok (.iload_n 0, 1) := by decide +kernel
theorem dJ0_checkIndex_df160_1 : decode cJ0_checkIndex_df160 1 = .ok (.iload_n 1, 1) := by decide +kernel
theorem dJ0_checkIndex_df160_2 : decode cJ0_checkIndex_df160 2 = .ok (.getstatic 1053, 3) := by decide +kernel
theorem dJ0_checkIndex_df160_5 : decode cJ0_checkIndex_df160 5 = .ok (.invokestatic 1059, 3) := by decide +kernel
theorem dJ0_checkIndex_df160_8 : decode cJ0_checkIndex_df160 8 = .ok (.pop, 1) := by decide +kernel
theorem dJ0_checkIndex_df160_9 : decode cJ0_checkIndex_df160 9 = .ok (.return_, 1) := by decide +kernel
theorem dJ1_charAt_3b067_0 : decode cJ1_charAt_3b067 0 = .ok (.iload_n 1, 1) := by decide +kernel
theorem dJ1_charAt_3b067_1 : decode cJ1_charAt_3b067 1 = .ok (.aload_n 0, 1) := by decide +kernel
theorem dJ1_charAt_3b067_2 : decode cJ1_charAt_3b067 2 = .ok (.arraylength, 1) := by decide +kernel
theorem dJ1_charAt_3b067_3 : decode cJ1_charAt_3b067 3 = .ok (.invokestatic 9, 3) := by decide +kernel
theorem dJ1_charAt_3b067_6 : decode cJ1_charAt_3b067 6 = .ok (.aload_n 0, 1) := by decide +kernel
theorem dJ1_charAt_3b067_7 : decode cJ1_charAt_3b067 7 = .ok (.iload_n 1, 1) := by decide +kernel
theorem dJ1_charAt_3b067_8 : decode cJ1_charAt_3b067 8 = .ok (.baload, 1) := by decide +kernel
theorem dJ1_charAt_3b067_9 : decode cJ1_charAt_3b067 9 = .ok (.sipush 255, 3) := by decide +kernel
theorem dJ1_charAt_3b067_12 : decode cJ1_charAt_3b067 12 = .ok (.iand, 1) := by decide +kernel
theorem dJ1_charAt_3b067_13 : decode cJ1_charAt_3b067 13 = .ok (.i2c, 1) := by decide +kernel
theorem dJ1_charAt_3b067_14 : decode cJ1_charAt_3b067 14 = .ok (.ireturn, 1) := by decide +kernel
theorem dJ7_fill_53178_0 : decode cJ7_fill_53178 0 = .ok (.iconst 0, 1) := by decide +kernel
theorem dJ7_fill_53178_1 : decode cJ7_fill_53178 1 = .ok (.istore_n 2, 1) := by decide +kernel
theorem dJ7_fill_53178_2 : decode cJ7_fill_53178 2 = .ok (.aload_n 0, 1) := by decide +kernel
theorem dJ7_fill_53178_3 : decode cJ7_fill_53178 3 = .ok (.arraylength, 1) := by decide +kernel
theorem dJ7_fill_53178_4 : decode cJ7_fill_53178 4 = .ok (.istore_n 3, 1) := by decide +kernel
theorem dJ7_fill_53178_5 : decode cJ7_fill_53178 5 = .ok (.iload_n 2, 1) := by decide +kernel
theorem dJ7_fill_53178_6 : decode cJ7_fill_53178 6 = .ok (.iload_n 3, 1) := by decide +kernel
theorem dJ7_fill_53178_7 : decode cJ7_fill_53178 7 = .ok (.if_icmp .ge 13, 3) := by decide +kernel
theorem dJ7_fill_53178_10 : decode cJ7_fill_53178 10 = .ok (.aload_n 0, 1) := by decide +kernel
theorem dJ7_fill_53178_11 : decode cJ7_fill_53178 11 = .ok (.iload_n 2, 1) := by decide +kernel
theorem dJ7_fill_53178_12 : decode cJ7_fill_53178 12 = .ok (.iload_n 1, 1) := by decide +kernel
theorem dJ7_fill_53178_13 : decode cJ7_fill_53178 13 = .ok (.iastore, 1) := by decide +kernel
theorem dJ7_fill_53178_14 : decode cJ7_fill_53178 14 = .ok (.iinc 2 1, 3) := by decide +kernel
theorem dJ7_fill_53178_17 : decode cJ7_fill_53178 17 = .ok (.goto (-12), 3) := by decide +kernel
theorem dJ7_fill_53178_20 : decode cJ7_fill_53178 20 = .ok (.return_, 1) := by decide +kernel
theorem dJ3_checkIndex_8e157_0 : decode cJ3_checkIndex_8e157 0 = .ok (.iload_n 0, 1) := by decide +kernel
theorem dJ3_checkIndex_8e157_1 : decode cJ3_checkIndex_8e157 1 = .ok (.ifCond .lt 8, 3) := by decide +kernel
theorem dJ3_checkIndex_8e157_4 : decode cJ3_checkIndex_8e157 4 = .ok (.iload_n 0, 1) := by decide +kernel
theorem dJ3_checkIndex_8e157_5 : decode cJ3_checkIndex_8e157 5 = .ok (.iload_n 1, 1) := by decide +kernel
theorem dJ3_checkIndex_8e157_6 : decode cJ3_checkIndex_8e157 6 = .ok (.if_icmp .lt 10, 3) := by decide +kernel
theorem dJ3_checkIndex_8e157_9 : decode cJ3_checkIndex_8e157 9 = .ok (.aload_n 2, 1) := by decide +kernel
theorem dJ3_checkIndex_8e157_10 : decode cJ3_checkIndex_8e157 10 = .ok (.iload_n 0, 1) := by decide +kernel
theorem dJ3_checkIndex_8e157_11 : decode cJ3_checkIndex_8e157 11 = .ok (.iload_n 1, 1) := by decide +kernel
theorem dJ3_checkIndex_8e157_12 : decode cJ3_checkIndex_8e157 12 = .ok (.invokestatic 95, 3) := by decide +kernel
theorem dJ3_checkIndex_8e157_15 : decode cJ3_checkIndex_8e157 15 = .ok (.athrow, 1) := by decide +kernel
theorem dJ3_checkIndex_8e157_16 : decode cJ3_checkIndex_8e157 16 = .ok (.iload_n 0, 1) := by decide +kernel
theorem dJ3_checkIndex_8e157_17 : decode cJ3_checkIndex_8e157 17 = .ok (.ireturn, 1) := by decide +kernel
theorem dX0_init_0 : decode cX0_init 0 = .ok (.aload_n 0, 1) := by decide +kernel
theorem dX0_init_1 : decode cX0_init 1 = .ok (.invokespecial 3, 3) := by decide +kernel
theorem dX0_init_4 : decode cX0_init 4 = .ok (.aload_n 0, 1) := by decide +kernel
theorem dX0_init_5 : decode cX0_init 5 = .ok (.sipush 128, 3) := by decide +kernel
theorem dX0_init_8 : decode cX0_init 8 = .ok (.newarray .int, 2) := by decide +kernel
theorem dX0_init_10 : decode cX0_init 10 = .ok (.putfield 9, 3) := by decide +kernel
theorem dX0_init_13 : decode cX0_init 13 = .ok (.aload_n 0, 1) := by decide +kernel
theorem dX0_init_14 : decode cX0_init 14 = .ok (.sipush 128, 3) := by decide +kernel
theorem dX0_init_17 : decode cX0_init 17 = .ok (.newarray .boolean, 2) := by decide +kernel
theorem dX0_init_19 : decode cX0_init 19 = .ok (.putfield 15, 3) := by decide +kernel
theorem dX0_init_22 : decode cX0_init 22 = .ok (.return_, 1) := by decide +kernel
theorem dX0_lookAt_0 : decode cX0_lookAt 0 = .ok (.aload_n 0, 1) := by decide +kernel
theorem dX0_lookAt_1 : decode cX0_lookAt 1 = .ok (.iconst 1, 1) := by decide +kernel
theorem dX0_lookAt_2 : decode cX0_lookAt 2 = .ok (.aload_n 1, 1) := by decide +kernel
theorem dX0_lookAt_3 : decode cX0_lookAt 3 = .ok (.getfield 19, 3) := by decide +kernel
theorem dX0_lookAt_6 : decode cX0_lookAt 6 = .ok (.invokevirtual 25, 3) := by decide +kernel
theorem dX0_lookAt_9 : decode cX0_lookAt 9 = .ok (.bipush 7, 2) := by decide +kernel
theorem dX0_lookAt_11 : decode cX0_lookAt 11 = .ok (.invokestatic 31, 3) := by decide +kernel
theorem dX0_lookAt_14 : decode cX0_lookAt 14 = .ok (.ishl, 1) := by decide +kernel
theorem dX0_lookAt_15 : decode cX0_lookAt 15 = .ok (.putfield 37, 3) := by decide +kernel
theorem dX0_lookAt_18 : decode cX0_lookAt 18 = .ok (.aload_n 0, 1) := by decide +kernel
theorem dX0_lookAt_19 : decode cX0_lookAt 19 = .ok (.getfield 9, 3) := by decide +kernel
theorem dX0_lookAt_22 : decode cX0_lookAt 22 = .ok (.iconst 0, 1) := by decide +kernel
theorem dX0_lookAt_23 : decode cX0_lookAt 23 = .ok (.iconst 0, 1) := by decide +kernel
theorem dX0_lookAt_24 : decode cX0_lookAt 24 = .ok (.iastore, 1) := by decide +kernel
theorem dX0_lookAt_25 : decode cX0_lookAt 25 = .ok (.iconst 0, 1) := by decide +kernel
theorem dX0_lookAt_26 : decode cX0_lookAt 26 = .ok (.istore_n 2, 1) := by decide +kernel
theorem dX0_lookAt_27 : decode cX0_lookAt 27 = .ok (.iload_n 2, 1) := by decide +kernel
theorem dX0_lookAt_28 : decode cX0_lookAt 28 = .ok (.bipush 7, 2) := by decide +kernel
theorem dX0_lookAt_30 : decode cX0_lookAt 30 = .ok (.if_icmp .ge 62, 3) := by decide +kernel
theorem dX0_lookAt_33 : decode cX0_lookAt 33 = .ok (.iconst 1, 1) := by decide +kernel
theorem dX0_lookAt_34 : decode cX0_lookAt 34 = .ok (.iload_n 2, 1) := by decide +kernel
theorem dX0_lookAt_35 : decode cX0_lookAt 35 = .ok (.ishl, 1) := by decide +kernel
theorem dX0_lookAt_36 : decode cX0_lookAt 36 = .ok (.aload_n 0, 1) := by decide +kernel
theorem dX0_lookAt_37 : decode cX0_lookAt 37 = .ok (.getfield 37, 3) := by decide +kernel
theorem dX0_lookAt_40 : decode cX0_lookAt 40 = .ok (.if_icmp .ge 52, 3) := by decide +kernel
theorem dX0_lookAt_43 : decode cX0_lookAt 43 = .ok (.aload_n 1, 1) := by decide +kernel
theorem dX0_lookAt_44 : decode cX0_lookAt 44 = .ok (.iload_n 2, 1) := by decide +kernel
theorem dX0_lookAt_45 : decode cX0_lookAt 45 = .ok (.invokevirtual 41, 3) := by decide +kernel
theorem dX0_lookAt_48 : decode cX0_lookAt 48 = .ok (.istore_n 3, 1) := by decide +kernel
theorem dX0_lookAt_49 : decode cX0_lookAt 49 = .ok (.iconst 0, 1) := by decide +kernel
theorem dX0_lookAt_50 : decode cX0_lookAt 50 = .ok (.istore 4, 2) := by decide +kernel
theorem dX0_lookAt_52 : decode cX0_lookAt 52 = .ok (.iload 4, 2) := by decide +kernel
theorem dX0_lookAt_54 : decode cX0_lookAt 54 = .ok (.iconst 1, 1) := by decide +kernel
theorem dX0_lookAt_55 : decode cX0_lookAt 55 = .ok (.iload_n 2, 1) := by decide +kernel
theorem dX0_lookAt_56 : decode cX0_lookAt 56 = .ok (.ishl, 1) := by decide +kernel
theorem dX0_lookAt_57 : decode cX0_lookAt 57 = .ok (.if_icmp .ge 29, 3) := by decide +kernel
theorem dX0_lookAt_60 : decode cX0_lookAt 60 = .ok (.aload_n 0, 1) := by decide +kernel
theorem dX0_lookAt_61 : decode cX0_lookAt 61 = .ok (.getfield 9, 3) := by decide +kernel
theorem dX0_lookAt_64 : decode cX0_lookAt 64 = .ok (.iload 4, 2) := by decide +kernel
theorem dX0_lookAt_66 : decode cX0_lookAt 66 = .ok (.iconst 1, 1) := by decide +kernel
theorem dX0_lookAt_67 : decode cX0_lookAt 67 = .ok (.iload_n 2, 1) := by decide +kernel
theorem dX0_lookAt_68 : decode cX0_lookAt 68 = .ok (.ishl, 1) := by decide +kernel
theorem dX0_lookAt_69 : decode cX0_lookAt 69 = .ok (.ior, 1) := by decide +kernel
theorem dX0_lookAt_70 : decode cX0_lookAt 70 = .ok (.aload_n 0, 1) := by decide +kernel
theorem dX0_lookAt_71 : decode cX0_lookAt 71 = .ok (.getfield 9, 3) := by decide +kernel
theorem dX0_lookAt_74 : decode cX0_lookAt 74 = .ok (.iload 4, 2) := by decide +kernel
theorem dX0_lookAt_76 : decode cX0_lookAt 76 = .ok (.iaload, 1) := by decide +kernel
theorem dX0_lookAt_77 : decode cX0_lookAt 77 = .ok (.iload_n 3, 1) := by decide +kernel
theorem dX0_lookAt_78 : decode cX0_lookAt 78 = .ok (.ior, 1) := by decide +kernel
theorem dX0_lookAt_79 : decode cX0_lookAt 79 = .ok (.iastore, 1) := by decide +kernel
theorem dX0_lookAt_80 : decode cX0_lookAt 80 = .ok (.iinc 4 1, 3) := by decide +kernel
theorem dX0_lookAt_83 : decode cX0_lookAt 83 = .ok (.goto (-31), 3) := by decide +kernel
theorem dX0_lookAt_86 : decode cX0_lookAt 86 = .ok (.iinc 2 1, 3) := by decide +kernel
theorem dX0_lookAt_89 : decode cX0_lookAt 89 = .ok (.goto (-62), 3) := by decide +kernel
theorem dX0_lookAt_92 : decode cX0_lookAt 92 = .ok (.iconst 0, 1) := by decide +kernel
theorem dX0_lookAt_93 : decode cX0_lookAt 93 = .ok (.istore_n 2, 1) := by decide +kernel
theorem dX0_lookAt_94 : decode cX0_lookAt 94 = .ok (.iload_n 2, 1) := by decide +kernel
theorem dX0_lookAt_95 : decode cX0_lookAt 95 = .ok (.aload_n 0, 1) := by decide +kernel
theorem dX0_lookAt_96 : decode cX0_lookAt 96 = .ok (.getfield 37, 3) := by decide +kernel
theorem dX0_lookAt_99 : decode cX0_lookAt 99 = .ok (.if_icmp .ge 36, 3) := by decide +kernel
theorem dX0_lookAt_102 : decode cX0_lookAt 102 = .ok (.aload_n 0, 1) := by decide +kernel
theorem dX0_lookAt_103 : decode cX0_lookAt 103 = .ok (.getfield 15, 3) := by decide +kernel
theorem dX0_lookAt_106 : decode cX0_lookAt 106 = .ok (.iload_n 2, 1) := by decide +kernel
theorem dX0_lookAt_107 : decode cX0_lookAt 107 = .ok (.aload_n 0, 1) := by decide +kernel
theorem dX0_lookAt_108 : decode cX0_lookAt 108 = .ok (.iload_n 2, 1) := by decide +kernel
theorem dX0_lookAt_109 : decode cX0_lookAt 109 = .ok (.invokevirtual 45, 3) := by decide +kernel
theorem dX0_lookAt_112 : decode cX0_lookAt 112 = .ok (.ifCond .gt 15, 3) := by decide +kernel
theorem dX0_lookAt_115 : decode cX0_lookAt 115 = .ok (.aload_n 0, 1) := by decide +kernel
theorem dX0_lookAt_116 : decode cX0_lookAt 116 = .ok (.iload_n 2, 1) := by decide +kernel
theorem dX0_lookAt_117 : decode cX0_lookAt 117 = .ok (.invokevirtual 48, 3) := by decide +kernel
theorem dX0_lookAt_120 : decode cX0_lookAt 120 = .ok (.ifCond .eq 7, 3) := by decide +kernel
theorem dX0_lookAt_123 : decode cX0_lookAt 123 = .ok (.iconst 1, 1) := by decide +kernel
theorem dX0_lookAt_124 : decode cX0_lookAt 124 = .ok (.goto 4, 3) := by decide +kernel
theorem dX0_lookAt_127 : decode cX0_lookAt 127 = .ok (.iconst 0, 1) := by decide +kernel
theorem dX0_lookAt_128 : decode cX0_lookAt 128 = .ok (.bastore, 1) := by decide +kernel
theorem dX0_lookAt_129 : decode cX0_lookAt 129 = .ok (.iinc 2 1, 3) := by decide +kernel
theorem dX0_lookAt_132 : decode cX0_lookAt 132 = .ok (.goto (-38), 3) := by decide +kernel
theorem dX0_lookAt_135 : decode cX0_lookAt 135 = .ok (.return_, 1) := by decide +kernel
theorem dX0_lackOf_0 : decode cX0_lackOf 0 = .ok (.iload_n 1, 1) := by decide +kernel
theorem dX0_lackOf_1 : decode cX0_lackOf 1 = .ok (.iconst 0, 1) := by decide +kernel
theorem dX0_lackOf_2 : decode cX0_lackOf 2 = .ok (.bipush 127, 2) := by decide +kernel
theorem dX0_lackOf_4 : decode cX0_lackOf 4 = .ok (.invokestatic 52, 3) := by decide +kernel
theorem dX0_lackOf_7 : decode cX0_lackOf 7 = .ok (.ifCond .eq 20, 3) := by decide +kernel
theorem dX0_lackOf_10 : decode cX0_lackOf 10 = .ok (.iload_n 1, 1) := by decide +kernel
theorem dX0_lackOf_11 : decode cX0_lackOf 11 = .ok (.invokestatic 56, 3) := by decide +kernel
theorem dX0_lackOf_14 : decode cX0_lackOf 14 = .ok (.aload_n 0, 1) := by decide +kernel
theorem dX0_lackOf_15 : decode cX0_lackOf 15 = .ok (.getfield 9, 3) := by decide +kernel
theorem dX0_lackOf_18 : decode cX0_lackOf 18 = .ok (.iload_n 1, 1) := by decide +kernel
theorem dX0_lackOf_19 : decode cX0_lackOf 19 = .ok (.iaload, 1) := by decide +kernel
theorem dX0_lackOf_20 : decode cX0_lackOf 20 = .ok (.invokestatic 56, 3) := by decide +kernel
theorem dX0_lackOf_23 : decode cX0_lackOf 23 = .ok (.isub, 1) := by decide +kernel
theorem dX0_lackOf_24 : decode cX0_lackOf 24 = .ok (.goto 4, 3) := by decide +kernel
theorem dX0_lackOf_27 : decode cX0_lackOf 27 = .ok (.iconst 0, 1) := by decide +kernel
theorem dX0_lackOf_28 : decode cX0_lackOf 28 = .ok (.ireturn, 1) := by decide +kernel
theorem dX0_areLiddedWithoutOne_0 : decode cX0_areLiddedWithoutOne 0 = .ok (.iconst 0, 1) := by decide +kernel
theorem dX0_areLiddedWithoutOne_1 : decode cX0_areLiddedWithoutOne 1 = .ok (.istore_n 2, 1) := by decide +kernel
theorem dX0_areLiddedWithoutOne_2 : decode cX0_areLiddedWithoutOne 2 = .ok (.iload_n 2, 1) := by decide +kernel
theorem dX0_areLiddedWithoutOne_3 : decode cX0_areLiddedWithoutOne 3 = .ok (.bipush 7, 2) := by decide +kernel
theorem dX0_areLiddedWithoutOne_5 : decode cX0_areLiddedWithoutOne 5 = .ok (.if_icmp .ge 36, 3) := by decide +kernel
theorem dX0_areLiddedWithoutOne_8 : decode cX0_areLiddedWithoutOne 8 = .ok (.iload_n 1, 1) := by decide +kernel
theorem dX0_areLiddedWithoutOne_9 : decode cX0_areLiddedWithoutOne 9 = .ok (.iload_n 2, 1) := by decide +kernel
theorem dX0_areLiddedWithoutOne_10 : decode cX0_areLiddedWithoutOne 10 = .ok (.ishr, 1) := by decide +kernel
theorem dX0_areLiddedWithoutOne_11 : decode cX0_areLiddedWithoutOne 11 = .ok (.iconst 1, 1) := by decide +kernel
theorem dX0_areLiddedWithoutOne_12 : decode cX0_areLiddedWithoutOne 12 = .ok (.iand, 1) := by decide +kernel
theorem dX0_areLiddedWithoutOne_13 : decode cX0_areLiddedWithoutOne 13 = .ok (.iconst 1, 1) := by decide +kernel
theorem dX0_areLiddedWithoutOne_14 : decode cX0_areLiddedWithoutOne 14 = .ok (.if_icmp .ne 21, 3) := by decide +kernel
theorem dX0_areLiddedWithoutOne_17 : decode cX0_areLiddedWithoutOne 17 = .ok (.aload_n 0, 1) := by decide +kernel
theorem dX0_areLiddedWithoutOne_18 : decode cX0_areLiddedWithoutOne 18 = .ok (.getfield 15, 3) := by decide +kernel
theorem dX0_areLiddedWithoutOne_21 : decode cX0_areLiddedWithoutOne 21 = .ok (.iload_n 1, 1) := by decide +kernel
theorem dX0_areLiddedWithoutOne_22 : decode cX0_areLiddedWithoutOne 22 = .ok (.bipush 127, 2) := by decide +kernel
theorem dX0_areLiddedWithoutOne_24 : decode cX0_areLiddedWithoutOne 24 = .ok (.iand, 1) := by decide +kernel
theorem dX0_areLiddedWithoutOne_25 : decode cX0_areLiddedWithoutOne 25 = .ok (.iconst 1, 1) := by decide +kernel
theorem dX0_areLiddedWithoutOne_26 : decode cX0_areLiddedWithoutOne 26 = .ok (.iload_n 2, 1) := by decide +kernel
theorem dX0_areLiddedWithoutOne_27 : decode cX0_areLiddedWithoutOne 27 = .ok (.ishl, 1) := by decide +kernel
theorem dX0_areLiddedWithoutOne_28 : decode cX0_areLiddedWithoutOne 28 = .ok (.ixor, 1) := by decide +kernel
theorem dX0_areLiddedWithoutOne_29 : decode cX0_areLiddedWithoutOne 29 = .ok (.baload, 1) := by decide +kernel
theorem dX0_areLiddedWithoutOne_30 : decode cX0_areLiddedWithoutOne 30 = .ok (.ifCond .ne 5, 3) := by decide +kernel
theorem dX0_areLiddedWithoutOne_33 : decode cX0_areLiddedWithoutOne 33 = .ok (.iconst 0, 1) := by decide +kernel
theorem dX0_areLiddedWithoutOne_34 : decode cX0_areLiddedWithoutOne 34 = .ok (.ireturn, 1) := by decide +kernel
theorem dX0_areLiddedWithoutOne_35 : decode cX0_areLiddedWithoutOne 35 = .ok (.iinc 2 1, 3) := by decide +kernel
theorem dX0_areLiddedWithoutOne_38 : decode cX0_areLiddedWithoutOne 38 = .ok (.goto (-36), 3) := by decide +kernel
theorem dX0_areLiddedWithoutOne_41 : decode cX0_areLiddedWithoutOne 41 = .ok (.iconst 1, 1) := by decide +kernel
theorem dX0_areLiddedWithoutOne_42 : decode cX0_areLiddedWithoutOne 42 = .ok (.ireturn, 1) := by decide +kernel
theorem dX0_shortest_0 : decode cX0_shortest 0 = .ok (.iconst 0, 1) := by decide +kernel
theorem dX0_shortest_1 : decode cX0_shortest 1 = .ok (.istore_n 1, 1) := by decide +kernel
theorem dX0_shortest_2 : decode cX0_shortest 2 = .ok (.iconst 1, 1) := by decide +kernel
theorem dX0_shortest_3 : decode cX0_shortest 3 = .ok (.istore_n 2, 1) := by decide +kernel
theorem dX0_shortest_4 : decode cX0_shortest 4 = .ok (.iload_n 2, 1) := by decide +kernel
theorem dX0_shortest_5 : decode cX0_shortest 5 = .ok (.aload_n 0, 1) := by decide +kernel
theorem dX0_shortest_6 : decode cX0_shortest 6 = .ok (.getfield 37, 3) := by decide +kernel
theorem dX0_shortest_9 : decode cX0_shortest 9 = .ok (.if_icmp .ge 42, 3) := by decide +kernel
theorem dX0_shortest_12 : decode cX0_shortest 12 = .ok (.aload_n 0, 1) := by decide +kernel
theorem dX0_shortest_13 : decode cX0_shortest 13 = .ok (.iload_n 2, 1) := by decide +kernel
theorem dX0_shortest_14 : decode cX0_shortest 14 = .ok (.invokevirtual 45, 3) := by decide +kernel
theorem dX0_shortest_17 : decode cX0_shortest 17 = .ok (.aload_n 0, 1) := by decide +kernel
theorem dX0_shortest_18 : decode cX0_shortest 18 = .ok (.iload_n 1, 1) := by decide +kernel
theorem dX0_shortest_19 : decode cX0_shortest 19 = .ok (.invokevirtual 45, 3) := by decide +kernel
theorem dX0_shortest_22 : decode cX0_shortest 22 = .ok (.isub, 1) := by decide +kernel
theorem dX0_shortest_23 : decode cX0_shortest 23 = .ok (.istore_n 3, 1) := by decide +kernel
theorem dX0_shortest_24 : decode cX0_shortest 24 = .ok (.iload_n 3, 1) := by decide +kernel
theorem dX0_shortest_25 : decode cX0_shortest 25 = .ok (.ifCond .gt 18, 3) := by decide +kernel
theorem dX0_shortest_28 : decode cX0_shortest 28 = .ok (.iload_n 3, 1) := by decide +kernel
theorem dX0_shortest_29 : decode cX0_shortest 29 = .ok (.ifCond .ne 16, 3) := by decide +kernel
theorem dX0_shortest_32 : decode cX0_shortest 32 = .ok (.iload_n 2, 1) := by decide +kernel
theorem dX0_shortest_33 : decode cX0_shortest 33 = .ok (.invokestatic 56, 3) := by decide +kernel
theorem dX0_shortest_36 : decode cX0_shortest 36 = .ok (.iload_n 1, 1) := by decide +kernel
theorem dX0_shortest_37 : decode cX0_shortest 37 = .ok (.invokestatic 56, 3) := by decide +kernel
theorem dX0_shortest_40 : decode cX0_shortest 40 = .ok (.if_icmp .ge 5, 3) := by decide +kernel
theorem dX0_shortest_43 : decode cX0_shortest 43 = .ok (.iload_n 2, 1) := by decide +kernel
theorem dX0_shortest_44 : decode cX0_shortest 44 = .ok (.istore_n 1, 1) := by decide +kernel
theorem dX0_shortest_45 : decode cX0_shortest 45 = .ok (.iinc 2 1, 3) := by decide +kernel
theorem dX0_shortest_48 : decode cX0_shortest 48 = .ok (.goto (-44), 3) := by decide +kernel
theorem dX0_shortest_51 : decode cX0_shortest 51 = .ok (.iload_n 1, 1) := by decide +kernel
theorem dX0_shortest_52 : decode cX0_shortest 52 = .ok (.ireturn, 1) := by decide +kernel
theorem dX0_leastFor_0 : decode cX0_leastFor 0 = .ok (.iconst (-1), 1) := by decide +kernel
theorem dX0_leastFor_1 : decode cX0_leastFor 1 = .ok (.istore_n 3, 1) := by decide +kernel
theorem dX0_leastFor_2 : decode cX0_leastFor 2 = .ok (.ldc 61, 2) := by decide +kernel
theorem dX0_leastFor_4 : decode cX0_leastFor 4 = .ok (.istore 4, 2) := by decide +kernel
theorem dX0_leastFor_6 : decode cX0_leastFor 6 = .ok (.iconst 0, 1) := by decide +kernel
theorem dX0_leastFor_7 : decode cX0_leastFor 7 = .ok (.istore 5, 2) := by decide +kernel
theorem dX0_leastFor_9 : decode cX0_leastFor 9 = .ok (.iload 5, 2) := by decide +kernel
theorem dX0_leastFor_11 : decode cX0_leastFor 11 = .ok (.aload_n 0, 1) := by decide +kernel
theorem dX0_leastFor_12 : decode cX0_leastFor 12 = .ok (.getfield 37, 3) := by decide +kernel
theorem dX0_leastFor_15 : decode cX0_leastFor 15 = .ok (.if_icmp .ge 61, 3) := by decide +kernel
theorem dX0_leastFor_18 : decode cX0_leastFor 18 = .ok (.iload 5, 2) := by decide +kernel
theorem dX0_leastFor_20 : decode cX0_leastFor 20 = .ok (.sipush 128, 3) := by decide +kernel
theorem dX0_leastFor_23 : decode cX0_leastFor 23 = .ok (.if_icmp .ge 53, 3) := by decide +kernel
theorem dX0_leastFor_26 : decode cX0_leastFor 26 = .ok (.aload_n 1, 1) := by decide +kernel
theorem dX0_leastFor_27 : decode cX0_leastFor 27 = .ok (.iload 5, 2) := by decide +kernel
theorem dX0_leastFor_29 : decode cX0_leastFor 29 = .ok (.iconst 1, 1) := by decide +kernel
theorem dX0_leastFor_30 : decode cX0_leastFor 30 = .ok (.invokevirtual 62, 3) := by decide +kernel
theorem dX0_leastFor_33 : decode cX0_leastFor 33 = .ok (.istore 6, 2) := by decide +kernel
theorem dX0_leastFor_35 : decode cX0_leastFor 35 = .ok (.aload_n 0, 1) := by decide +kernel
theorem dX0_leastFor_36 : decode cX0_leastFor 36 = .ok (.getfield 15, 3) := by decide +kernel
theorem dX0_leastFor_39 : decode cX0_leastFor 39 = .ok (.iload 5, 2) := by decide +kernel
theorem dX0_leastFor_41 : decode cX0_leastFor 41 = .ok (.baload, 1) := by decide +kernel
theorem dX0_leastFor_42 : decode cX0_leastFor 42 = .ok (.ifCond .eq 28, 3) := by decide +kernel
theorem dX0_leastFor_45 : decode cX0_leastFor 45 = .ok (.iload 6, 2) := by decide +kernel
theorem dX0_leastFor_47 : decode cX0_leastFor 47 = .ok (.iload 4, 2) := by decide +kernel
theorem dX0_leastFor_49 : decode cX0_leastFor 49 = .ok (.if_icmp .ge 21, 3) := by decide +kernel
theorem dX0_leastFor_52 : decode cX0_leastFor 52 = .ok (.aload_n 1, 1) := by decide +kernel
theorem dX0_leastFor_53 : decode cX0_leastFor 53 = .ok (.iload 5, 2) := by decide +kernel
theorem dX0_leastFor_55 : decode cX0_leastFor 55 = .ok (.iconst 2, 1) := by decide +kernel
theorem dX0_leastFor_56 : decode cX0_leastFor 56 = .ok (.invokevirtual 62, 3) := by decide +kernel
theorem dX0_leastFor_59 : decode cX0_leastFor 59 = .ok (.iload_n 2, 1) := by decide +kernel
theorem dX0_leastFor_60 : decode cX0_leastFor 60 = .ok (.if_icmp .lt 10, 3) := by decide +kernel
theorem dX0_leastFor_63 : decode cX0_leastFor 63 = .ok (.iload 5, 2) := by decide +kernel
theorem dX0_leastFor_65 : decode cX0_leastFor 65 = .ok (.istore_n 3, 1) := by decide +kernel
theorem dX0_leastFor_66 : decode cX0_leastFor 66 = .ok (.iload 6, 2) := by decide +kernel
theorem dX0_leastFor_68 : decode cX0_leastFor 68 = .ok (.istore 4, 2) := by decide +kernel
theorem dX0_leastFor_70 : decode cX0_leastFor 70 = .ok (.iinc 5 1, 3) := by decide +kernel
theorem dX0_leastFor_73 : decode cX0_leastFor 73 = .ok (.goto (-64), 3) := by decide +kernel
theorem dX0_leastFor_76 : decode cX0_leastFor 76 = .ok (.iload_n 3, 1) := by decide +kernel
theorem dX0_leastFor_77 : decode cX0_leastFor 77 = .ok (.ireturn, 1) := by decide +kernel
theorem dX1_init_0 : decode cX1_init 0 = .ok (.aload_n 0, 1) := by decide +kernel
theorem dX1_init_1 : decode cX1_init 1 = .ok (.invokespecial 3, 3) := by decide +kernel
theorem dX1_init_4 : decode cX1_init 4 = .ok (.aload_n 0, 1) := by decide +kernel
theorem dX1_init_5 : decode cX1_init 5 = .ok (.new 9, 3) := by decide +kernel
theorem dX1_init_8 : decode cX1_init 8 = .ok (.dup, 1) := by decide +kernel
theorem dX1_init_9 : decode cX1_init 9 = .ok (.iconst 5, 1) := by decide +kernel
theorem dX1_init_10 : decode cX1_init 10 = .ok (.bipush 7, 2) := by decide +kernel
theorem dX1_init_12 : decode cX1_init 12 = .ok (.invokespecial 11, 3) := by decide +kernel
theorem dX1_init_15 : decode cX1_init 15 = .ok (.putfield 14, 3) := by decide +kernel
theorem dX1_init_18 : decode cX1_init 18 = .ok (.aload_n 0, 1) := by decide +kernel
theorem dX1_init_19 : decode cX1_init 19 = .ok (.new 9, 3) := by decide +kernel
theorem dX1_init_22 : decode cX1_init 22 = .ok (.dup, 1) := by decide +kernel
theorem dX1_init_23 : decode cX1_init 23 = .ok (.iconst 4, 1) := by decide +kernel
theorem dX1_init_24 : decode cX1_init 24 = .ok (.bipush 7, 2) := by decide +kernel
theorem dX1_init_26 : decode cX1_init 26 = .ok (.invokespecial 11, 3) := by decide +kernel
theorem dX1_init_29 : decode cX1_init 29 = .ok (.putfield 20, 3) := by decide +kernel
theorem dX1_init_32 : decode cX1_init 32 = .ok (.aload_n 0, 1) := by decide +kernel
theorem dX1_init_33 : decode cX1_init 33 = .ok (.new 9, 3) := by decide +kernel
theorem dX1_init_36 : decode cX1_init 36 = .ok (.dup, 1) := by decide +kernel
theorem dX1_init_37 : decode cX1_init 37 = .ok (.iconst 4, 1) := by decide +kernel
theorem dX1_init_38 : decode cX1_init 38 = .ok (.iconst 4, 1) := by decide +kernel
theorem dX1_init_39 : decode cX1_init 39 = .ok (.invokespecial 11, 3) := by decide +kernel
theorem dX1_init_42 : decode cX1_init 42 = .ok (.putfield 23, 3) := by decide +kernel
theorem dX1_init_45 : decode cX1_init 45 = .ok (.aload_n 0, 1) := by decide +kernel
theorem dX1_init_46 : decode cX1_init 46 = .ok (.new 9, 3) := by decide +kernel
theorem dX1_init_49 : decode cX1_init 49 = .ok (.dup, 1) := by decide +kernel
theorem dX1_init_50 : decode cX1_init 50 = .ok (.iconst 3, 1) := by decide +kernel
theorem dX1_init_51 : decode cX1_init 51 = .ok (.bipush 8, 2) := by decide +kernel
theorem dX1_init_53 : decode cX1_init 53 = .ok (.invokespecial 11, 3) := by decide +kernel
theorem dX1_init_56 : decode cX1_init 56 = .ok (.putfield 26, 3) := by decide +kernel
theorem dX1_init_59 : decode cX1_init 59 = .ok (.aload_n 0, 1) := by decide +kernel
theorem dX1_init_60 : decode cX1_init 60 = .ok (.new 9, 3) := by decide +kernel
theorem dX1_init_63 : decode cX1_init 63 = .ok (.dup, 1) := by decide +kernel
theorem dX1_init_64 : decode cX1_init 64 = .ok (.iconst 3, 1) := by decide +kernel
theorem dX1_init_65 : decode cX1_init 65 = .ok (.bipush 8, 2) := by decide +kernel
theorem dX1_init_67 : decode cX1_init 67 = .ok (.invokespecial 11, 3) := by decide +kernel
theorem dX1_init_70 : decode cX1_init 70 = .ok (.putfield 29, 3) := by decide +kernel
theorem dX1_init_73 : decode cX1_init 73 = .ok (.aload_n 0, 1) := by decide +kernel
theorem dX1_init_74 : decode cX1_init 74 = .ok (.new 9, 3) := by decide +kernel
theorem dX1_init_77 : decode cX1_init 77 = .ok (.dup, 1) := by decide +kernel
theorem dX1_init_78 : decode cX1_init 78 = .ok (.iconst 3, 1) := by decide +kernel
theorem dX1_init_79 : decode cX1_init 79 = .ok (.bipush 12, 2) := by decide +kernel
theorem dX1_init_81 : decode cX1_init 81 = .ok (.invokespecial 11, 3) := by decide +kernel
theorem dX1_init_84 : decode cX1_init 84 = .ok (.putfield 32, 3) := by decide +kernel
theorem dX1_init_87 : decode cX1_init 87 = .ok (.return_, 1) := by decide +kernel
theorem dX1_empty_0 : decode cX1_empty 0 = .ok (.aload_n 0, 1) := by decide +kernel
theorem dX1_empty_1 : decode cX1_empty 1 = .ok (.getfield 14, 3) := by decide +kernel
theorem dX1_empty_4 : decode cX1_empty 4 = .ok (.invokevirtual 35, 3) := by decide +kernel
theorem dX1_empty_7 : decode cX1_empty 7 = .ok (.pop, 1) := by decide +kernel
theorem dX1_empty_8 : decode cX1_empty 8 = .ok (.aload_n 0, 1) := by decide +kernel
theorem dX1_empty_9 : decode cX1_empty 9 = .ok (.getfield 20, 3) := by decide +kernel
theorem dX1_empty_12 : decode cX1_empty 12 = .ok (.invokevirtual 35, 3) := by decide +kernel
theorem dX1_empty_15 : decode cX1_empty 15 = .ok (.pop, 1) := by decide +kernel
theorem dX1_empty_16 : decode cX1_empty 16 = .ok (.aload_n 0, 1) := by decide +kernel
theorem dX1_empty_17 : decode cX1_empty 17 = .ok (.getfield 23, 3) := by decide +kernel
theorem dX1_empty_20 : decode cX1_empty 20 = .ok (.invokevirtual 35, 3) := by decide +kernel
theorem dX1_empty_23 : decode cX1_empty 23 = .ok (.pop, 1) := by decide +kernel
theorem dX1_empty_24 : decode cX1_empty 24 = .ok (.aload_n 0, 1) := by decide +kernel
theorem dX1_empty_25 : decode cX1_empty 25 = .ok (.getfield 26, 3) := by decide +kernel
theorem dX1_empty_28 : decode cX1_empty 28 = .ok (.invokevirtual 35, 3) := by decide +kernel
theorem dX1_empty_31 : decode cX1_empty 31 = .ok (.pop, 1) := by decide +kernel
theorem dX1_empty_32 : decode cX1_empty 32 = .ok (.aload_n 0, 1) := by decide +kernel
theorem dX1_empty_33 : decode cX1_empty 33 = .ok (.getfield 29, 3) := by decide +kernel
theorem dX1_empty_36 : decode cX1_empty 36 = .ok (.invokevirtual 35, 3) := by decide +kernel
theorem dX1_empty_39 : decode cX1_empty 39 = .ok (.pop, 1) := by decide +kernel
theorem dX1_empty_40 : decode cX1_empty 40 = .ok (.aload_n 0, 1) := by decide +kernel
theorem dX1_empty_41 : decode cX1_empty 41 = .ok (.getfield 32, 3) := by decide +kernel
theorem dX1_empty_44 : decode cX1_empty 44 = .ok (.invokevirtual 35, 3) := by decide +kernel
theorem dX1_empty_47 : decode cX1_empty 47 = .ok (.pop, 1) := by decide +kernel
theorem dX1_empty_48 : decode cX1_empty 48 = .ok (.return_, 1) := by decide +kernel
theorem dX1_become_0 : decode cX1_become 0 = .ok (.aload_n 0, 1) := by decide +kernel
theorem dX1_become_1 : decode cX1_become 1 = .ok (.getfield 14, 3) := by decide +kernel
theorem dX1_become_4 : decode cX1_become 4 = .ok (.aload_n 1, 1) := by decide +kernel
theorem dX1_become_5 : decode cX1_become 5 = .ok (.getfield 14, 3) := by decide +kernel
theorem dX1_become_8 : decode cX1_become 8 = .ok (.invokevirtual 39, 3) := by decide +kernel
theorem dX1_become_11 : decode cX1_become 11 = .ok (.aload_n 0, 1) := by decide +kernel
theorem dX1_become_12 : decode cX1_become 12 = .ok (.getfield 20, 3) := by decide +kernel
theorem dX1_become_15 : decode cX1_become 15 = .ok (.aload_n 1, 1) := by decide +kernel
theorem dX1_become_16 : decode cX1_become 16 = .ok (.getfield 20, 3) := by decide +kernel
theorem dX1_become_19 : decode cX1_become 19 = .ok (.invokevirtual 39, 3) := by decide +kernel
theorem dX1_become_22 : decode cX1_become 22 = .ok (.aload_n 0, 1) := by decide +kernel
theorem dX1_become_23 : decode cX1_become 23 = .ok (.getfield 23, 3) := by decide +kernel
theorem dX1_become_26 : decode cX1_become 26 = .ok (.aload_n 1, 1) := by decide +kernel
theorem dX1_become_27 : decode cX1_become 27 = .ok (.getfield 23, 3) := by decide +kernel
theorem dX1_become_30 : decode cX1_become 30 = .ok (.invokevirtual 39, 3) := by decide +kernel
theorem dX1_become_33 : decode cX1_become 33 = .ok (.aload_n 0, 1) := by decide +kernel
theorem dX1_become_34 : decode cX1_become 34 = .ok (.getfield 26, 3) := by decide +kernel
theorem dX1_become_37 : decode cX1_become 37 = .ok (.aload_n 1, 1) := by decide +kernel
theorem dX1_become_38 : decode cX1_become 38 = .ok (.getfield 26, 3) := by decide +kernel
theorem dX1_become_41 : decode cX1_become 41 = .ok (.invokevirtual 39, 3) := by decide +kernel
theorem dX1_become_44 : decode cX1_become 44 = .ok (.aload_n 0, 1) := by decide +kernel
theorem dX1_become_45 : decode cX1_become 45 = .ok (.getfield 29, 3) := by decide +kernel
theorem dX1_become_48 : decode cX1_become 48 = .ok (.aload_n 1, 1) := by decide +kernel
theorem dX1_become_49 : decode cX1_become 49 = .ok (.getfield 29, 3) := by decide +kernel
theorem dX1_become_52 : decode cX1_become 52 = .ok (.invokevirtual 39, 3) := by decide +kernel
theorem dX1_become_55 : decode cX1_become 55 = .ok (.aload_n 0, 1) := by decide +kernel
theorem dX1_become_56 : decode cX1_become 56 = .ok (.getfield 32, 3) := by decide +kernel
theorem dX1_become_59 : decode cX1_become 59 = .ok (.aload_n 1, 1) := by decide +kernel
theorem dX1_become_60 : decode cX1_become 60 = .ok (.getfield 32, 3) := by decide +kernel
theorem dX1_become_63 : decode cX1_become 63 = .ok (.invokevirtual 39, 3) := by decide +kernel
theorem dX1_become_66 : decode cX1_become 66 = .ok (.return_, 1) := by decide +kernel
theorem dX1_addBox_0 : decode cX1_addBox 0 = .ok (.iload_n 1, 1) := by decide +kernel
theorem dX1_addBox_1 : decode cX1_addBox 1 = .ok (.iload_n 2, 1) := by decide +kernel
theorem dX1_addBox_2 : decode cX1_addBox 2 = .ok (.invokestatic 43, 3) := by decide +kernel
theorem dX1_addBox_5 : decode cX1_addBox 5 = .ok (.ifCond .eq 13, 3) := by decide +kernel
theorem dX1_addBox_8 : decode cX1_addBox 8 = .ok (.iload_n 3, 1) := by decide +kernel
theorem dX1_addBox_9 : decode cX1_addBox 9 = .ok (.iconst 0, 1) := by decide +kernel
theorem dX1_addBox_10 : decode cX1_addBox 10 = .ok (.bipush 20, 2) := by decide +kernel
theorem dX1_addBox_12 : decode cX1_addBox 12 = .ok (.invokestatic 47, 3) := by decide +kernel
theorem dX1_addBox_15 : decode cX1_addBox 15 = .ok (.ifCond .ne 6, 3) := by decide +kernel
theorem dX1_addBox_18 : decode cX1_addBox 18 = .ok (.bipush (-2), 2) := by decide +kernel
theorem dX1_addBox_20 : decode cX1_addBox 20 = .ok (.ireturn, 1) := by decide +kernel
theorem dX1_addBox_21 : decode cX1_addBox 21 = .ok (.aload_n 0, 1) := by decide +kernel
theorem dX1_addBox_22 : decode cX1_addBox 22 = .ok (.getfield 14, 3) := by decide +kernel
theorem dX1_addBox_25 : decode cX1_addBox 25 = .ok (.iload_n 1, 1) := by decide +kernel
theorem dX1_addBox_26 : decode cX1_addBox 26 = .ok (.iload_n 2, 1) := by decide +kernel
theorem dX1_addBox_27 : decode cX1_addBox 27 = .ok (.iload_n 3, 1) := by decide +kernel
theorem dX1_addBox_28 : decode cX1_addBox 28 = .ok (.invokevirtual 51, 3) := by decide +kernel
theorem dX1_addBox_31 : decode cX1_addBox 31 = .ok (.istore 4, 2) := by decide +kernel
theorem dX1_addBox_33 : decode cX1_addBox 33 = .ok (.iload 4, 2) := by decide +kernel
theorem dX1_addBox_35 : decode cX1_addBox 35 = .ok (.ifCond .lt 33, 3) := by decide +kernel
theorem dX1_addBox_38 : decode cX1_addBox 38 = .ok (.aload_n 0, 1) := by decide +kernel
theorem dX1_addBox_39 : decode cX1_addBox 39 = .ok (.getfield 14, 3) := by decide +kernel
theorem dX1_addBox_42 : decode cX1_addBox 42 = .ok (.iload 4, 2) := by decide +kernel
theorem dX1_addBox_44 : decode cX1_addBox 44 = .ok (.iconst 3, 1) := by decide +kernel
theorem dX1_addBox_45 : decode cX1_addBox 45 = .ok (.iconst 1, 1) := by decide +kernel
theorem dX1_addBox_46 : decode cX1_addBox 46 = .ok (.invokevirtual 55, 3) := by decide +kernel
theorem dX1_addBox_49 : decode cX1_addBox 49 = .ok (.aload_n 0, 1) := by decide +kernel
theorem dX1_addBox_50 : decode cX1_addBox 50 = .ok (.getfield 14, 3) := by decide +kernel
theorem dX1_addBox_53 : decode cX1_addBox 53 = .ok (.iload 4, 2) := by decide +kernel
theorem dX1_addBox_55 : decode cX1_addBox 55 = .ok (.iconst 4, 1) := by decide +kernel
theorem dX1_addBox_56 : decode cX1_addBox 56 = .ok (.iconst (-1), 1) := by decide +kernel
theorem dX1_addBox_57 : decode cX1_addBox 57 = .ok (.invokevirtual 55, 3) := by decide +kernel
theorem dX1_addBox_60 : decode cX1_addBox 60 = .ok (.aload_n 0, 1) := by decide +kernel
theorem dX1_addBox_61 : decode cX1_addBox 61 = .ok (.getfield 32, 3) := by decide +kernel
theorem dX1_addBox_64 : decode cX1_addBox 64 = .ok (.invokevirtual 35, 3) := by decide +kernel
theorem dX1_addBox_67 : decode cX1_addBox 67 = .ok (.pop, 1) := by decide +kernel
theorem dX1_addBox_68 : decode cX1_addBox 68 = .ok (.iload 4, 2) := by decide +kernel
theorem dX1_addBox_70 : decode cX1_addBox 70 = .ok (.ireturn, 1) := by decide +kernel
theorem dX1_addLid_0 : decode cX1_addLid 0 = .ok (.iload_n 1, 1) := by decide +kernel
theorem dX1_addLid_1 : decode cX1_addLid 1 = .ok (.invokestatic 59, 3) := by decide +kernel
theorem dX1_addLid_4 : decode cX1_addLid 4 = .ok (.ifCond .eq 11, 3) := by decide +kernel
theorem dX1_addLid_7 : decode cX1_addLid 7 = .ok (.iload_n 2, 1) := by decide +kernel
theorem dX1_addLid_8 : decode cX1_addLid 8 = .ok (.iload_n 3, 1) := by decide +kernel
theorem dX1_addLid_9 : decode cX1_addLid 9 = .ok (.invokestatic 43, 3) := by decide +kernel
theorem dX1_addLid_12 : decode cX1_addLid 12 = .ok (.ifCond .ne 6, 3) := by decide +kernel
theorem dX1_addLid_15 : decode cX1_addLid 15 = .ok (.bipush (-2), 2) := by decide +kernel
theorem dX1_addLid_17 : decode cX1_addLid 17 = .ok (.ireturn, 1) := by decide +kernel
theorem dX1_addLid_18 : decode cX1_addLid 18 = .ok (.aload_n 0, 1) := by decide +kernel
theorem dX1_addLid_19 : decode cX1_addLid 19 = .ok (.getfield 20, 3) := by decide +kernel
theorem dX1_addLid_22 : decode cX1_addLid 22 = .ok (.iload_n 1, 1) := by decide +kernel
theorem dX1_addLid_23 : decode cX1_addLid 23 = .ok (.iload_n 2, 1) := by decide +kernel
theorem dX1_addLid_24 : decode cX1_addLid 24 = .ok (.iload_n 3, 1) := by decide +kernel
theorem dX1_addLid_25 : decode cX1_addLid 25 = .ok (.invokevirtual 51, 3) := by decide +kernel
theorem dX1_addLid_28 : decode cX1_addLid 28 = .ok (.istore 4, 2) := by decide +kernel
theorem dX1_addLid_30 : decode cX1_addLid 30 = .ok (.iload 4, 2) := by decide +kernel
theorem dX1_addLid_32 : decode cX1_addLid 32 = .ok (.ifCond .lt 22, 3) := by decide +kernel
theorem dX1_addLid_35 : decode cX1_addLid 35 = .ok (.aload_n 0, 1) := by decide +kernel
theorem dX1_addLid_36 : decode cX1_addLid 36 = .ok (.getfield 20, 3) := by decide +kernel
theorem dX1_addLid_39 : decode cX1_addLid 39 = .ok (.iload 4, 2) := by decide +kernel
theorem dX1_addLid_41 : decode cX1_addLid 41 = .ok (.iconst 3, 1) := by decide +kernel
theorem dX1_addLid_42 : decode cX1_addLid 42 = .ok (.iconst 5, 1) := by decide +kernel
theorem dX1_addLid_43 : decode cX1_addLid 43 = .ok (.invokevirtual 55, 3) := by decide +kernel
theorem dX1_addLid_46 : decode cX1_addLid 46 = .ok (.aload_n 0, 1) := by decide +kernel
theorem dX1_addLid_47 : decode cX1_addLid 47 = .ok (.getfield 32, 3) := by decide +kernel
theorem dX1_addLid_50 : decode cX1_addLid 50 = .ok (.invokevirtual 35, 3) := by decide +kernel
theorem dX1_addLid_53 : decode cX1_addLid 53 = .ok (.pop, 1) := by decide +kernel
theorem dX1_addLid_54 : decode cX1_addLid 54 = .ok (.iload 4, 2) := by decide +kernel
theorem dX1_addLid_56 : decode cX1_addLid 56 = .ok (.ireturn, 1) := by decide +kernel
theorem dX1_addSort_0 : decode cX1_addSort 0 = .ok (.iload_n 1, 1) := by decide +kernel
theorem dX1_addSort_1 : decode cX1_addSort 1 = .ok (.invokestatic 59, 3) := by decide +kernel
theorem dX1_addSort_4 : decode cX1_addSort 4 = .ok (.ifCond .eq 22, 3) := by decide +kernel
theorem dX1_addSort_7 : decode cX1_addSort 7 = .ok (.iload_n 2, 1) := by decide +kernel
theorem dX1_addSort_8 : decode cX1_addSort 8 = .ok (.iload_n 3, 1) := by decide +kernel
theorem dX1_addSort_9 : decode cX1_addSort 9 = .ok (.invokestatic 43, 3) := by decide +kernel
theorem dX1_addSort_12 : decode cX1_addSort 12 = .ok (.ifCond .eq 14, 3) := by decide +kernel
theorem dX1_addSort_15 : decode cX1_addSort 15 = .ok (.iload 4, 2) := by decide +kernel
theorem dX1_addSort_17 : decode cX1_addSort 17 = .ok (.iconst 1, 1) := by decide +kernel
theorem dX1_addSort_18 : decode cX1_addSort 18 = .ok (.bipush 50, 2) := by decide +kernel
theorem dX1_addSort_20 : decode cX1_addSort 20 = .ok (.invokestatic 47, 3) := by decide +kernel
theorem dX1_addSort_23 : decode cX1_addSort 23 = .ok (.ifCond .ne 6, 3) := by decide +kernel
theorem dX1_addSort_26 : decode cX1_addSort 26 = .ok (.bipush (-2), 2) := by decide +kernel
theorem dX1_addSort_28 : decode cX1_addSort 28 = .ok (.ireturn, 1) := by decide +kernel
theorem dX1_addSort_29 : decode cX1_addSort 29 = .ok (.aload_n 0, 1) := by decide +kernel
theorem dX1_addSort_30 : decode cX1_addSort 30 = .ok (.getfield 23, 3) := by decide +kernel
theorem dX1_addSort_33 : decode cX1_addSort 33 = .ok (.iload_n 1, 1) := by decide +kernel
theorem dX1_addSort_34 : decode cX1_addSort 34 = .ok (.iload_n 2, 1) := by decide +kernel
theorem dX1_addSort_35 : decode cX1_addSort 35 = .ok (.iload_n 3, 1) := by decide +kernel
theorem dX1_addSort_36 : decode cX1_addSort 36 = .ok (.invokevirtual 51, 3) := by decide +kernel
theorem dX1_addSort_39 : decode cX1_addSort 39 = .ok (.istore 5, 2) := by decide +kernel
theorem dX1_addSort_41 : decode cX1_addSort 41 = .ok (.aload_n 0, 1) := by decide +kernel
theorem dX1_addSort_42 : decode cX1_addSort 42 = .ok (.getfield 23, 3) := by decide +kernel
theorem dX1_addSort_45 : decode cX1_addSort 45 = .ok (.iload 5, 2) := by decide +kernel
theorem dX1_addSort_47 : decode cX1_addSort 47 = .ok (.iconst 3, 1) := by decide +kernel
theorem dX1_addSort_48 : decode cX1_addSort 48 = .ok (.iload 4, 2) := by decide +kernel
theorem dX1_addSort_50 : decode cX1_addSort 50 = .ok (.invokevirtual 55, 3) := by decide +kernel
theorem dX1_addSort_53 : decode cX1_addSort 53 = .ok (.iload 5, 2) := by decide +kernel
theorem dX1_addSort_55 : decode cX1_addSort 55 = .ok (.ireturn, 1) := by decide +kernel
theorem dX1_isKind_0 : decode cX1_isKind 0 = .ok (.iload_n 0, 1) := by decide +kernel
theorem dX1_isKind_1 : decode cX1_isKind 1 = .ok (.iconst 0, 1) := by decide +kernel
theorem dX1_isKind_2 : decode cX1_isKind 2 = .ok (.iconst 5, 1) := by decide +kernel
theorem dX1_isKind_3 : decode cX1_isKind 3 = .ok (.invokestatic 47, 3) := by decide +kernel
theorem dX1_isKind_6 : decode cX1_isKind 6 = .ok (.ireturn, 1) := by decide +kernel
theorem dX1_isFormAndSize_0 : decode cX1_isFormAndSize 0 = .ok (.iload_n 0, 1) := by decide +kernel
theorem dX1_isFormAndSize_1 : decode cX1_isFormAndSize 1 = .ok (.iconst 0, 1) := by decide +kernel
theorem dX1_isFormAndSize_2 : decode cX1_isFormAndSize 2 = .ok (.iconst 2, 1) := by decide +kernel
theorem dX1_isFormAndSize_3 : decode cX1_isFormAndSize 3 = .ok (.invokestatic 47, 3) := by decide +kernel
theorem dX1_isFormAndSize_6 : decode cX1_isFormAndSize 6 = .ok (.ifCond .eq 17, 3) := by decide +kernel
theorem dX1_isFormAndSize_9 : decode cX1_isFormAndSize 9 = .ok (.iload_n 1, 1) := by decide +kernel
theorem dX1_isFormAndSize_10 : decode cX1_isFormAndSize 10 = .ok (.iconst 1, 1) := by decide +kernel
theorem dX1_isFormAndSize_11 : decode cX1_isFormAndSize 11 = .ok (.bipush 9, 2) := by decide +kernel
theorem dX1_isFormAndSize_13 : decode cX1_isFormAndSize 13 = .ok (.invokestatic 47, 3) := by decide +kernel
theorem dX1_isFormAndSize_16 : decode cX1_isFormAndSize 16 = .ok (.ifCond .eq 7, 3) := by decide +kernel
theorem dX1_isFormAndSize_19 : decode cX1_isFormAndSize 19 = .ok (.iconst 1, 1) := by decide +kernel
theorem dX1_isFormAndSize_20 : decode cX1_isFormAndSize 20 = .ok (.goto 4, 3) := by decide +kernel
theorem dX1_isFormAndSize_23 : decode cX1_isFormAndSize 23 = .ok (.iconst 0, 1) := by decide +kernel
theorem dX1_isFormAndSize_24 : decode cX1_isFormAndSize 24 = .ok (.ireturn, 1) := by decide +kernel
theorem dX1_putOn_0 : decode cX1_putOn 0 = .ok (.aload_n 0, 1) := by decide +kernel
theorem dX1_putOn_1 : decode cX1_putOn 1 = .ok (.getfield 20, 3) := by decide +kernel
theorem dX1_putOn_4 : decode cX1_putOn 4 = .ok (.iload_n 1, 1) := by decide +kernel
theorem dX1_putOn_5 : decode cX1_putOn 5 = .ok (.invokevirtual 63, 3) := by decide +kernel
theorem dX1_putOn_8 : decode cX1_putOn 8 = .ok (.ifCond .eq 14, 3) := by decide +kernel
theorem dX1_putOn_11 : decode cX1_putOn 11 = .ok (.aload_n 0, 1) := by decide +kernel
theorem dX1_putOn_12 : decode cX1_putOn 12 = .ok (.getfield 14, 3) := by decide +kernel
theorem dX1_putOn_15 : decode cX1_putOn 15 = .ok (.iload_n 2, 1) := by decide +kernel
theorem dX1_putOn_16 : decode cX1_putOn 16 = .ok (.invokevirtual 63, 3) := by decide +kernel
theorem dX1_putOn_19 : decode cX1_putOn 19 = .ok (.ifCond .ne 6, 3) := by decide +kernel
theorem dX1_putOn_22 : decode cX1_putOn 22 = .ok (.bipush (-2), 2) := by decide +kernel
theorem dX1_putOn_24 : decode cX1_putOn 24 = .ok (.ireturn, 1) := by decide +kernel
theorem dX1_putOn_25 : decode cX1_putOn 25 = .ok (.aload_n 0, 1) := by decide +kernel
theorem dX1_putOn_26 : decode cX1_putOn 26 = .ok (.aload_n 0, 1) := by decide +kernel
theorem dX1_putOn_27 : decode cX1_putOn 27 = .ok (.getfield 20, 3) := by decide +kernel
theorem dX1_putOn_30 : decode cX1_putOn 30 = .ok (.iload_n 1, 1) := by decide +kernel
theorem dX1_putOn_31 : decode cX1_putOn 31 = .ok (.iload_n 2, 1) := by decide +kernel
theorem dX1_putOn_32 : decode cX1_putOn 32 = .ok (.invokevirtual 66, 3) := by decide +kernel
theorem dX1_putOn_35 : decode cX1_putOn 35 = .ok (.ifCond .eq 25, 3) := by decide +kernel
theorem dX1_putOn_38 : decode cX1_putOn 38 = .ok (.aload_n 0, 1) := by decide +kernel
theorem dX1_putOn_39 : decode cX1_putOn 39 = .ok (.iload_n 1, 1) := by decide +kernel
theorem dX1_putOn_40 : decode cX1_putOn 40 = .ok (.invokevirtual 70, 3) := by decide +kernel
theorem dX1_putOn_43 : decode cX1_putOn 43 = .ok (.iconst (-1), 1) := by decide +kernel
theorem dX1_putOn_44 : decode cX1_putOn 44 = .ok (.if_icmp .ne 16, 3) := by decide +kernel
theorem dX1_putOn_47 : decode cX1_putOn 47 = .ok (.aload_n 0, 1) := by decide +kernel
theorem dX1_putOn_48 : decode cX1_putOn 48 = .ok (.getfield 14, 3) := by decide +kernel
theorem dX1_putOn_51 : decode cX1_putOn 51 = .ok (.iload_n 2, 1) := by decide +kernel
theorem dX1_putOn_52 : decode cX1_putOn 52 = .ok (.iconst 4, 1) := by decide +kernel
theorem dX1_putOn_53 : decode cX1_putOn 53 = .ok (.invokevirtual 74, 3) := by decide +kernel
theorem dX1_putOn_56 : decode cX1_putOn 56 = .ok (.iconst (-1), 1) := by decide +kernel
theorem dX1_putOn_57 : decode cX1_putOn 57 = .ok (.if_icmp .eq 6, 3) := by decide +kernel
theorem dX1_putOn_60 : decode cX1_putOn 60 = .ok (.bipush (-3), 2) := by decide +kernel
theorem dX1_putOn_62 : decode cX1_putOn 62 = .ok (.ireturn, 1) := by decide +kernel
theorem dX1_putOn_63 : decode cX1_putOn 63 = .ok (.aload_n 0, 1) := by decide +kernel
theorem dX1_putOn_64 : decode cX1_putOn 64 = .ok (.getfield 14, 3) := by decide +kernel
theorem dX1_putOn_67 : decode cX1_putOn 67 = .ok (.iload_n 2, 1) := by decide +kernel
theorem dX1_putOn_68 : decode cX1_putOn 68 = .ok (.iconst 4, 1) := by decide +kernel
theorem dX1_putOn_69 : decode cX1_putOn 69 = .ok (.iload_n 1, 1) := by decide +kernel
theorem dX1_putOn_70 : decode cX1_putOn 70 = .ok (.invokevirtual 55, 3) := by decide +kernel
theorem dX1_putOn_73 : decode cX1_putOn 73 = .ok (.aload_n 0, 1) := by decide +kernel
theorem dX1_putOn_74 : decode cX1_putOn 74 = .ok (.iload_n 1, 1) := by decide +kernel
theorem dX1_putOn_75 : decode cX1_putOn 75 = .ok (.iload_n 2, 1) := by decide +kernel
theorem dX1_putOn_76 : decode cX1_putOn 76 = .ok (.iconst 1, 1) := by decide +kernel
theorem dX1_putOn_77 : decode cX1_putOn 77 = .ok (.invokevirtual 78, 3) := by decide +kernel
theorem dX1_putOn_80 : decode cX1_putOn 80 = .ok (.iconst 1, 1) := by decide +kernel
theorem dX1_putOn_81 : decode cX1_putOn 81 = .ok (.ireturn, 1) := by decide +kernel
theorem dX1_takeOff_0 : decode cX1_takeOff 0 = .ok (.aload_n 0, 1) := by decide +kernel
theorem dX1_takeOff_1 : decode cX1_takeOff 1 = .ok (.getfield 20, 3) := by decide +kernel
theorem dX1_takeOff_4 : decode cX1_takeOff 4 = .ok (.iload_n 1, 1) := by decide +kernel
theorem dX1_takeOff_5 : decode cX1_takeOff 5 = .ok (.invokevirtual 63, 3) := by decide +kernel
theorem dX1_takeOff_8 : decode cX1_takeOff 8 = .ok (.ifCond .ne 6, 3) := by decide +kernel
theorem dX1_takeOff_11 : decode cX1_takeOff 11 = .ok (.bipush (-2), 2) := by decide +kernel
theorem dX1_takeOff_13 : decode cX1_takeOff 13 = .ok (.ireturn, 1) := by decide +kernel
theorem dX1_takeOff_14 : decode cX1_takeOff 14 = .ok (.aload_n 0, 1) := by decide +kernel
theorem dX1_takeOff_15 : decode cX1_takeOff 15 = .ok (.iload_n 1, 1) := by decide +kernel
theorem dX1_takeOff_16 : decode cX1_takeOff 16 = .ok (.invokevirtual 70, 3) := by decide +kernel
theorem dX1_takeOff_19 : decode cX1_takeOff 19 = .ok (.istore_n 2, 1) := by decide +kernel
theorem dX1_takeOff_20 : decode cX1_takeOff 20 = .ok (.iload_n 2, 1) := by decide +kernel
theorem dX1_takeOff_21 : decode cX1_takeOff 21 = .ok (.iconst (-1), 1) := by decide +kernel
theorem dX1_takeOff_22 : decode cX1_takeOff 22 = .ok (.if_icmp .ne 6, 3) := by decide +kernel
theorem dX1_takeOff_25 : decode cX1_takeOff 25 = .ok (.bipush (-3), 2) := by decide +kernel
theorem dX1_takeOff_27 : decode cX1_takeOff 27 = .ok (.ireturn, 1) := by decide +kernel
theorem dX1_takeOff_28 : decode cX1_takeOff 28 = .ok (.aload_n 0, 1) := by decide +kernel
theorem dX1_takeOff_29 : decode cX1_takeOff 29 = .ok (.getfield 14, 3) := by decide +kernel
theorem dX1_takeOff_32 : decode cX1_takeOff 32 = .ok (.iload_n 2, 1) := by decide +kernel
theorem dX1_takeOff_33 : decode cX1_takeOff 33 = .ok (.iconst 4, 1) := by decide +kernel
theorem dX1_takeOff_34 : decode cX1_takeOff 34 = .ok (.iconst (-1), 1) := by decide +kernel
theorem dX1_takeOff_35 : decode cX1_takeOff 35 = .ok (.invokevirtual 55, 3) := by decide +kernel
theorem dX1_takeOff_38 : decode cX1_takeOff 38 = .ok (.aload_n 0, 1) := by decide +kernel
theorem dX1_takeOff_39 : decode cX1_takeOff 39 = .ok (.iload_n 1, 1) := by decide +kernel
theorem dX1_takeOff_40 : decode cX1_takeOff 40 = .ok (.iload_n 2, 1) := by decide +kernel
theorem dX1_takeOff_41 : decode cX1_takeOff 41 = .ok (.iconst 0, 1) := by decide +kernel
theorem dX1_takeOff_42 : decode cX1_takeOff 42 = .ok (.invokevirtual 78, 3) := by decide +kernel
theorem dX1_takeOff_45 : decode cX1_takeOff 45 = .ok (.iload_n 2, 1) := by decide +kernel
theorem dX1_takeOff_46 : decode cX1_takeOff 46 = .ok (.ireturn, 1) := by decide +kernel
theorem dX1_remember_0 : decode cX1_remember 0 = .ok (.aload_n 0, 1) := by decide +kernel
theorem dX1_remember_1 : decode cX1_remember 1 = .ok (.getfield 32, 3) := by decide +kernel
theorem dX1_remember_4 : decode cX1_remember 4 = .ok (.invokevirtual 81, 3) := by decide +kernel
theorem dX1_remember_7 : decode cX1_remember 7 = .ok (.bipush 12, 2) := by decide +kernel
theorem dX1_remember_9 : decode cX1_remember 9 = .ok (.if_icmp .lt 10, 3) := by decide +kernel
theorem dX1_remember_12 : decode cX1_remember 12 = .ok (.aload_n 0, 1) := by decide +kernel
theorem dX1_remember_13 : decode cX1_remember 13 = .ok (.getfield 32, 3) := by decide +kernel
theorem dX1_remember_16 : decode cX1_remember 16 = .ok (.invokevirtual 84, 3) := by decide +kernel
theorem dX1_remember_19 : decode cX1_remember 19 = .ok (.aload_n 0, 1) := by decide +kernel
theorem dX1_remember_20 : decode cX1_remember 20 = .ok (.getfield 32, 3) := by decide +kernel
theorem dX1_remember_23 : decode cX1_remember 23 = .ok (.iload_n 1, 1) := by decide +kernel
theorem dX1_remember_24 : decode cX1_remember 24 = .ok (.iload_n 2, 1) := by decide +kernel
theorem dX1_remember_25 : decode cX1_remember 25 = .ok (.iload_n 3, 1) := by decide +kernel
theorem dX1_remember_26 : decode cX1_remember 26 = .ok (.invokevirtual 51, 3) := by decide +kernel
theorem dX1_remember_29 : decode cX1_remember 29 = .ok (.pop, 1) := by decide +kernel
theorem dX1_remember_30 : decode cX1_remember 30 = .ok (.return_, 1) := by decide +kernel
theorem dX1_stepBack_0 : decode cX1_stepBack 0 = .ok (.aload_n 0, 1) := by decide +kernel
theorem dX1_stepBack_1 : decode cX1_stepBack 1 = .ok (.getfield 32, 3) := by decide +kernel
theorem dX1_stepBack_4 : decode cX1_stepBack 4 = .ok (.invokevirtual 81, 3) := by decide +kernel
theorem dX1_stepBack_7 : decode cX1_stepBack 7 = .ok (.iconst 1, 1) := by decide +kernel
theorem dX1_stepBack_8 : decode cX1_stepBack 8 = .ok (.isub, 1) := by decide +kernel
theorem dX1_stepBack_9 : decode cX1_stepBack 9 = .ok (.istore_n 1, 1) := by decide +kernel
theorem dX1_stepBack_10 : decode cX1_stepBack 10 = .ok (.iload_n 1, 1) := by decide +kernel
theorem dX1_stepBack_11 : decode cX1_stepBack 11 = .ok (.ifCond .ge 6, 3) := by decide +kernel
theorem dX1_stepBack_14 : decode cX1_stepBack 14 = .ok (.bipush (-3), 2) := by decide +kernel
theorem dX1_stepBack_16 : decode cX1_stepBack 16 = .ok (.ireturn, 1) := by decide +kernel
theorem dX1_stepBack_17 : decode cX1_stepBack 17 = .ok (.aload_n 0, 1) := by decide +kernel
theorem dX1_stepBack_18 : decode cX1_stepBack 18 = .ok (.getfield 32, 3) := by decide +kernel
theorem dX1_stepBack_21 : decode cX1_stepBack 21 = .ok (.iload_n 1, 1) := by decide +kernel
theorem dX1_stepBack_22 : decode cX1_stepBack 22 = .ok (.iconst 2, 1) := by decide +kernel
theorem dX1_stepBack_23 : decode cX1_stepBack 23 = .ok (.invokevirtual 74, 3) := by decide +kernel
theorem dX1_stepBack_26 : decode cX1_stepBack 26 = .ok (.iconst 1, 1) := by decide +kernel
theorem dX1_stepBack_27 : decode cX1_stepBack 27 = .ok (.if_icmp .ne 7, 3) := by decide +kernel
theorem dX1_stepBack_30 : decode cX1_stepBack 30 = .ok (.iconst 1, 1) := by decide +kernel
theorem dX1_stepBack_31 : decode cX1_stepBack 31 = .ok (.goto 4, 3) := by decide +kernel
theorem dX1_stepBack_34 : decode cX1_stepBack 34 = .ok (.iconst 0, 1) := by decide +kernel
theorem dX1_stepBack_35 : decode cX1_stepBack 35 = .ok (.istore_n 2, 1) := by decide +kernel
theorem dX1_stepBack_36 : decode cX1_stepBack 36 = .ok (.aload_n 0, 1) := by decide +kernel
theorem dX1_stepBack_37 : decode cX1_stepBack 37 = .ok (.getfield 14, 3) := by decide +kernel
theorem dX1_stepBack_40 : decode cX1_stepBack 40 = .ok (.aload_n 0, 1) := by decide +kernel
theorem dX1_stepBack_41 : decode cX1_stepBack 41 = .ok (.getfield 32, 3) := by decide +kernel
theorem dX1_stepBack_44 : decode cX1_stepBack 44 = .ok (.iload_n 1, 1) := by decide +kernel
theorem dX1_stepBack_45 : decode cX1_stepBack 45 = .ok (.iconst 1, 1) := by decide +kernel
theorem dX1_stepBack_46 : decode cX1_stepBack 46 = .ok (.invokevirtual 74, 3) := by decide +kernel
theorem dX1_stepBack_49 : decode cX1_stepBack 49 = .ok (.iconst 4, 1) := by decide +kernel
theorem dX1_stepBack_50 : decode cX1_stepBack 50 = .ok (.iload_n 2, 1) := by decide +kernel
theorem dX1_stepBack_51 : decode cX1_stepBack 51 = .ok (.ifCond .eq 7, 3) := by decide +kernel
theorem dX1_stepBack_54 : decode cX1_stepBack 54 = .ok (.iconst (-1), 1) := by decide +kernel
theorem dX1_stepBack_55 : decode cX1_stepBack 55 = .ok (.goto 12, 3) := by decide +kernel
theorem dX1_stepBack_58 : decode cX1_stepBack 58 = .ok (.aload_n 0, 1) := by decide +kernel
theorem dX1_stepBack_59 : decode cX1_stepBack 59 = .ok (.getfield 32, 3) := by decide +kernel
theorem dX1_stepBack_62 : decode cX1_stepBack 62 = .ok (.iload_n 1, 1) := by decide +kernel
theorem dX1_stepBack_63 : decode cX1_stepBack 63 = .ok (.iconst 0, 1) := by decide +kernel
theorem dX1_stepBack_64 : decode cX1_stepBack 64 = .ok (.invokevirtual 74, 3) := by decide +kernel
theorem dX1_stepBack_67 : decode cX1_stepBack 67 = .ok (.invokevirtual 55, 3) := by decide +kernel
theorem dX1_stepBack_70 : decode cX1_stepBack 70 = .ok (.aload_n 0, 1) := by decide +kernel
theorem dX1_stepBack_71 : decode cX1_stepBack 71 = .ok (.getfield 32, 3) := by decide +kernel
theorem dX1_stepBack_74 : decode cX1_stepBack 74 = .ok (.invokevirtual 87, 3) := by decide +kernel
theorem dX1_stepBack_77 : decode cX1_stepBack 77 = .ok (.iconst 1, 1) := by decide +kernel
theorem dX1_stepBack_78 : decode cX1_stepBack 78 = .ok (.ireturn, 1) := by decide +kernel
theorem dX1_boxUnder_0 : decode cX1_boxUnder 0 = .ok (.iconst 0, 1) := by decide +kernel
theorem dX1_boxUnder_1 : decode cX1_boxUnder 1 = .ok (.istore_n 2, 1) := by decide +kernel
theorem dX1_boxUnder_2 : decode cX1_boxUnder 2 = .ok (.iload_n 2, 1) := by decide +kernel
theorem dX1_boxUnder_3 : decode cX1_boxUnder 3 = .ok (.aload_n 0, 1) := by decide +kernel
theorem dX1_boxUnder_4 : decode cX1_boxUnder 4 = .ok (.getfield 14, 3) := by decide +kernel
theorem dX1_boxUnder_7 : decode cX1_boxUnder 7 = .ok (.invokevirtual 81, 3) := by decide +kernel
theorem dX1_boxUnder_10 : decode cX1_boxUnder 10 = .ok (.if_icmp .ge 24, 3) := by decide +kernel
theorem dX1_boxUnder_13 : decode cX1_boxUnder 13 = .ok (.aload_n 0, 1) := by decide +kernel
theorem dX1_boxUnder_14 : decode cX1_boxUnder 14 = .ok (.getfield 14, 3) := by decide +kernel
theorem dX1_boxUnder_17 : decode cX1_boxUnder 17 = .ok (.iload_n 2, 1) := by decide +kernel
theorem dX1_boxUnder_18 : decode cX1_boxUnder 18 = .ok (.iconst 4, 1) := by decide +kernel
theorem dX1_boxUnder_19 : decode cX1_boxUnder 19 = .ok (.invokevirtual 74, 3) := by decide +kernel
theorem dX1_boxUnder_22 : decode cX1_boxUnder 22 = .ok (.iload_n 1, 1) := by decide +kernel
theorem dX1_boxUnder_23 : decode cX1_boxUnder 23 = .ok (.if_icmp .ne 5, 3) := by decide +kernel
theorem dX1_boxUnder_26 : decode cX1_boxUnder 26 = .ok (.iload_n 2, 1) := by decide +kernel
theorem dX1_boxUnder_27 : decode cX1_boxUnder 27 = .ok (.ireturn, 1) := by decide +kernel
theorem dX1_boxUnder_28 : decode cX1_boxUnder 28 = .ok (.iinc 2 1, 3) := by decide +kernel
theorem dX1_boxUnder_31 : decode cX1_boxUnder 31 = .ok (.goto (-29), 3) := by decide +kernel
theorem dX1_boxUnder_34 : decode cX1_boxUnder 34 = .ok (.iconst (-1), 1) := by decide +kernel
theorem dX1_boxUnder_35 : decode cX1_boxUnder 35 = .ok (.ireturn, 1) := by decide +kernel
theorem dX1_lidsInUse_0 : decode cX1_lidsInUse 0 = .ok (.iconst 0, 1) := by decide +kernel
theorem dX1_lidsInUse_1 : decode cX1_lidsInUse 1 = .ok (.istore_n 1, 1) := by decide +kernel
theorem dX1_lidsInUse_2 : decode cX1_lidsInUse 2 = .ok (.iconst 0, 1) := by decide +kernel
theorem dX1_lidsInUse_3 : decode cX1_lidsInUse 3 = .ok (.istore_n 2, 1) := by decide +kernel
theorem dX1_lidsInUse_4 : decode cX1_lidsInUse 4 = .ok (.iload_n 2, 1) := by decide +kernel
theorem dX1_lidsInUse_5 : decode cX1_lidsInUse 5 = .ok (.aload_n 0, 1) := by decide +kernel
theorem dX1_lidsInUse_6 : decode cX1_lidsInUse 6 = .ok (.getfield 14, 3) := by decide +kernel
theorem dX1_lidsInUse_9 : decode cX1_lidsInUse 9 = .ok (.invokevirtual 81, 3) := by decide +kernel
theorem dX1_lidsInUse_12 : decode cX1_lidsInUse 12 = .ok (.if_icmp .ge 25, 3) := by decide +kernel
theorem dX1_lidsInUse_15 : decode cX1_lidsInUse 15 = .ok (.aload_n 0, 1) := by decide +kernel
theorem dX1_lidsInUse_16 : decode cX1_lidsInUse 16 = .ok (.getfield 14, 3) := by decide +kernel
theorem dX1_lidsInUse_19 : decode cX1_lidsInUse 19 = .ok (.iload_n 2, 1) := by decide +kernel
theorem dX1_lidsInUse_20 : decode cX1_lidsInUse 20 = .ok (.iconst 4, 1) := by decide +kernel
theorem dX1_lidsInUse_21 : decode cX1_lidsInUse 21 = .ok (.invokevirtual 74, 3) := by decide +kernel
theorem dX1_lidsInUse_24 : decode cX1_lidsInUse 24 = .ok (.iconst (-1), 1) := by decide +kernel
theorem dX1_lidsInUse_25 : decode cX1_lidsInUse 25 = .ok (.if_icmp .eq 6, 3) := by decide +kernel
theorem dX1_lidsInUse_28 : decode cX1_lidsInUse 28 = .ok (.iinc 1 1, 3) := by decide +kernel
theorem dX1_lidsInUse_31 : decode cX1_lidsInUse 31 = .ok (.iinc 2 1, 3) := by decide +kernel
theorem dX1_lidsInUse_34 : decode cX1_lidsInUse 34 = .ok (.goto (-30), 3) := by decide +kernel
theorem dX1_lidsInUse_37 : decode cX1_lidsInUse 37 = .ok (.iload_n 1, 1) := by decide +kernel
theorem dX1_lidsInUse_38 : decode cX1_lidsInUse 38 = .ok (.ireturn, 1) := by decide +kernel
theorem dX1_changeGrasps_0 : decode cX1_changeGrasps 0 = .ok (.aload_n 0, 1) := by decide +kernel
theorem dX1_changeGrasps_1 : decode cX1_changeGrasps 1 = .ok (.getfield 14, 3) := by decide +kernel
theorem dX1_changeGrasps_4 : decode cX1_changeGrasps 4 = .ok (.iload_n 1, 1) := by decide +kernel
theorem dX1_changeGrasps_5 : decode cX1_changeGrasps 5 = .ok (.invokevirtual 63, 3) := by decide +kernel
theorem dX1_changeGrasps_8 : decode cX1_changeGrasps 8 = .ok (.ifCond .eq 13, 3) := by decide +kernel
theorem dX1_changeGrasps_11 : decode cX1_changeGrasps 11 = .ok (.iload_n 2, 1) := by decide +kernel
theorem dX1_changeGrasps_12 : decode cX1_changeGrasps 12 = .ok (.iconst 0, 1) := by decide +kernel
theorem dX1_changeGrasps_13 : decode cX1_changeGrasps 13 = .ok (.bipush 9, 2) := by decide +kernel
theorem dX1_changeGrasps_15 : decode cX1_changeGrasps 15 = .ok (.invokestatic 47, 3) := by decide +kernel
theorem dX1_changeGrasps_18 : decode cX1_changeGrasps 18 = .ok (.ifCond .ne 6, 3) := by decide +kernel
theorem dX1_changeGrasps_21 : decode cX1_changeGrasps 21 = .ok (.bipush (-2), 2) := by decide +kernel
theorem dX1_changeGrasps_23 : decode cX1_changeGrasps 23 = .ok (.ireturn, 1) := by decide +kernel
theorem dX1_changeGrasps_24 : decode cX1_changeGrasps 24 = .ok (.aload_n 0, 1) := by decide +kernel
theorem dX1_changeGrasps_25 : decode cX1_changeGrasps 25 = .ok (.getfield 14, 3) := by decide +kernel
theorem dX1_changeGrasps_28 : decode cX1_changeGrasps 28 = .ok (.iload_n 1, 1) := by decide +kernel
theorem dX1_changeGrasps_29 : decode cX1_changeGrasps 29 = .ok (.iconst 3, 1) := by decide +kernel
theorem dX1_changeGrasps_30 : decode cX1_changeGrasps 30 = .ok (.invokevirtual 74, 3) := by decide +kernel
theorem dX1_changeGrasps_33 : decode cX1_changeGrasps 33 = .ok (.istore_n 3, 1) := by decide +kernel
theorem dX1_changeGrasps_34 : decode cX1_changeGrasps 34 = .ok (.aload_n 0, 1) := by decide +kernel
theorem dX1_changeGrasps_35 : decode cX1_changeGrasps 35 = .ok (.getfield 14, 3) := by decide +kernel
theorem dX1_changeGrasps_38 : decode cX1_changeGrasps 38 = .ok (.iload_n 1, 1) := by decide +kernel
theorem dX1_changeGrasps_39 : decode cX1_changeGrasps 39 = .ok (.iconst 3, 1) := by decide +kernel
theorem dX1_changeGrasps_40 : decode cX1_changeGrasps 40 = .ok (.iload_n 2, 1) := by decide +kernel
theorem dX1_changeGrasps_41 : decode cX1_changeGrasps 41 = .ok (.invokevirtual 55, 3) := by decide +kernel
theorem dX1_changeGrasps_44 : decode cX1_changeGrasps 44 = .ok (.iload_n 3, 1) := by decide +kernel
theorem dX1_changeGrasps_45 : decode cX1_changeGrasps 45 = .ok (.ireturn, 1) := by decide +kernel
theorem dX1_changeChance_0 : decode cX1_changeChance 0 = .ok (.aload_n 0, 1) := by decide +kernel
theorem dX1_changeChance_1 : decode cX1_changeChance 1 = .ok (.getfield 20, 3) := by decide +kernel
theorem dX1_changeChance_4 : decode cX1_changeChance 4 = .ok (.iload_n 1, 1) := by decide +kernel
theorem dX1_changeChance_5 : decode cX1_changeChance 5 = .ok (.invokevirtual 63, 3) := by decide +kernel
theorem dX1_changeChance_8 : decode cX1_changeChance 8 = .ok (.ifCond .eq 13, 3) := by decide +kernel
theorem dX1_changeChance_11 : decode cX1_changeChance 11 = .ok (.iload_n 2, 1) := by decide +kernel
theorem dX1_changeChance_12 : decode cX1_changeChance 12 = .ok (.iconst 0, 1) := by decide +kernel
theorem dX1_changeChance_13 : decode cX1_changeChance 13 = .ok (.bipush 10, 2) := by decide +kernel
theorem dX1_changeChance_15 : decode cX1_changeChance 15 = .ok (.invokestatic 47, 3) := by decide +kernel
theorem dX1_changeChance_18 : decode cX1_changeChance 18 = .ok (.ifCond .ne 6, 3) := by decide +kernel
theorem dX1_changeChance_21 : decode cX1_changeChance 21 = .ok (.bipush (-2), 2) := by decide +kernel
theorem dX1_changeChance_23 : decode cX1_changeChance 23 = .ok (.ireturn, 1) := by decide +kernel
theorem dX1_changeChance_24 : decode cX1_changeChance 24 = .ok (.aload_n 0, 1) := by decide +kernel
theorem dX1_changeChance_25 : decode cX1_changeChance 25 = .ok (.getfield 20, 3) := by decide +kernel
theorem dX1_changeChance_28 : decode cX1_changeChance 28 = .ok (.iload_n 1, 1) := by decide +kernel
theorem dX1_changeChance_29 : decode cX1_changeChance 29 = .ok (.iconst 3, 1) := by decide +kernel
theorem dX1_changeChance_30 : decode cX1_changeChance 30 = .ok (.invokevirtual 74, 3) := by decide +kernel
theorem dX1_changeChance_33 : decode cX1_changeChance 33 = .ok (.istore_n 3, 1) := by decide +kernel
theorem dX1_changeChance_34 : decode cX1_changeChance 34 = .ok (.aload_n 0, 1) := by decide +kernel
theorem dX1_changeChance_35 : decode cX1_changeChance 35 = .ok (.getfield 20, 3) := by decide +kernel
theorem dX1_changeChance_38 : decode cX1_changeChance 38 = .ok (.iload_n 1, 1) := by decide +kernel
theorem dX1_changeChance_39 : decode cX1_changeChance 39 = .ok (.iconst 3, 1) := by decide +kernel
theorem dX1_changeChance_40 : decode cX1_changeChance 40 = .ok (.iload_n 2, 1) := by decide +kernel
theorem dX1_changeChance_41 : decode cX1_changeChance 41 = .ok (.invokevirtual 55, 3) := by decide +kernel
theorem dX1_changeChance_44 : decode cX1_changeChance 44 = .ok (.iload_n 3, 1) := by decide +kernel
theorem dX1_changeChance_45 : decode cX1_changeChance 45 = .ok (.ireturn, 1) := by decide +kernel
theorem dX1_firstSureLid_0 : decode cX1_firstSureLid 0 = .ok (.iconst 0, 1) := by decide +kernel
theorem dX1_firstSureLid_1 : decode cX1_firstSureLid 1 = .ok (.istore_n 1, 1) := by decide +kernel
theorem dX1_firstSureLid_2 : decode cX1_firstSureLid 2 = .ok (.iload_n 1, 1) := by decide +kernel
theorem dX1_firstSureLid_3 : decode cX1_firstSureLid 3 = .ok (.aload_n 0, 1) := by decide +kernel
theorem dX1_firstSureLid_4 : decode cX1_firstSureLid 4 = .ok (.getfield 20, 3) := by decide +kernel
theorem dX1_firstSureLid_7 : decode cX1_firstSureLid 7 = .ok (.invokevirtual 81, 3) := by decide +kernel
theorem dX1_firstSureLid_10 : decode cX1_firstSureLid 10 = .ok (.if_icmp .ge 25, 3) := by decide +kernel
theorem dX1_firstSureLid_13 : decode cX1_firstSureLid 13 = .ok (.aload_n 0, 1) := by decide +kernel
theorem dX1_firstSureLid_14 : decode cX1_firstSureLid 14 = .ok (.getfield 20, 3) := by decide +kernel
theorem dX1_firstSureLid_17 : decode cX1_firstSureLid 17 = .ok (.iload_n 1, 1) := by decide +kernel
theorem dX1_firstSureLid_18 : decode cX1_firstSureLid 18 = .ok (.iconst 3, 1) := by decide +kernel
theorem dX1_firstSureLid_19 : decode cX1_firstSureLid 19 = .ok (.invokevirtual 74, 3) := by decide +kernel
theorem dX1_firstSureLid_22 : decode cX1_firstSureLid 22 = .ok (.bipush 10, 2) := by decide +kernel
theorem dX1_firstSureLid_24 : decode cX1_firstSureLid 24 = .ok (.if_icmp .ne 5, 3) := by decide +kernel
theorem dX1_firstSureLid_27 : decode cX1_firstSureLid 27 = .ok (.iload_n 1, 1) := by decide +kernel
theorem dX1_firstSureLid_28 : decode cX1_firstSureLid 28 = .ok (.ireturn, 1) := by decide +kernel
theorem dX1_firstSureLid_29 : decode cX1_firstSureLid 29 = .ok (.iinc 1 1, 3) := by decide +kernel
theorem dX1_firstSureLid_32 : decode cX1_firstSureLid 32 = .ok (.goto (-30), 3) := by decide +kernel
theorem dX1_firstSureLid_35 : decode cX1_firstSureLid 35 = .ok (.iconst (-1), 1) := by decide +kernel
theorem dX1_firstSureLid_36 : decode cX1_firstSureLid 36 = .ok (.ireturn, 1) := by decide +kernel
theorem dX1_rowFits_0 : decode cX1_rowFits 0 = .ok (.aload_n 0, 1) := by decide +kernel
theorem dX1_rowFits_1 : decode cX1_rowFits 1 = .ok (.getfield 14, 3) := by decide +kernel
theorem dX1_rowFits_4 : decode cX1_rowFits 4 = .ok (.iload_n 3, 1) := by decide +kernel
theorem dX1_rowFits_5 : decode cX1_rowFits 5 = .ok (.iconst 0, 1) := by decide +kernel
theorem dX1_rowFits_6 : decode cX1_rowFits 6 = .ok (.invokevirtual 74, 3) := by decide +kernel
theorem dX1_rowFits_9 : decode cX1_rowFits 9 = .ok (.istore 4, 2) := by decide +kernel
theorem dX1_rowFits_11 : decode cX1_rowFits 11 = .ok (.aload_n 1, 1) := by decide +kernel
theorem dX1_rowFits_12 : decode cX1_rowFits 12 = .ok (.iload_n 2, 1) := by decide +kernel
theorem dX1_rowFits_13 : decode cX1_rowFits 13 = .ok (.iconst 2, 1) := by decide +kernel
theorem dX1_rowFits_14 : decode cX1_rowFits 14 = .ok (.invokevirtual 74, 3) := by decide +kernel
theorem dX1_rowFits_17 : decode cX1_rowFits 17 = .ok (.aload_n 0, 1) := by decide +kernel
theorem dX1_rowFits_18 : decode cX1_rowFits 18 = .ok (.getfield 14, 3) := by decide +kernel
theorem dX1_rowFits_21 : decode cX1_rowFits 21 = .ok (.iload_n 3, 1) := by decide +kernel
theorem dX1_rowFits_22 : decode cX1_rowFits 22 = .ok (.iconst 1, 1) := by decide +kernel
theorem dX1_rowFits_23 : decode cX1_rowFits 23 = .ok (.invokevirtual 74, 3) := by decide +kernel
theorem dX1_rowFits_26 : decode cX1_rowFits 26 = .ok (.isub, 1) := by decide +kernel
theorem dX1_rowFits_27 : decode cX1_rowFits 27 = .ok (.istore 5, 2) := by decide +kernel
theorem dX1_rowFits_29 : decode cX1_rowFits 29 = .ok (.aload_n 1, 1) := by decide +kernel
theorem dX1_rowFits_30 : decode cX1_rowFits 30 = .ok (.iload_n 2, 1) := by decide +kernel
theorem dX1_rowFits_31 : decode cX1_rowFits 31 = .ok (.iconst 1, 1) := by decide +kernel
theorem dX1_rowFits_32 : decode cX1_rowFits 32 = .ok (.invokevirtual 74, 3) := by decide +kernel
theorem dX1_rowFits_35 : decode cX1_rowFits 35 = .ok (.iload 4, 2) := by decide +kernel
theorem dX1_rowFits_37 : decode cX1_rowFits 37 = .ok (.if_icmp .ne 7, 3) := by decide +kernel
theorem dX1_rowFits_40 : decode cX1_rowFits 40 = .ok (.iconst 1, 1) := by decide +kernel
theorem dX1_rowFits_41 : decode cX1_rowFits 41 = .ok (.goto 4, 3) := by decide +kernel
theorem dX1_rowFits_44 : decode cX1_rowFits 44 = .ok (.iconst 0, 1) := by decide +kernel
theorem dX1_rowFits_45 : decode cX1_rowFits 45 = .ok (.istore 6, 2) := by decide +kernel
theorem dX1_rowFits_47 : decode cX1_rowFits 47 = .ok (.iload 6, 2) := by decide +kernel
theorem dX1_rowFits_49 : decode cX1_rowFits 49 = .ok (.ifCond .eq 12, 3) := by decide +kernel
theorem dX1_rowFits_52 : decode cX1_rowFits 52 = .ok (.iload 5, 2) := by decide +kernel
theorem dX1_rowFits_54 : decode cX1_rowFits 54 = .ok (.ifCond .ne 7, 3) := by decide +kernel
theorem dX1_rowFits_57 : decode cX1_rowFits 57 = .ok (.iconst 1, 1) := by decide +kernel
theorem dX1_rowFits_58 : decode cX1_rowFits 58 = .ok (.goto 4, 3) := by decide +kernel
theorem dX1_rowFits_61 : decode cX1_rowFits 61 = .ok (.iconst 0, 1) := by decide +kernel
theorem dX1_rowFits_62 : decode cX1_rowFits 62 = .ok (.istore 7, 2) := by decide +kernel
theorem dX1_rowFits_64 : decode cX1_rowFits 64 = .ok (.iload 7, 2) := by decide +kernel
theorem dX1_rowFits_66 : decode cX1_rowFits 66 = .ok (.ifCond .ne 14, 3) := by decide +kernel
theorem dX1_rowFits_69 : decode cX1_rowFits 69 = .ok (.iload 6, 2) := by decide +kernel
theorem dX1_rowFits_71 : decode cX1_rowFits 71 = .ok (.ifCond .eq 13, 3) := by decide +kernel
theorem dX1_rowFits_74 : decode cX1_rowFits 74 = .ok (.iload 5, 2) := by decide +kernel
theorem dX1_rowFits_76 : decode cX1_rowFits 76 = .ok (.iconst 1, 1) := by decide +kernel
theorem dX1_rowFits_77 : decode cX1_rowFits 77 = .ok (.if_icmp .ne 7, 3) := by decide +kernel
theorem dX1_rowFits_80 : decode cX1_rowFits 80 = .ok (.iconst 1, 1) := by decide +kernel
theorem dX1_rowFits_81 : decode cX1_rowFits 81 = .ok (.goto 4, 3) := by decide +kernel
theorem dX1_rowFits_84 : decode cX1_rowFits 84 = .ok (.iconst 0, 1) := by decide +kernel
theorem dX1_rowFits_85 : decode cX1_rowFits 85 = .ok (.istore 8, 2) := by decide +kernel
theorem dX1_rowFits_87 : decode cX1_rowFits 87 = .ok (.iload 8, 2) := by decide +kernel
theorem dX1_rowFits_89 : decode cX1_rowFits 89 = .ok (.ifCond .ne 8, 3) := by decide +kernel
theorem dX1_rowFits_92 : decode cX1_rowFits 92 = .ok (.iload 5, 2) := by decide +kernel
theorem dX1_rowFits_94 : decode cX1_rowFits 94 = .ok (.ifCond .ne 7, 3) := by decide +kernel
theorem dX1_rowFits_97 : decode cX1_rowFits 97 = .ok (.iconst 1, 1) := by decide +kernel
theorem dX1_rowFits_98 : decode cX1_rowFits 98 = .ok (.goto 4, 3) := by decide +kernel
theorem dX1_rowFits_101 : decode cX1_rowFits 101 = .ok (.iconst 0, 1) := by decide +kernel
theorem dX1_rowFits_102 : decode cX1_rowFits 102 = .ok (.istore 9, 2) := by decide +kernel
theorem dX1_rowFits_104 : decode cX1_rowFits 104 = .ok (.aload_n 1, 1) := by decide +kernel
theorem dX1_rowFits_105 : decode cX1_rowFits 105 = .ok (.iload_n 2, 1) := by decide +kernel
theorem dX1_rowFits_106 : decode cX1_rowFits 106 = .ok (.iconst 0, 1) := by decide +kernel
theorem dX1_rowFits_107 : decode cX1_rowFits 107 = .ok (.invokevirtual 74, 3) := by decide +kernel
theorem dX1_rowFits_110 : decode cX1_rowFits 110 = .ok (.tableswitch 110 0 5 #[38, 41, 44, 47, 72, 94], 38) := by decide +kernel
theorem dX1_rowFits_148 : decode cX1_rowFits 148 = .ok (.iload 7, 2) := by decide +kernel
theorem dX1_rowFits_150 : decode cX1_rowFits 150 = .ok (.ireturn, 1) := by decide +kernel
theorem dX1_rowFits_151 : decode cX1_rowFits 151 = .ok (.iload 8, 2) := by decide +kernel
theorem dX1_rowFits_153 : decode cX1_rowFits 153 = .ok (.ireturn, 1) := by decide +kernel
theorem dX1_rowFits_154 : decode cX1_rowFits 154 = .ok (.iload 9, 2) := by decide +kernel
theorem dX1_rowFits_156 : decode cX1_rowFits 156 = .ok (.ireturn, 1) := by decide +kernel
theorem dX1_rowFits_157 : decode cX1_rowFits 157 = .ok (.iload 7, 2) := by decide +kernel
theorem dX1_rowFits_159 : decode cX1_rowFits 159 = .ok (.ifCond .eq 21, 3) := by decide +kernel
theorem dX1_rowFits_162 : decode cX1_rowFits 162 = .ok (.aload_n 0, 1) := by decide +kernel
theorem dX1_rowFits_163 : decode cX1_rowFits 163 = .ok (.getfield 14, 3) := by decide +kernel
theorem dX1_rowFits_166 : decode cX1_rowFits 166 = .ok (.iload_n 3, 1) := by decide +kernel
theorem dX1_rowFits_167 : decode cX1_rowFits 167 = .ok (.iconst 2, 1) := by decide +kernel
theorem dX1_rowFits_168 : decode cX1_rowFits 168 = .ok (.invokevirtual 74, 3) := by decide +kernel
theorem dX1_rowFits_171 : decode cX1_rowFits 171 = .ok (.bipush 9, 2) := by decide +kernel
theorem dX1_rowFits_173 : decode cX1_rowFits 173 = .ok (.if_icmp .gt 7, 3) := by decide +kernel
theorem dX1_rowFits_176 : decode cX1_rowFits 176 = .ok (.iconst 1, 1) := by decide +kernel
theorem dX1_rowFits_177 : decode cX1_rowFits 177 = .ok (.goto 4, 3) := by decide +kernel
theorem dX1_rowFits_180 : decode cX1_rowFits 180 = .ok (.iconst 0, 1) := by decide +kernel
theorem dX1_rowFits_181 : decode cX1_rowFits 181 = .ok (.ireturn, 1) := by decide +kernel
theorem dX1_rowFits_182 : decode cX1_rowFits 182 = .ok (.iload 7, 2) := by decide +kernel
theorem dX1_rowFits_184 : decode cX1_rowFits 184 = .ok (.ifCond .ne 14, 3) := by decide +kernel
theorem dX1_rowFits_187 : decode cX1_rowFits 187 = .ok (.iload 4, 2) := by decide +kernel
theorem dX1_rowFits_189 : decode cX1_rowFits 189 = .ok (.ifCond .ne 13, 3) := by decide +kernel
theorem dX1_rowFits_192 : decode cX1_rowFits 192 = .ok (.iload 5, 2) := by decide +kernel
theorem dX1_rowFits_194 : decode cX1_rowFits 194 = .ok (.iconst 1, 1) := by decide +kernel
theorem dX1_rowFits_195 : decode cX1_rowFits 195 = .ok (.if_icmp .ne 7, 3) := by decide +kernel
theorem dX1_rowFits_198 : decode cX1_rowFits 198 = .ok (.iconst 1, 1) := by decide +kernel
theorem dX1_rowFits_199 : decode cX1_rowFits 199 = .ok (.goto 4, 3) := by decide +kernel
theorem dX1_rowFits_202 : decode cX1_rowFits 202 = .ok (.iconst 0, 1) := by decide +kernel
theorem dX1_rowFits_203 : decode cX1_rowFits 203 = .ok (.ireturn, 1) := by decide +kernel
theorem dX1_rowFits_204 : decode cX1_rowFits 204 = .ok (.iload 9, 2) := by decide +kernel
theorem dX1_rowFits_206 : decode cX1_rowFits 206 = .ok (.ifCond .ne 8, 3) := by decide +kernel
theorem dX1_rowFits_209 : decode cX1_rowFits 209 = .ok (.iload 5, 2) := by decide +kernel
theorem dX1_rowFits_211 : decode cX1_rowFits 211 = .ok (.ifCond .le 7, 3) := by decide +kernel
theorem dX1_rowFits_214 : decode cX1_rowFits 214 = .ok (.iconst 1, 1) := by decide +kernel
theorem dX1_rowFits_215 : decode cX1_rowFits 215 = .ok (.goto 4, 3) := by decide +kernel
theorem dX1_rowFits_218 : decode cX1_rowFits 218 = .ok (.iconst 0, 1) := by decide +kernel
theorem dX1_rowFits_219 : decode cX1_rowFits 219 = .ok (.ireturn, 1) := by decide +kernel
theorem dX1_rowFits_220 : decode cX1_rowFits 220 = .ok (.iconst 0, 1) := by decide +kernel
theorem dX1_rowFits_221 : decode cX1_rowFits 221 = .ok (.ireturn, 1) := by decide +kernel
theorem dX1_lidsFor_0 : decode cX1_lidsFor 0 = .ok (.iconst 0, 1) := by decide +kernel
theorem dX1_lidsFor_1 : decode cX1_lidsFor 1 = .ok (.istore_n 2, 1) := by decide +kernel
theorem dX1_lidsFor_2 : decode cX1_lidsFor 2 = .ok (.iconst 0, 1) := by decide +kernel
theorem dX1_lidsFor_3 : decode cX1_lidsFor 3 = .ok (.istore_n 3, 1) := by decide +kernel
theorem dX1_lidsFor_4 : decode cX1_lidsFor 4 = .ok (.iload_n 3, 1) := by decide +kernel
theorem dX1_lidsFor_5 : decode cX1_lidsFor 5 = .ok (.aload_n 0, 1) := by decide +kernel
theorem dX1_lidsFor_6 : decode cX1_lidsFor 6 = .ok (.getfield 20, 3) := by decide +kernel
theorem dX1_lidsFor_9 : decode cX1_lidsFor 9 = .ok (.invokevirtual 81, 3) := by decide +kernel
theorem dX1_lidsFor_12 : decode cX1_lidsFor 12 = .ok (.if_icmp .ge 28, 3) := by decide +kernel
theorem dX1_lidsFor_15 : decode cX1_lidsFor 15 = .ok (.aload_n 0, 1) := by decide +kernel
theorem dX1_lidsFor_16 : decode cX1_lidsFor 16 = .ok (.aload_n 0, 1) := by decide +kernel
theorem dX1_lidsFor_17 : decode cX1_lidsFor 17 = .ok (.getfield 20, 3) := by decide +kernel
theorem dX1_lidsFor_20 : decode cX1_lidsFor 20 = .ok (.iload_n 3, 1) := by decide +kernel
theorem dX1_lidsFor_21 : decode cX1_lidsFor 21 = .ok (.iload_n 1, 1) := by decide +kernel
theorem dX1_lidsFor_22 : decode cX1_lidsFor 22 = .ok (.invokevirtual 66, 3) := by decide +kernel
theorem dX1_lidsFor_25 : decode cX1_lidsFor 25 = .ok (.ifCond .eq 9, 3) := by decide +kernel
theorem dX1_lidsFor_28 : decode cX1_lidsFor 28 = .ok (.iload_n 2, 1) := by decide +kernel
theorem dX1_lidsFor_29 : decode cX1_lidsFor 29 = .ok (.iconst 1, 1) := by decide +kernel
theorem dX1_lidsFor_30 : decode cX1_lidsFor 30 = .ok (.iload_n 3, 1) := by decide +kernel
theorem dX1_lidsFor_31 : decode cX1_lidsFor 31 = .ok (.ishl, 1) := by decide +kernel
theorem dX1_lidsFor_32 : decode cX1_lidsFor 32 = .ok (.ior, 1) := by decide +kernel
theorem dX1_lidsFor_33 : decode cX1_lidsFor 33 = .ok (.istore_n 2, 1) := by decide +kernel
theorem dX1_lidsFor_34 : decode cX1_lidsFor 34 = .ok (.iinc 3 1, 3) := by decide +kernel
theorem dX1_lidsFor_37 : decode cX1_lidsFor 37 = .ok (.goto (-33), 3) := by decide +kernel
theorem dX1_lidsFor_40 : decode cX1_lidsFor 40 = .ok (.iload_n 2, 1) := by decide +kernel
theorem dX1_lidsFor_41 : decode cX1_lidsFor 41 = .ok (.ireturn, 1) := by decide +kernel
theorem dX1_boxesAround_0 : decode cX1_boxesAround 0 = .ok (.iconst 0, 1) := by decide +kernel
theorem dX1_boxesAround_1 : decode cX1_boxesAround 1 = .ok (.istore_n 2, 1) := by decide +kernel
theorem dX1_boxesAround_2 : decode cX1_boxesAround 2 = .ok (.iconst 0, 1) := by decide +kernel
theorem dX1_boxesAround_3 : decode cX1_boxesAround 3 = .ok (.istore_n 3, 1) := by decide +kernel
theorem dX1_boxesAround_4 : decode cX1_boxesAround 4 = .ok (.iload_n 3, 1) := by decide +kernel
theorem dX1_boxesAround_5 : decode cX1_boxesAround 5 = .ok (.aload_n 0, 1) := by decide +kernel
theorem dX1_boxesAround_6 : decode cX1_boxesAround 6 = .ok (.getfield 14, 3) := by decide +kernel
theorem dX1_boxesAround_9 : decode cX1_boxesAround 9 = .ok (.invokevirtual 81, 3) := by decide +kernel
theorem dX1_boxesAround_12 : decode cX1_boxesAround 12 = .ok (.if_icmp .ge 24, 3) := by decide +kernel
theorem dX1_boxesAround_15 : decode cX1_boxesAround 15 = .ok (.aload_n 0, 1) := by decide +kernel
theorem dX1_boxesAround_16 : decode cX1_boxesAround 16 = .ok (.iload_n 1, 1) := by decide +kernel
theorem dX1_boxesAround_17 : decode cX1_boxesAround 17 = .ok (.iload_n 3, 1) := by decide +kernel
theorem dX1_boxesAround_18 : decode cX1_boxesAround 18 = .ok (.invokevirtual 90, 3) := by decide +kernel
theorem dX1_boxesAround_21 : decode cX1_boxesAround 21 = .ok (.ifCond .eq 9, 3) := by decide +kernel
theorem dX1_boxesAround_24 : decode cX1_boxesAround 24 = .ok (.iload_n 2, 1) := by decide +kernel
theorem dX1_boxesAround_25 : decode cX1_boxesAround 25 = .ok (.iconst 1, 1) := by decide +kernel
theorem dX1_boxesAround_26 : decode cX1_boxesAround 26 = .ok (.iload_n 3, 1) := by decide +kernel
theorem dX1_boxesAround_27 : decode cX1_boxesAround 27 = .ok (.ishl, 1) := by decide +kernel
theorem dX1_boxesAround_28 : decode cX1_boxesAround 28 = .ok (.ior, 1) := by decide +kernel
theorem dX1_boxesAround_29 : decode cX1_boxesAround 29 = .ok (.istore_n 2, 1) := by decide +kernel
theorem dX1_boxesAround_30 : decode cX1_boxesAround 30 = .ok (.iinc 3 1, 3) := by decide +kernel
theorem dX1_boxesAround_33 : decode cX1_boxesAround 33 = .ok (.goto (-29), 3) := by decide +kernel
theorem dX1_boxesAround_36 : decode cX1_boxesAround 36 = .ok (.iload_n 2, 1) := by decide +kernel
theorem dX1_boxesAround_37 : decode cX1_boxesAround 37 = .ok (.ireturn, 1) := by decide +kernel
theorem dX1_goesInto_0 : decode cX1_goesInto 0 = .ok (.aload_n 0, 1) := by decide +kernel
theorem dX1_goesInto_1 : decode cX1_goesInto 1 = .ok (.getfield 14, 3) := by decide +kernel
theorem dX1_goesInto_4 : decode cX1_goesInto 4 = .ok (.iload_n 1, 1) := by decide +kernel
theorem dX1_goesInto_5 : decode cX1_goesInto 5 = .ok (.iconst 0, 1) := by decide +kernel
theorem dX1_goesInto_6 : decode cX1_goesInto 6 = .ok (.invokevirtual 74, 3) := by decide +kernel
theorem dX1_goesInto_9 : decode cX1_goesInto 9 = .ok (.istore_n 3, 1) := by decide +kernel
theorem dX1_goesInto_10 : decode cX1_goesInto 10 = .ok (.aload_n 0, 1) := by decide +kernel
theorem dX1_goesInto_11 : decode cX1_goesInto 11 = .ok (.getfield 14, 3) := by decide +kernel
theorem dX1_goesInto_14 : decode cX1_goesInto 14 = .ok (.iload_n 2, 1) := by decide +kernel
theorem dX1_goesInto_15 : decode cX1_goesInto 15 = .ok (.iconst 0, 1) := by decide +kernel
theorem dX1_goesInto_16 : decode cX1_goesInto 16 = .ok (.invokevirtual 74, 3) := by decide +kernel
theorem dX1_goesInto_19 : decode cX1_goesInto 19 = .ok (.istore 4, 2) := by decide +kernel
theorem dX1_goesInto_21 : decode cX1_goesInto 21 = .ok (.aload_n 0, 1) := by decide +kernel
theorem dX1_goesInto_22 : decode cX1_goesInto 22 = .ok (.getfield 14, 3) := by decide +kernel
theorem dX1_goesInto_25 : decode cX1_goesInto 25 = .ok (.iload_n 1, 1) := by decide +kernel
theorem dX1_goesInto_26 : decode cX1_goesInto 26 = .ok (.iconst 1, 1) := by decide +kernel
theorem dX1_goesInto_27 : decode cX1_goesInto 27 = .ok (.invokevirtual 74, 3) := by decide +kernel
theorem dX1_goesInto_30 : decode cX1_goesInto 30 = .ok (.aload_n 0, 1) := by decide +kernel
theorem dX1_goesInto_31 : decode cX1_goesInto 31 = .ok (.getfield 14, 3) := by decide +kernel
theorem dX1_goesInto_34 : decode cX1_goesInto 34 = .ok (.iload_n 2, 1) := by decide +kernel
theorem dX1_goesInto_35 : decode cX1_goesInto 35 = .ok (.iconst 1, 1) := by decide +kernel
theorem dX1_goesInto_36 : decode cX1_goesInto 36 = .ok (.invokevirtual 74, 3) := by decide +kernel
theorem dX1_goesInto_39 : decode cX1_goesInto 39 = .ok (.if_icmp .ge 23, 3) := by decide +kernel
theorem dX1_goesInto_42 : decode cX1_goesInto 42 = .ok (.iload_n 3, 1) := by decide +kernel
theorem dX1_goesInto_43 : decode cX1_goesInto 43 = .ok (.iload 4, 2) := by decide +kernel
theorem dX1_goesInto_45 : decode cX1_goesInto 45 = .ok (.if_icmp .eq 13, 3) := by decide +kernel
theorem dX1_goesInto_48 : decode cX1_goesInto 48 = .ok (.iload_n 3, 1) := by decide +kernel
theorem dX1_goesInto_49 : decode cX1_goesInto 49 = .ok (.ifCond .ne 13, 3) := by decide +kernel
theorem dX1_goesInto_52 : decode cX1_goesInto 52 = .ok (.iload 4, 2) := by decide +kernel
theorem dX1_goesInto_54 : decode cX1_goesInto 54 = .ok (.iconst 2, 1) := by decide +kernel
theorem dX1_goesInto_55 : decode cX1_goesInto 55 = .ok (.if_icmp .ne 7, 3) := by decide +kernel
theorem dX1_goesInto_58 : decode cX1_goesInto 58 = .ok (.iconst 1, 1) := by decide +kernel
theorem dX1_goesInto_59 : decode cX1_goesInto 59 = .ok (.goto 4, 3) := by decide +kernel
theorem dX1_goesInto_62 : decode cX1_goesInto 62 = .ok (.iconst 0, 1) := by decide +kernel
theorem dX1_goesInto_63 : decode cX1_goesInto 63 = .ok (.ireturn, 1) := by decide +kernel
theorem dX1_purchaseFor_0 : decode cX1_purchaseFor 0 = .ok (.ldc 93, 2) := by decide +kernel
theorem dX1_purchaseFor_2 : decode cX1_purchaseFor 2 = .ok (.istore_n 2, 1) := by decide +kernel
theorem dX1_purchaseFor_3 : decode cX1_purchaseFor 3 = .ok (.iconst 0, 1) := by decide +kernel
theorem dX1_purchaseFor_4 : decode cX1_purchaseFor 4 = .ok (.istore_n 3, 1) := by decide +kernel
theorem dX1_purchaseFor_5 : decode cX1_purchaseFor 5 = .ok (.iload_n 3, 1) := by decide +kernel
theorem dX1_purchaseFor_6 : decode cX1_purchaseFor 6 = .ok (.aload_n 0, 1) := by decide +kernel
theorem dX1_purchaseFor_7 : decode cX1_purchaseFor 7 = .ok (.getfield 23, 3) := by decide +kernel
theorem dX1_purchaseFor_10 : decode cX1_purchaseFor 10 = .ok (.invokevirtual 81, 3) := by decide +kernel
theorem dX1_purchaseFor_13 : decode cX1_purchaseFor 13 = .ok (.if_icmp .ge 46, 3) := by decide +kernel
theorem dX1_purchaseFor_16 : decode cX1_purchaseFor 16 = .ok (.aload_n 0, 1) := by decide +kernel
theorem dX1_purchaseFor_17 : decode cX1_purchaseFor 17 = .ok (.aload_n 0, 1) := by decide +kernel
theorem dX1_purchaseFor_18 : decode cX1_purchaseFor 18 = .ok (.getfield 23, 3) := by decide +kernel
theorem dX1_purchaseFor_21 : decode cX1_purchaseFor 21 = .ok (.iload_n 3, 1) := by decide +kernel
theorem dX1_purchaseFor_22 : decode cX1_purchaseFor 22 = .ok (.iload_n 1, 1) := by decide +kernel
theorem dX1_purchaseFor_23 : decode cX1_purchaseFor 23 = .ok (.invokevirtual 66, 3) := by decide +kernel
theorem dX1_purchaseFor_26 : decode cX1_purchaseFor 26 = .ok (.ifCond .eq 27, 3) := by decide +kernel
theorem dX1_purchaseFor_29 : decode cX1_purchaseFor 29 = .ok (.iload_n 2, 1) := by decide +kernel
theorem dX1_purchaseFor_30 : decode cX1_purchaseFor 30 = .ok (.aload_n 0, 1) := by decide +kernel
theorem dX1_purchaseFor_31 : decode cX1_purchaseFor 31 = .ok (.getfield 23, 3) := by decide +kernel
theorem dX1_purchaseFor_34 : decode cX1_purchaseFor 34 = .ok (.iload_n 3, 1) := by decide +kernel
theorem dX1_purchaseFor_35 : decode cX1_purchaseFor 35 = .ok (.iconst 3, 1) := by decide +kernel
theorem dX1_purchaseFor_36 : decode cX1_purchaseFor 36 = .ok (.invokevirtual 74, 3) := by decide +kernel
theorem dX1_purchaseFor_39 : decode cX1_purchaseFor 39 = .ok (.bipush 12, 2) := by decide +kernel
theorem dX1_purchaseFor_41 : decode cX1_purchaseFor 41 = .ok (.ishl, 1) := by decide +kernel
theorem dX1_purchaseFor_42 : decode cX1_purchaseFor 42 = .ok (.iconst 1, 1) := by decide +kernel
theorem dX1_purchaseFor_43 : decode cX1_purchaseFor 43 = .ok (.iload_n 3, 1) := by decide +kernel
theorem dX1_purchaseFor_44 : decode cX1_purchaseFor 44 = .ok (.invokestatic 94, 3) := by decide +kernel
theorem dX1_purchaseFor_47 : decode cX1_purchaseFor 47 = .ok (.ishl, 1) := by decide +kernel
theorem dX1_purchaseFor_48 : decode cX1_purchaseFor 48 = .ok (.iadd, 1) := by decide +kernel
theorem dX1_purchaseFor_49 : decode cX1_purchaseFor 49 = .ok (.invokestatic 97, 3) := by decide +kernel
theorem dX1_purchaseFor_52 : decode cX1_purchaseFor 52 = .ok (.istore_n 2, 1) := by decide +kernel
theorem dX1_purchaseFor_53 : decode cX1_purchaseFor 53 = .ok (.iinc 3 1, 3) := by decide +kernel
theorem dX1_purchaseFor_56 : decode cX1_purchaseFor 56 = .ok (.goto (-51), 3) := by decide +kernel
theorem dX1_purchaseFor_59 : decode cX1_purchaseFor 59 = .ok (.iload_n 2, 1) := by decide +kernel
theorem dX1_purchaseFor_60 : decode cX1_purchaseFor 60 = .ok (.ireturn, 1) := by decide +kernel
theorem dX1_sumOver_0 : decode cX1_sumOver 0 = .ok (.iconst 0, 1) := by decide +kernel
theorem dX1_sumOver_1 : decode cX1_sumOver 1 = .ok (.istore_n 3, 1) := by decide +kernel
theorem dX1_sumOver_2 : decode cX1_sumOver 2 = .ok (.iconst 0, 1) := by decide +kernel
theorem dX1_sumOver_3 : decode cX1_sumOver 3 = .ok (.istore 4, 2) := by decide +kernel
theorem dX1_sumOver_5 : decode cX1_sumOver 5 = .ok (.iload 4, 2) := by decide +kernel
theorem dX1_sumOver_7 : decode cX1_sumOver 7 = .ok (.aload_n 0, 1) := by decide +kernel
theorem dX1_sumOver_8 : decode cX1_sumOver 8 = .ok (.getfield 14, 3) := by decide +kernel
theorem dX1_sumOver_11 : decode cX1_sumOver 11 = .ok (.invokevirtual 81, 3) := by decide +kernel
theorem dX1_sumOver_14 : decode cX1_sumOver 14 = .ok (.if_icmp .ge 32, 3) := by decide +kernel
theorem dX1_sumOver_17 : decode cX1_sumOver 17 = .ok (.iload_n 1, 1) := by decide +kernel
theorem dX1_sumOver_18 : decode cX1_sumOver 18 = .ok (.iload 4, 2) := by decide +kernel
theorem dX1_sumOver_20 : decode cX1_sumOver 20 = .ok (.ishr, 1) := by decide +kernel
theorem dX1_sumOver_21 : decode cX1_sumOver 21 = .ok (.iconst 1, 1) := by decide +kernel
theorem dX1_sumOver_22 : decode cX1_sumOver 22 = .ok (.iand, 1) := by decide +kernel
theorem dX1_sumOver_23 : decode cX1_sumOver 23 = .ok (.iconst 1, 1) := by decide +kernel
theorem dX1_sumOver_24 : decode cX1_sumOver 24 = .ok (.if_icmp .ne 16, 3) := by decide +kernel
theorem dX1_sumOver_27 : decode cX1_sumOver 27 = .ok (.iload_n 3, 1) := by decide +kernel
theorem dX1_sumOver_28 : decode cX1_sumOver 28 = .ok (.aload_n 0, 1) := by decide +kernel
theorem dX1_sumOver_29 : decode cX1_sumOver 29 = .ok (.getfield 14, 3) := by decide +kernel
theorem dX1_sumOver_32 : decode cX1_sumOver 32 = .ok (.iload 4, 2) := by decide +kernel
theorem dX1_sumOver_34 : decode cX1_sumOver 34 = .ok (.iload_n 2, 1) := by decide +kernel
theorem dX1_sumOver_35 : decode cX1_sumOver 35 = .ok (.invokevirtual 74, 3) := by decide +kernel
theorem dX1_sumOver_38 : decode cX1_sumOver 38 = .ok (.iadd, 1) := by decide +kernel
theorem dX1_sumOver_39 : decode cX1_sumOver 39 = .ok (.istore_n 3, 1) := by decide +kernel
theorem dX1_sumOver_40 : decode cX1_sumOver 40 = .ok (.iinc 4 1, 3) := by decide +kernel
theorem dX1_sumOver_43 : decode cX1_sumOver 43 = .ok (.goto (-38), 3) := by decide +kernel
theorem dX1_sumOver_46 : decode cX1_sumOver 46 = .ok (.iload_n 3, 1) := by decide +kernel
theorem dX1_sumOver_47 : decode cX1_sumOver 47 = .ok (.ireturn, 1) := by decide +kernel
theorem dX1_addTale_0 : decode cX1_addTale 0 = .ok (.iload_n 1, 1) := by decide +kernel
theorem dX1_addTale_1 : decode cX1_addTale 1 = .ok (.iconst 0, 1) := by decide +kernel
theorem dX1_addTale_2 : decode cX1_addTale 2 = .ok (.iconst 4, 1) := by decide +kernel
theorem dX1_addTale_3 : decode cX1_addTale 3 = .ok (.invokestatic 47, 3) := by decide +kernel
theorem dX1_addTale_6 : decode cX1_addTale 6 = .ok (.ifCond .eq 28, 3) := by decide +kernel
theorem dX1_addTale_9 : decode cX1_addTale 9 = .ok (.aload_n 0, 1) := by decide +kernel
theorem dX1_addTale_10 : decode cX1_addTale 10 = .ok (.getfield 20, 3) := by decide +kernel
theorem dX1_addTale_13 : decode cX1_addTale 13 = .ok (.iload_n 2, 1) := by decide +kernel
theorem dX1_addTale_14 : decode cX1_addTale 14 = .ok (.invokevirtual 63, 3) := by decide +kernel
theorem dX1_addTale_17 : decode cX1_addTale 17 = .ok (.ifCond .eq 17, 3) := by decide +kernel
theorem dX1_addTale_20 : decode cX1_addTale 20 = .ok (.iload_n 3, 1) := by decide +kernel
theorem dX1_addTale_21 : decode cX1_addTale 21 = .ok (.iconst 0, 1) := by decide +kernel
theorem dX1_addTale_22 : decode cX1_addTale 22 = .ok (.iconst 4, 1) := by decide +kernel
theorem dX1_addTale_23 : decode cX1_addTale 23 = .ok (.invokestatic 47, 3) := by decide +kernel
theorem dX1_addTale_26 : decode cX1_addTale 26 = .ok (.ifCond .eq 8, 3) := by decide +kernel
theorem dX1_addTale_29 : decode cX1_addTale 29 = .ok (.iload_n 1, 1) := by decide +kernel
theorem dX1_addTale_30 : decode cX1_addTale 30 = .ok (.iload_n 3, 1) := by decide +kernel
theorem dX1_addTale_31 : decode cX1_addTale 31 = .ok (.if_icmp .ne 6, 3) := by decide +kernel
theorem dX1_addTale_34 : decode cX1_addTale 34 = .ok (.bipush (-2), 2) := by decide +kernel
theorem dX1_addTale_36 : decode cX1_addTale 36 = .ok (.ireturn, 1) := by decide +kernel
theorem dX1_addTale_37 : decode cX1_addTale 37 = .ok (.aload_n 0, 1) := by decide +kernel
theorem dX1_addTale_38 : decode cX1_addTale 38 = .ok (.getfield 26, 3) := by decide +kernel
theorem dX1_addTale_41 : decode cX1_addTale 41 = .ok (.iload_n 1, 1) := by decide +kernel
theorem dX1_addTale_42 : decode cX1_addTale 42 = .ok (.iload_n 2, 1) := by decide +kernel
theorem dX1_addTale_43 : decode cX1_addTale 43 = .ok (.iload_n 3, 1) := by decide +kernel
theorem dX1_addTale_44 : decode cX1_addTale 44 = .ok (.invokevirtual 51, 3) := by decide +kernel
theorem dX1_addTale_47 : decode cX1_addTale 47 = .ok (.ireturn, 1) := by decide +kernel
theorem dX1_holderAfter_0 : decode cX1_holderAfter 0 = .ok (.iconst 0, 1) := by decide +kernel
theorem dX1_holderAfter_1 : decode cX1_holderAfter 1 = .ok (.istore_n 3, 1) := by decide +kernel
theorem dX1_holderAfter_2 : decode cX1_holderAfter 2 = .ok (.iconst 0, 1) := by decide +kernel
theorem dX1_holderAfter_3 : decode cX1_holderAfter 3 = .ok (.istore 4, 2) := by decide +kernel
theorem dX1_holderAfter_5 : decode cX1_holderAfter 5 = .ok (.iload 4, 2) := by decide +kernel
theorem dX1_holderAfter_7 : decode cX1_holderAfter 7 = .ok (.iload_n 1, 1) := by decide +kernel
theorem dX1_holderAfter_8 : decode cX1_holderAfter 8 = .ok (.if_icmp .ge 60, 3) := by decide +kernel
theorem dX1_holderAfter_11 : decode cX1_holderAfter 11 = .ok (.iload 4, 2) := by decide +kernel
theorem dX1_holderAfter_13 : decode cX1_holderAfter 13 = .ok (.aload_n 0, 1) := by decide +kernel
theorem dX1_holderAfter_14 : decode cX1_holderAfter 14 = .ok (.getfield 26, 3) := by decide +kernel
theorem dX1_holderAfter_17 : decode cX1_holderAfter 17 = .ok (.invokevirtual 81, 3) := by decide +kernel
theorem dX1_holderAfter_20 : decode cX1_holderAfter 20 = .ok (.if_icmp .ge 48, 3) := by decide +kernel
theorem dX1_holderAfter_23 : decode cX1_holderAfter 23 = .ok (.aload_n 0, 1) := by decide +kernel
theorem dX1_holderAfter_24 : decode cX1_holderAfter 24 = .ok (.getfield 26, 3) := by decide +kernel
theorem dX1_holderAfter_27 : decode cX1_holderAfter 27 = .ok (.iload 4, 2) := by decide +kernel
theorem dX1_holderAfter_29 : decode cX1_holderAfter 29 = .ok (.iconst 1, 1) := by decide +kernel
theorem dX1_holderAfter_30 : decode cX1_holderAfter 30 = .ok (.invokevirtual 74, 3) := by decide +kernel
theorem dX1_holderAfter_33 : decode cX1_holderAfter 33 = .ok (.iload_n 2, 1) := by decide +kernel
theorem dX1_holderAfter_34 : decode cX1_holderAfter 34 = .ok (.if_icmp .ne 28, 3) := by decide +kernel
theorem dX1_holderAfter_37 : decode cX1_holderAfter 37 = .ok (.aload_n 0, 1) := by decide +kernel
theorem dX1_holderAfter_38 : decode cX1_holderAfter 38 = .ok (.getfield 26, 3) := by decide +kernel
theorem dX1_holderAfter_41 : decode cX1_holderAfter 41 = .ok (.iload 4, 2) := by decide +kernel
theorem dX1_holderAfter_43 : decode cX1_holderAfter 43 = .ok (.iconst 0, 1) := by decide +kernel
theorem dX1_holderAfter_44 : decode cX1_holderAfter 44 = .ok (.invokevirtual 74, 3) := by decide +kernel
theorem dX1_holderAfter_47 : decode cX1_holderAfter 47 = .ok (.iload_n 3, 1) := by decide +kernel
theorem dX1_holderAfter_48 : decode cX1_holderAfter 48 = .ok (.if_icmp .ne 14, 3) := by decide +kernel
theorem dX1_holderAfter_51 : decode cX1_holderAfter 51 = .ok (.aload_n 0, 1) := by decide +kernel
theorem dX1_holderAfter_52 : decode cX1_holderAfter 52 = .ok (.getfield 26, 3) := by decide +kernel
theorem dX1_holderAfter_55 : decode cX1_holderAfter 55 = .ok (.iload 4, 2) := by decide +kernel
theorem dX1_holderAfter_57 : decode cX1_holderAfter 57 = .ok (.iconst 2, 1) := by decide +kernel
theorem dX1_holderAfter_58 : decode cX1_holderAfter 58 = .ok (.invokevirtual 74, 3) := by decide +kernel
theorem dX1_holderAfter_61 : decode cX1_holderAfter 61 = .ok (.istore_n 3, 1) := by decide +kernel
theorem dX1_holderAfter_62 : decode cX1_holderAfter 62 = .ok (.iinc 4 1, 3) := by decide +kernel
theorem dX1_holderAfter_65 : decode cX1_holderAfter 65 = .ok (.goto (-60), 3) := by decide +kernel
theorem dX1_holderAfter_68 : decode cX1_holderAfter 68 = .ok (.iload_n 3, 1) := by decide +kernel
theorem dX1_holderAfter_69 : decode cX1_holderAfter 69 = .ok (.ireturn, 1) := by decide +kernel
theorem dX1_firstWrongTale_0 : decode cX1_firstWrongTale 0 = .ok (.iconst 0, 1) := by decide +kernel
theorem dX1_firstWrongTale_1 : decode cX1_firstWrongTale 1 = .ok (.istore_n 1, 1) := by decide +kernel
theorem dX1_firstWrongTale_2 : decode cX1_firstWrongTale 2 = .ok (.iload_n 1, 1) := by decide +kernel
theorem dX1_firstWrongTale_3 : decode cX1_firstWrongTale 3 = .ok (.aload_n 0, 1) := by decide +kernel
theorem dX1_firstWrongTale_4 : decode cX1_firstWrongTale 4 = .ok (.getfield 26, 3) := by decide +kernel
theorem dX1_firstWrongTale_7 : decode cX1_firstWrongTale 7 = .ok (.invokevirtual 81, 3) := by decide +kernel
theorem dX1_firstWrongTale_10 : decode cX1_firstWrongTale 10 = .ok (.if_icmp .ge 37, 3) := by decide +kernel
theorem dX1_firstWrongTale_13 : decode cX1_firstWrongTale 13 = .ok (.aload_n 0, 1) := by decide +kernel
theorem dX1_firstWrongTale_14 : decode cX1_firstWrongTale 14 = .ok (.iload_n 1, 1) := by decide +kernel
theorem dX1_firstWrongTale_15 : decode cX1_firstWrongTale 15 = .ok (.aload_n 0, 1) := by decide +kernel
theorem dX1_firstWrongTale_16 : decode cX1_firstWrongTale 16 = .ok (.getfield 26, 3) := by decide +kernel
theorem dX1_firstWrongTale_19 : decode cX1_firstWrongTale 19 = .ok (.iload_n 1, 1) := by decide +kernel
theorem dX1_firstWrongTale_20 : decode cX1_firstWrongTale 20 = .ok (.iconst 1, 1) := by decide +kernel
theorem dX1_firstWrongTale_21 : decode cX1_firstWrongTale 21 = .ok (.invokevirtual 74, 3) := by decide +kernel
theorem dX1_firstWrongTale_24 : decode cX1_firstWrongTale 24 = .ok (.invokevirtual 102, 3) := by decide +kernel
theorem dX1_firstWrongTale_27 : decode cX1_firstWrongTale 27 = .ok (.aload_n 0, 1) := by decide +kernel
theorem dX1_firstWrongTale_28 : decode cX1_firstWrongTale 28 = .ok (.getfield 26, 3) := by decide +kernel
theorem dX1_firstWrongTale_31 : decode cX1_firstWrongTale 31 = .ok (.iload_n 1, 1) := by decide +kernel
theorem dX1_firstWrongTale_32 : decode cX1_firstWrongTale 32 = .ok (.iconst 0, 1) := by decide +kernel
theorem dX1_firstWrongTale_33 : decode cX1_firstWrongTale 33 = .ok (.invokevirtual 74, 3) := by decide +kernel
theorem dX1_firstWrongTale_36 : decode cX1_firstWrongTale 36 = .ok (.if_icmp .eq 5, 3) := by decide +kernel
theorem dX1_firstWrongTale_39 : decode cX1_firstWrongTale 39 = .ok (.iload_n 1, 1) := by decide +kernel
theorem dX1_firstWrongTale_40 : decode cX1_firstWrongTale 40 = .ok (.ireturn, 1) := by decide +kernel
theorem dX1_firstWrongTale_41 : decode cX1_firstWrongTale 41 = .ok (.iinc 1 1, 3) := by decide +kernel
theorem dX1_firstWrongTale_44 : decode cX1_firstWrongTale 44 = .ok (.goto (-42), 3) := by decide +kernel
theorem dX1_firstWrongTale_47 : decode cX1_firstWrongTale 47 = .ok (.iconst (-1), 1) := by decide +kernel
theorem dX1_firstWrongTale_48 : decode cX1_firstWrongTale 48 = .ok (.ireturn, 1) := by decide +kernel
theorem dX1_addHint_0 : decode cX1_addHint 0 = .ok (.iload_n 1, 1) := by decide +kernel
theorem dX1_addHint_1 : decode cX1_addHint 1 = .ok (.iconst 0, 1) := by decide +kernel
theorem dX1_addHint_2 : decode cX1_addHint 2 = .ok (.iconst 3, 1) := by decide +kernel
theorem dX1_addHint_3 : decode cX1_addHint 3 = .ok (.invokestatic 47, 3) := by decide +kernel
theorem dX1_addHint_6 : decode cX1_addHint 6 = .ok (.ifCond .eq 25, 3) := by decide +kernel
theorem dX1_addHint_9 : decode cX1_addHint 9 = .ok (.aload_n 0, 1) := by decide +kernel
theorem dX1_addHint_10 : decode cX1_addHint 10 = .ok (.getfield 14, 3) := by decide +kernel
theorem dX1_addHint_13 : decode cX1_addHint 13 = .ok (.iload_n 2, 1) := by decide +kernel
theorem dX1_addHint_14 : decode cX1_addHint 14 = .ok (.invokevirtual 63, 3) := by decide +kernel
theorem dX1_addHint_17 : decode cX1_addHint 17 = .ok (.ifCond .eq 14, 3) := by decide +kernel
theorem dX1_addHint_20 : decode cX1_addHint 20 = .ok (.aload_n 0, 1) := by decide +kernel
theorem dX1_addHint_21 : decode cX1_addHint 21 = .ok (.getfield 14, 3) := by decide +kernel
theorem dX1_addHint_24 : decode cX1_addHint 24 = .ok (.iload_n 3, 1) := by decide +kernel
theorem dX1_addHint_25 : decode cX1_addHint 25 = .ok (.invokevirtual 63, 3) := by decide +kernel
theorem dX1_addHint_28 : decode cX1_addHint 28 = .ok (.ifCond .ne 6, 3) := by decide +kernel
theorem dX1_addHint_31 : decode cX1_addHint 31 = .ok (.bipush (-2), 2) := by decide +kernel
theorem dX1_addHint_33 : decode cX1_addHint 33 = .ok (.ireturn, 1) := by decide +kernel
theorem dX1_addHint_34 : decode cX1_addHint 34 = .ok (.aload_n 0, 1) := by decide +kernel
theorem dX1_addHint_35 : decode cX1_addHint 35 = .ok (.getfield 29, 3) := by decide +kernel
theorem dX1_addHint_38 : decode cX1_addHint 38 = .ok (.iload_n 1, 1) := by decide +kernel
theorem dX1_addHint_39 : decode cX1_addHint 39 = .ok (.iload_n 2, 1) := by decide +kernel
theorem dX1_addHint_40 : decode cX1_addHint 40 = .ok (.iload_n 3, 1) := by decide +kernel
theorem dX1_addHint_41 : decode cX1_addHint 41 = .ok (.invokevirtual 51, 3) := by decide +kernel
theorem dX1_addHint_44 : decode cX1_addHint 44 = .ok (.ireturn, 1) := by decide +kernel
theorem dX1_openAfter_0 : decode cX1_openAfter 0 = .ok (.aload_n 0, 1) := by decide +kernel
theorem dX1_openAfter_1 : decode cX1_openAfter 1 = .ok (.getfield 14, 3) := by decide +kernel
theorem dX1_openAfter_4 : decode cX1_openAfter 4 = .ok (.invokevirtual 81, 3) := by decide +kernel
theorem dX1_openAfter_7 : decode cX1_openAfter 7 = .ok (.istore_n 3, 1) := by decide +kernel
theorem dX1_openAfter_8 : decode cX1_openAfter 8 = .ok (.iload_n 3, 1) := by decide +kernel
theorem dX1_openAfter_9 : decode cX1_openAfter 9 = .ok (.ifCond .ne 6, 3) := by decide +kernel
theorem dX1_openAfter_12 : decode cX1_openAfter 12 = .ok (.bipush (-3), 2) := by decide +kernel
theorem dX1_openAfter_14 : decode cX1_openAfter 14 = .ok (.ireturn, 1) := by decide +kernel
theorem dX1_openAfter_15 : decode cX1_openAfter 15 = .ok (.iload_n 2, 1) := by decide +kernel
theorem dX1_openAfter_16 : decode cX1_openAfter 16 = .ok (.i2l, 1) := by decide +kernel
theorem dX1_openAfter_17 : decode cX1_openAfter 17 = .ok (.lstore 4, 2) := by decide +kernel
theorem dX1_openAfter_19 : decode cX1_openAfter 19 = .ok (.iconst 0, 1) := by decide +kernel
theorem dX1_openAfter_20 : decode cX1_openAfter 20 = .ok (.istore 6, 2) := by decide +kernel
theorem dX1_openAfter_22 : decode cX1_openAfter 22 = .ok (.iconst 0, 1) := by decide +kernel
theorem dX1_openAfter_23 : decode cX1_openAfter 23 = .ok (.istore 7, 2) := by decide +kernel
theorem dX1_openAfter_25 : decode cX1_openAfter 25 = .ok (.iconst 0, 1) := by decide +kernel
theorem dX1_openAfter_26 : decode cX1_openAfter 26 = .ok (.istore 8, 2) := by decide +kernel
theorem dX1_openAfter_28 : decode cX1_openAfter 28 = .ok (.iconst 0, 1) := by decide +kernel
theorem dX1_openAfter_29 : decode cX1_openAfter 29 = .ok (.istore 9, 2) := by decide +kernel
theorem dX1_openAfter_31 : decode cX1_openAfter 31 = .ok (.iload 9, 2) := by decide +kernel
theorem dX1_openAfter_33 : decode cX1_openAfter 33 = .ok (.iload_n 1, 1) := by decide +kernel
theorem dX1_openAfter_34 : decode cX1_openAfter 34 = .ok (.if_icmp .ge 94, 3) := by decide +kernel
theorem dX1_openAfter_37 : decode cX1_openAfter 37 = .ok (.lload 4, 2) := by decide +kernel
theorem dX1_openAfter_39 : decode cX1_openAfter 39 = .ok (.ldc2_w 105, 3) := by decide +kernel
theorem dX1_openAfter_42 : decode cX1_openAfter 42 = .ok (.lmul, 1) := by decide +kernel
theorem dX1_openAfter_43 : decode cX1_openAfter 43 = .ok (.ldc2_w 107, 3) := by decide +kernel
theorem dX1_openAfter_46 : decode cX1_openAfter 46 = .ok (.ladd, 1) := by decide +kernel
theorem dX1_openAfter_47 : decode cX1_openAfter 47 = .ok (.ldc2_w 109, 3) := by decide +kernel
