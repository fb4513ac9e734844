theorem dJ0_charAt_5068e_0 : decode cJ0_charAt_5068e 0 = .ok (.aload_n 0, 1) := by decide +kernel
theorem dJ0_charAt_5068e_1 : decode cJ0_charAt_5068e 1 = .ok (.invokevirtual 492, 3) := by decide +kernel
theorem dJ0_charAt_5068e_4 : decode cJ0_charAt_5068e 4 = .ok (.ifCond .eq 12, 3) := by decide +kernel
theorem dJ0_charAt_5068e_7 : decode cJ0_charAt_5068e 7 = .ok (.aload_n 0, 1) := by decide +kernel
theorem dJ0_charAt_5068e_8 : decode cJ0_charAt_5068e 8 = .ok (.getfield 9, 3) := by decide +kernel
theorem dJ0_charAt_5068e_11 : decode cJ0_charAt_5068e 11 = .ok (.iload_n 1, 1) := by decide +kernel
theorem dJ0_charAt_5068e_12 : decode cJ0_charAt_5068e 12 = .ok (.invokestatic 495, 3) := by decide +kernel
theorem dJ0_charAt_5068e_15 : decode cJ0_charAt_5068e 15 = .ok (.ireturn, 1) := by decide +kernel
theorem dJ0_checkIndex_df160_0 : decode cJ0_checkIndex_df160 0 = .ok (.iload_n 0, 1) := by decide +kernel
theorem dJ0_checkIndex_df160_1 : decode cJ0_checkIndex_df160 1 = .ok (.iload_n 1, 1) := by decide +kernel
theorem dJ0_checkIndex_df160_2 : decode cJ0_checkIndex_df160 2 = .ok (.getstatic 1053, 3) := by decide +kernel
theorem dJ0_checkIndex_df160_5 : decode cJ0_checkIndex_df160 5 = .ok (.invokestatic 1059, 3) := by decide +kernel
theorem dJ0_checkIndex_df160_8 : decode cJ0_checkIndex_df160 8 = .ok (.pop, 1) := by decide +kernel
theorem dJ0_checkIndex_df160_9 : decode cJ0_checkIndex_df160 9 = .ok (.return_, 1) := by decide +kernel
theorem dJ0_coder_7d493_0 : decode cJ0_coder_7d493 0 = .ok (.getstatic 38, 3) := by decide +kernel
theorem dJ0_coder_7d493_3 : decode cJ0_coder_7d493 3 = .ok (.ifCond .eq 10, 3) := by decide +kernel
theorem dJ0_coder_7d493_6 : decode cJ0_coder_7d493 6 = .ok (.aload_n 0, 1) := by decide +kernel
theorem dJ0_coder_7d493_7 : decode cJ0_coder_7d493 7 = .ok (.getfield 15, 3) := by decide +kernel
theorem dJ0_coder_7d493_10 : decode cJ0_coder_7d493 10 = .ok (.goto 4, 3) := by decide +kernel
theorem dJ0_coder_7d493_14 : decode cJ0_coder_7d493 14 = .ok (.ireturn, 1) := by decide +kernel
theorem dJ0_isLatin1_aae02_0 : decode cJ0_isLatin1_aae02 0 = .ok (.getstatic 38, 3) := by decide +kernel
theorem dJ0_isLatin1_aae02_3 : decode cJ0_isLatin1_aae02 3 = .ok (.ifCond .eq 14, 3) := by decide +kernel
theorem dJ0_isLatin1_aae02_6 : decode cJ0_isLatin1_aae02 6 = .ok (.aload_n 0, 1) := by decide +kernel
theorem dJ0_isLatin1_aae02_7 : decode cJ0_isLatin1_aae02 7 = .ok (.getfield 15, 3) := by decide +kernel
theorem dJ0_isLatin1_aae02_10 : decode cJ0_isLatin1_aae02 10 = .ok (.ifCond .ne 7, 3) := by decide +kernel
theorem dJ0_isLatin1_aae02_13 : decode cJ0_isLatin1_aae02 13 = .ok (.iconst 1, 1) := by decide +kernel
theorem dJ0_isLatin1_aae02_14 : decode cJ0_isLatin1_aae02 14 = .ok (.goto 4, 3) := by decide +kernel
theorem dJ0_isLatin1_aae02_18 : decode cJ0_isLatin1_aae02 18 = .ok (.ireturn, 1) := by decide +kernel
theorem dJ0_length_8abf5_0 : decode cJ0_length_8abf5 0 = .ok (.aload_n 0, 1) := by decide +kernel
theorem dJ0_length_8abf5_1 : decode cJ0_length_8abf5 1 = .ok (.getfield 9, 3) := by decide +kernel
theorem dJ0_length_8abf5_4 : decode cJ0_length_8abf5 4 = .ok (.arraylength, 1) := by decide +kernel
theorem dJ0_length_8abf5_5 : decode cJ0_length_8abf5 5 = .ok (.aload_n 0, 1) := by decide +kernel
theorem dJ0_length_8abf5_6 : decode cJ0_length_8abf5 6 = .ok (.invokevirtual 335, 3) := by decide +kernel
theorem dJ0_length_8abf5_9 : decode cJ0_length_8abf5 9 = .ok (.ishr, 1) := by decide +kernel
theorem dJ0_length_8abf5_10 : decode cJ0_length_8abf5 10 = .ok (.ireturn, 1) := by decide +kernel
theorem dJ1_charAt_3b067_0 : decode cJ1_charAt_3b067 0 = .ok (.iload_n 1, 1) := by decide +kernel
theorem dJ1_charAt_3b067_1 : decode cJ1_charAt_3b067 1 = .ok (.aload_n 0, 1) := by decide +kernel
theorem dJ1_charAt_3b067_2 : decode cJ1_charAt_3b067 2 = .ok (.arraylength, 1) := by decide +kernel
theorem dJ1_charAt_3b067_3 : decode cJ1_charAt_3b067 3 = .ok (.invokestatic 9, 3) := by decide +kernel
theorem dJ1_charAt_3b067_6 : decode cJ1_charAt_3b067 6 = .ok (.aload_n 0, 1) := by decide +kernel
theorem dJ1_charAt_3b067_7 : decode cJ1_charAt_3b067 7 = .ok (.iload_n 1, 1) := by decide +kernel
theorem dJ1_charAt_3b067_8 : decode cJ1_charAt_3b067 8 = .ok (.baload, 1) := by decide +kernel
theorem dJ1_charAt_3b067_9 : decode cJ1_charAt_3b067 9 = .ok (.sipush 255, 3) := by decide +kernel
theorem dJ1_charAt_3b067_12 : decode cJ1_charAt_3b067 12 = .ok (.iand, 1) := by decide +kernel
theorem dJ1_charAt_3b067_13 : decode cJ1_charAt_3b067 13 = .ok (.i2c, 1) := by decide +kernel
theorem dJ1_charAt_3b067_14 : decode cJ1_charAt_3b067 14 = .ok (.ireturn, 1) := by decide +kernel
theorem dJ3_checkIndex_8e157_0 : decode cJ3_checkIndex_8e157 0 = .ok (.iload_n 0, 1) := by decide +kernel
theorem dJ3_checkIndex_8e157_1 : decode cJ3_checkIndex_8e157 1 = .ok (.ifCond .lt 8, 3) := by decide +kernel
theorem dJ3_checkIndex_8e157_4 : decode cJ3_checkIndex_8e157 4 = .ok (.iload_n 0, 1) := by decide +kernel
theorem dJ3_checkIndex_8e157_5 : decode cJ3_checkIndex_8e157 5 = .ok (.iload_n 1, 1) := by decide +kernel
theorem dJ3_checkIndex_8e157_6 : decode cJ3_checkIndex_8e157 6 = .ok (.if_icmp .lt 10, 3) := by decide +kernel
theorem dJ3_checkIndex_8e157_16 : decode cJ3_checkIndex_8e157 16 = .ok (.iload_n 0, 1) := by decide +kernel
theorem dJ3_checkIndex_8e157_17 : decode cJ3_checkIndex_8e157 17 = .ok (.ireturn, 1) := by decide +kernel
theorem dJ6_bitCount_0f7a4_0 : decode cJ6_bitCount_0f7a4 0 = .ok (.iload_n 0, 1) := by decide +kernel
theorem dJ6_bitCount_0f7a4_1 : decode cJ6_bitCount_0f7a4 1 = .ok (.iload_n 0, 1) := by decide +kernel
theorem dJ6_bitCount_0f7a4_2 : decode cJ6_bitCount_0f7a4 2 = .ok (.iconst 1, 1) := by decide +kernel
theorem dJ6_bitCount_0f7a4_3 : decode cJ6_bitCount_0f7a4 3 = .ok (.iushr, 1) := by decide +kernel
theorem dJ6_bitCount_0f7a4_4 : decode cJ6_bitCount_0f7a4 4 = .ok (.ldc_w 265, 3) := by decide +kernel
theorem dJ6_bitCount_0f7a4_7 : decode cJ6_bitCount_0f7a4 7 = .ok (.iand, 1) := by decide +kernel
theorem dJ6_bitCount_0f7a4_8 : decode cJ6_bitCount_0f7a4 8 = .ok (.isub, 1) := by decide +kernel
theorem dJ6_bitCount_0f7a4_9 : decode cJ6_bitCount_0f7a4 9 = .ok (.istore_n 0, 1) := by decide +kernel
theorem dJ6_bitCount_0f7a4_10 : decode cJ6_bitCount_0f7a4 10 = .ok (.iload_n 0, 1) := by decide +kernel
theorem dJ6_bitCount_0f7a4_11 : decode cJ6_bitCount_0f7a4 11 = .ok (.ldc_w 266, 3) := by decide +kernel
theorem dJ6_bitCount_0f7a4_14 : decode cJ6_bitCount_0f7a4 14 = .ok (.iand, 1) := by decide +kernel
theorem dJ6_bitCount_0f7a4_15 : decode cJ6_bitCount_0f7a4 15 = .ok (.iload_n 0, 1) := by decide +kernel
theorem dJ6_bitCount_0f7a4_16 : decode cJ6_bitCount_0f7a4 16 = .ok (.iconst 2, 1) := by decide +kernel
theorem dJ6_bitCount_0f7a4_17 : decode cJ6_bitCount_0f7a4 17 = .ok (.iushr, 1) := by decide +kernel
theorem dJ6_bitCount_0f7a4_18 : decode cJ6_bitCount_0f7a4 18 = .ok (.ldc_w 266, 3) := by decide +kernel
theorem dJ6_bitCount_0f7a4_21 : decode cJ6_bitCount_0f7a4 21 = .ok (.iand, 1) := by decide +kernel
theorem dJ6_bitCount_0f7a4_22 : decode cJ6_bitCount_0f7a4 22 = .ok (.iadd, 1) := by decide +kernel
theorem dJ6_bitCount_0f7a4_23 : decode cJ6_bitCount_0f7a4 23 = .ok (.istore_n 0, 1) := by decide +kernel
theorem dJ6_bitCount_0f7a4_24 : decode cJ6_bitCount_0f7a4 24 = .ok (.iload_n 0, 1) := by decide +kernel
theorem dJ6_bitCount_0f7a4_25 : decode cJ6_bitCount_0f7a4 25 = .ok (.iload_n 0, 1) := by decide +kernel
theorem dJ6_bitCount_0f7a4_26 : decode cJ6_bitCount_0f7a4 26 = .ok (.iconst 4, 1) := by decide +kernel
theorem dJ6_bitCount_0f7a4_27 : decode cJ6_bitCount_0f7a4 27 = .ok (.iushr, 1) := by decide +kernel
theorem dJ6_bitCount_0f7a4_28 : decode cJ6_bitCount_0f7a4 28 = .ok (.iadd, 1) := by decide +kernel
theorem dJ6_bitCount_0f7a4_29 : decode cJ6_bitCount_0f7a4 29 = .ok (.ldc_w 267, 3) := by decide +kernel
theorem dJ6_bitCount_0f7a4_32 : decode cJ6_bitCount_0f7a4 32 = .ok (.iand, 1) := by decide +kernel
theorem dJ6_bitCount_0f7a4_33 : decode cJ6_bitCount_0f7a4 33 = .ok (.istore_n 0, 1) := by decide +kernel
theorem dJ6_bitCount_0f7a4_34 : decode cJ6_bitCount_0f7a4 34 = .ok (.iload_n 0, 1) := by decide +kernel
theorem dJ6_bitCount_0f7a4_35 : decode cJ6_bitCount_0f7a4 35 = .ok (.iload_n 0, 1) := by decide +kernel
theorem dJ6_bitCount_0f7a4_36 : decode cJ6_bitCount_0f7a4 36 = .ok (.bipush 8, 2) := by decide +kernel
theorem dJ6_bitCount_0f7a4_38 : decode cJ6_bitCount_0f7a4 38 = .ok (.iushr, 1) := by decide +kernel
theorem dJ6_bitCount_0f7a4_39 : decode cJ6_bitCount_0f7a4 39 = .ok (.iadd, 1) := by decide +kernel
theorem dJ6_bitCount_0f7a4_40 : decode cJ6_bitCount_0f7a4 40 = .ok (.istore_n 0, 1) := by decide +kernel
theorem dJ6_bitCount_0f7a4_41 : decode cJ6_bitCount_0f7a4 41 = .ok (.iload_n 0, 1) := by decide +kernel
theorem dJ6_bitCount_0f7a4_42 : decode cJ6_bitCount_0f7a4 42 = .ok (.iload_n 0, 1) := by decide +kernel
theorem dJ6_bitCount_0f7a4_43 : decode cJ6_bitCount_0f7a4 43 = .ok (.bipush 16, 2) := by decide +kernel
theorem dJ6_bitCount_0f7a4_45 : decode cJ6_bitCount_0f7a4 45 = .ok (.iushr, 1) := by decide +kernel
theorem dJ6_bitCount_0f7a4_46 : decode cJ6_bitCount_0f7a4 46 = .ok (.iadd, 1) := by decide +kernel
theorem dJ6_bitCount_0f7a4_47 : decode cJ6_bitCount_0f7a4 47 = .ok (.istore_n 0, 1) := by decide +kernel
theorem dJ6_bitCount_0f7a4_48 : decode cJ6_bitCount_0f7a4 48 = .ok (.iload_n 0, 1) := by decide +kernel
theorem dJ6_bitCount_0f7a4_49 : decode cJ6_bitCount_0f7a4 49 = .ok (.bipush 63, 2) := by decide +kernel
theorem dJ6_bitCount_0f7a4_51 : decode cJ6_bitCount_0f7a4 51 = .ok (.iand, 1) := by decide +kernel
theorem dJ6_bitCount_0f7a4_52 : decode cJ6_bitCount_0f7a4 52 = .ok (.ireturn, 1) := by decide +kernel
theorem dJ7_fill_53178_0 : decode cJ7_fill_53178 0 = .ok (.iconst 0, 1) := by decide +kernel
theorem dJ7_fill_53178_1 : decode cJ7_fill_53178 1 = .ok (.istore_n 2, 1) := by decide +kernel
theorem dJ7_fill_53178_2 : decode cJ7_fill_53178 2 = .ok (.aload_n 0, 1) := by decide +kernel
theorem dJ7_fill_53178_3 : decode cJ7_fill_53178 3 = .ok (.arraylength, 1) := by decide +kernel
theorem dJ7_fill_53178_4 : decode cJ7_fill_53178 4 = .ok (.istore_n 3, 1) := by decide +kernel
theorem dJ7_fill_53178_5 : decode cJ7_fill_53178 5 = .ok (.iload_n 2, 1) := by decide +kernel
theorem dJ7_fill_53178_6 : decode cJ7_fill_53178 6 = .ok (.iload_n 3, 1) := by decide +kernel
theorem dJ7_fill_53178_7 : decode cJ7_fill_53178 7 = .ok (.if_icmp .ge 13, 3) := by decide +kernel
theorem dJ7_fill_53178_10 : decode cJ7_fill_53178 10 = .ok (.aload_n 0, 1) := by decide +kernel
theorem dJ7_fill_53178_11 : decode cJ7_fill_53178 11 = .ok (.iload_n 2, 1) := by decide +kernel
theorem dJ7_fill_53178_12 : decode cJ7_fill_53178 12 = .ok (.iload_n 1, 1) := by decide +kernel
theorem dJ7_fill_53178_13 : decode cJ7_fill_53178 13 = .ok (.iastore, 1) := by decide +kernel
theorem dJ7_fill_53178_14 : decode cJ7_fill_53178 14 = .ok (.iinc 2 1, 3) := by decide +kernel
theorem dJ7_fill_53178_17 : decode cJ7_fill_53178 17 = .ok (.goto (-12), 3) := by decide +kernel
theorem dJ7_fill_53178_20 : decode cJ7_fill_53178 20 = .ok (.return_, 1) := by decide +kernel
theorem dJ7_fill_d0a16_0 : decode cJ7_fill_d0a16 0 = .ok (.iconst 0, 1) := by decide +kernel
theorem dJ7_fill_d0a16_1 : decode cJ7_fill_d0a16 1 = .ok (.istore_n 3, 1) := by decide +kernel
theorem dJ7_fill_d0a16_2 : decode cJ7_fill_d0a16 2 = .ok (.aload_n 0, 1) := by decide +kernel
theorem dJ7_fill_d0a16_3 : decode cJ7_fill_d0a16 3 = .ok (.arraylength, 1) := by decide +kernel
theorem dJ7_fill_d0a16_4 : decode cJ7_fill_d0a16 4 = .ok (.istore 4, 2) := by decide +kernel
theorem dJ7_fill_d0a16_6 : decode cJ7_fill_d0a16 6 = .ok (.iload_n 3, 1) := by decide +kernel
theorem dJ7_fill_d0a16_7 : decode cJ7_fill_d0a16 7 = .ok (.iload 4, 2) := by decide +kernel
theorem dJ7_fill_d0a16_9 : decode cJ7_fill_d0a16 9 = .ok (.if_icmp .ge 13, 3) := by decide +kernel
theorem dJ7_fill_d0a16_12 : decode cJ7_fill_d0a16 12 = .ok (.aload_n 0, 1) := by decide +kernel
theorem dJ7_fill_d0a16_13 : decode cJ7_fill_d0a16 13 = .ok (.iload_n 3, 1) := by decide +kernel
theorem dJ7_fill_d0a16_14 : decode cJ7_fill_d0a16 14 = .ok (.lload_n 1, 1) := by decide +kernel
theorem dJ7_fill_d0a16_15 : decode cJ7_fill_d0a16 15 = .ok (.lastore, 1) := by decide +kernel
theorem dJ7_fill_d0a16_16 : decode cJ7_fill_d0a16 16 = .ok (.iinc 3 1, 3) := by decide +kernel
theorem dJ7_fill_d0a16_19 : decode cJ7_fill_d0a16 19 = .ok (.goto (-13), 3) := by decide +kernel
theorem dJ7_fill_d0a16_22 : decode cJ7_fill_d0a16 22 = .ok (.return_, 1) := by decide +kernel
theorem dJ9_abs_067f4_0 : decode cJ9_abs_067f4 0 = .ok (.lload_n 0, 1) := by decide +kernel
theorem dJ9_abs_067f4_1 : decode cJ9_abs_067f4 1 = .ok (.lconst 0, 1) := by decide +kernel
theorem dJ9_abs_067f4_2 : decode cJ9_abs_067f4 2 = .ok (.lcmp, 1) := by decide +kernel
theorem dJ9_abs_067f4_3 : decode cJ9_abs_067f4 3 = .ok (.ifCond .ge 8, 3) := by decide +kernel
theorem dJ9_abs_067f4_6 : decode cJ9_abs_067f4 6 = .ok (.lload_n 0, 1) := by decide +kernel
theorem dJ9_abs_067f4_7 : decode cJ9_abs_067f4 7 = .ok (.lneg, 1) := by decide +kernel
theorem dJ9_abs_067f4_8 : decode cJ9_abs_067f4 8 = .ok (.goto 4, 3) := by decide +kernel
theorem dJ9_abs_067f4_11 : decode cJ9_abs_067f4 11 = .ok (.lload_n 0, 1) := by decide +kernel
theorem dJ9_abs_067f4_12 : decode cJ9_abs_067f4 12 = .ok (.lreturn, 1) := by decide +kernel
theorem dJ9_floorMod_7cf53_0 : decode cJ9_floorMod_7cf53 0 = .ok (.iload_n 0, 1) := by decide +kernel
theorem dJ9_floorMod_7cf53_1 : decode cJ9_floorMod_7cf53 1 = .ok (.iload_n 1, 1) := by decide +kernel
theorem dJ9_floorMod_7cf53_2 : decode cJ9_floorMod_7cf53 2 = .ok (.irem, 1) := by decide +kernel
theorem dJ9_floorMod_7cf53_3 : decode cJ9_floorMod_7cf53 3 = .ok (.istore_n 2, 1) := by decide +kernel
theorem dJ9_floorMod_7cf53_4 : decode cJ9_floorMod_7cf53 4 = .ok (.iload_n 0, 1) := by decide +kernel
theorem dJ9_floorMod_7cf53_5 : decode cJ9_floorMod_7cf53 5 = .ok (.iload_n 1, 1) := by decide +kernel
theorem dJ9_floorMod_7cf53_6 : decode cJ9_floorMod_7cf53 6 = .ok (.ixor, 1) := by decide +kernel
theorem dJ9_floorMod_7cf53_7 : decode cJ9_floorMod_7cf53 7 = .ok (.ifCond .ge 11, 3) := by decide +kernel
theorem dJ9_floorMod_7cf53_10 : decode cJ9_floorMod_7cf53 10 = .ok (.iload_n 2, 1) := by decide +kernel
theorem dJ9_floorMod_7cf53_11 : decode cJ9_floorMod_7cf53 11 = .ok (.ifCond .eq 7, 3) := by decide +kernel
theorem dJ9_floorMod_7cf53_14 : decode cJ9_floorMod_7cf53 14 = .ok (.iload_n 2, 1) := by decide +kernel
theorem dJ9_floorMod_7cf53_15 : decode cJ9_floorMod_7cf53 15 = .ok (.iload_n 1, 1) := by decide +kernel
theorem dJ9_floorMod_7cf53_16 : decode cJ9_floorMod_7cf53 16 = .ok (.iadd, 1) := by decide +kernel
theorem dJ9_floorMod_7cf53_17 : decode cJ9_floorMod_7cf53 17 = .ok (.ireturn, 1) := by decide +kernel
theorem dJ9_floorMod_7cf53_18 : decode cJ9_floorMod_7cf53 18 = .ok (.iload_n 2, 1) := by decide +kernel
theorem dJ9_floorMod_7cf53_19 : decode cJ9_floorMod_7cf53 19 = .ok (.ireturn, 1) := by decide +kernel
theorem dJ9_max_f86c9_0 : decode cJ9_max_f86c9 0 = .ok (.lload_n 0, 1) := by decide +kernel
theorem dJ9_max_f86c9_1 : decode cJ9_max_f86c9 1 = .ok (.lload_n 2, 1) := by decide +kernel
theorem dJ9_max_f86c9_2 : decode cJ9_max_f86c9 2 = .ok (.lcmp, 1) := by decide +kernel
theorem dJ9_max_f86c9_3 : decode cJ9_max_f86c9 3 = .ok (.ifCond .lt 7, 3) := by decide +kernel
theorem dJ9_max_f86c9_6 : decode cJ9_max_f86c9 6 = .ok (.lload_n 0, 1) := by decide +kernel
theorem dJ9_max_f86c9_7 : decode cJ9_max_f86c9 7 = .ok (.goto 4, 3) := by decide +kernel
theorem dJ9_max_f86c9_10 : decode cJ9_max_f86c9 10 = .ok (.lload_n 2, 1) := by decide +kernel
theorem dJ9_max_f86c9_11 : decode cJ9_max_f86c9 11 = .ok (.lreturn, 1) := by decide +kernel
theorem dJ9_min_7cf53_0 : decode cJ9_min_7cf53 0 = .ok (.iload_n 0, 1) := by decide +kernel
theorem dJ9_min_7cf53_1 : decode cJ9_min_7cf53 1 = .ok (.iload_n 1, 1) := by decide +kernel
theorem dJ9_min_7cf53_2 : decode cJ9_min_7cf53 2 = .ok (.if_icmp .gt 7, 3) := by decide +kernel
theorem dJ9_min_7cf53_5 : decode cJ9_min_7cf53 5 = .ok (.iload_n 0, 1) := by decide +kernel
theorem dJ9_min_7cf53_6 : decode cJ9_min_7cf53 6 = .ok (.goto 4, 3) := by decide +kernel
theorem dJ9_min_7cf53_9 : decode cJ9_min_7cf53 9 = .ok (.iload_n 1, 1) := by decide +kernel
theorem dJ9_min_7cf53_10 : decode cJ9_min_7cf53 10 = .ok (.ireturn, 1) := by decide +kernel
theorem dX0_feelInto_0 : decode cX0_feelInto 0 = .ok (.iconst 0, 1) := by decide +kernel
theorem dX0_feelInto_1 : decode cX0_feelInto 1 = .ok (.istore 4, 2) := by decide +kernel
theorem dX0_feelInto_3 : decode cX0_feelInto 3 = .ok (.iconst 0, 1) := by decide +kernel
theorem dX0_feelInto_4 : decode cX0_feelInto 4 = .ok (.istore 5, 2) := by decide +kernel
theorem dX0_feelInto_6 : decode cX0_feelInto 6 = .ok (.iload 5, 2) := by decide +kernel
theorem dX0_feelInto_8 : decode cX0_feelInto 8 = .ok (.aload_n 0, 1) := by decide +kernel
theorem dX0_feelInto_9 : decode cX0_feelInto 9 = .ok (.getfield 33, 3) := by decide +kernel
theorem dX0_feelInto_12 : decode cX0_feelInto 12 = .ok (.if_icmp .ge 90, 3) := by decide +kernel
theorem dX0_feelInto_15 : decode cX0_feelInto 15 = .ok (.aload_n 0, 1) := by decide +kernel
theorem dX0_feelInto_16 : decode cX0_feelInto 16 = .ok (.getfield 9, 3) := by decide +kernel
theorem dX0_feelInto_19 : decode cX0_feelInto 19 = .ok (.iload_n 1, 1) := by decide +kernel
theorem dX0_feelInto_20 : decode cX0_feelInto 20 = .ok (.invokestatic 77, 3) := by decide +kernel
theorem dX0_feelInto_23 : decode cX0_feelInto 23 = .ok (.iload 5, 2) := by decide +kernel
theorem dX0_feelInto_25 : decode cX0_feelInto 25 = .ok (.iadd, 1) := by decide +kernel
theorem dX0_feelInto_26 : decode cX0_feelInto 26 = .ok (.invokestatic 95, 3) := by decide +kernel
theorem dX0_feelInto_29 : decode cX0_feelInto 29 = .ok (.lstore 6, 2) := by decide +kernel
theorem dX0_feelInto_31 : decode cX0_feelInto 31 = .ok (.lload 6, 2) := by decide +kernel
theorem dX0_feelInto_33 : decode cX0_feelInto 33 = .ok (.lconst 0, 1) := by decide +kernel
theorem dX0_feelInto_34 : decode cX0_feelInto 34 = .ok (.lcmp, 1) := by decide +kernel
theorem dX0_feelInto_35 : decode cX0_feelInto 35 = .ok (.ifCond .eq 33, 3) := by decide +kernel
theorem dX0_feelInto_38 : decode cX0_feelInto 38 = .ok (.lload 6, 2) := by decide +kernel
theorem dX0_feelInto_40 : decode cX0_feelInto 40 = .ok (.aload_n 0, 1) := by decide +kernel
theorem dX0_feelInto_41 : decode cX0_feelInto 41 = .ok (.getfield 15, 3) := by decide +kernel
theorem dX0_feelInto_44 : decode cX0_feelInto 44 = .ok (.aload_n 0, 1) := by decide +kernel
theorem dX0_feelInto_45 : decode cX0_feelInto 45 = .ok (.getfield 19, 3) := by decide +kernel
theorem dX0_feelInto_48 : decode cX0_feelInto 48 = .ok (.iload 5, 2) := by decide +kernel
theorem dX0_feelInto_50 : decode cX0_feelInto 50 = .ok (.iconst 1, 1) := by decide +kernel
theorem dX0_feelInto_51 : decode cX0_feelInto 51 = .ok (.ishr, 1) := by decide +kernel
theorem dX0_feelInto_52 : decode cX0_feelInto 52 = .ok (.invokevirtual 99, 3) := by decide +kernel
theorem dX0_feelInto_55 : decode cX0_feelInto 55 = .ok (.iload_n 2, 1) := by decide +kernel
theorem dX0_feelInto_56 : decode cX0_feelInto 56 = .ok (.iload 5, 2) := by decide +kernel
theorem dX0_feelInto_58 : decode cX0_feelInto 58 = .ok (.iconst 1, 1) := by decide +kernel
theorem dX0_feelInto_59 : decode cX0_feelInto 59 = .ok (.iand, 1) := by decide +kernel
theorem dX0_feelInto_60 : decode cX0_feelInto 60 = .ok (.iload_n 3, 1) := by decide +kernel
theorem dX0_feelInto_61 : decode cX0_feelInto 61 = .ok (.invokevirtual 106, 3) := by decide +kernel
theorem dX0_feelInto_64 : decode cX0_feelInto 64 = .ok (.i2l, 1) := by decide +kernel
theorem dX0_feelInto_65 : decode cX0_feelInto 65 = .ok (.lmul, 1) := by decide +kernel
theorem dX0_feelInto_66 : decode cX0_feelInto 66 = .ok (.lstore 6, 2) := by decide +kernel
theorem dX0_feelInto_68 : decode cX0_feelInto 68 = .ok (.lload 6, 2) := by decide +kernel
theorem dX0_feelInto_70 : decode cX0_feelInto 70 = .ok (.lconst 0, 1) := by decide +kernel
theorem dX0_feelInto_71 : decode cX0_feelInto 71 = .ok (.lcmp, 1) := by decide +kernel
theorem dX0_feelInto_72 : decode cX0_feelInto 72 = .ok (.ifCond .eq 6, 3) := by decide +kernel
theorem dX0_feelInto_75 : decode cX0_feelInto 75 = .ok (.iconst 1, 1) := by decide +kernel
theorem dX0_feelInto_76 : decode cX0_feelInto 76 = .ok (.istore 4, 2) := by decide +kernel
theorem dX0_feelInto_78 : decode cX0_feelInto 78 = .ok (.aload_n 0, 1) := by decide +kernel
theorem dX0_feelInto_79 : decode cX0_feelInto 79 = .ok (.getfield 9, 3) := by decide +kernel
theorem dX0_feelInto_82 : decode cX0_feelInto 82 = .ok (.iload_n 1, 1) := by decide +kernel
theorem dX0_feelInto_83 : decode cX0_feelInto 83 = .ok (.iconst 1, 1) := by decide +kernel
theorem dX0_feelInto_84 : decode cX0_feelInto 84 = .ok (.iadd, 1) := by decide +kernel
theorem dX0_feelInto_85 : decode cX0_feelInto 85 = .ok (.invokestatic 77, 3) := by decide +kernel
theorem dX0_feelInto_88 : decode cX0_feelInto 88 = .ok (.iload 5, 2) := by decide +kernel
theorem dX0_feelInto_90 : decode cX0_feelInto 90 = .ok (.iadd, 1) := by decide +kernel
theorem dX0_feelInto_91 : decode cX0_feelInto 91 = .ok (.lload 6, 2) := by decide +kernel
theorem dX0_feelInto_93 : decode cX0_feelInto 93 = .ok (.invokestatic 40, 3) := by decide +kernel
theorem dX0_feelInto_96 : decode cX0_feelInto 96 = .ok (.iinc 5 1, 3) := by decide +kernel
theorem dX0_feelInto_99 : decode cX0_feelInto 99 = .ok (.goto (-93), 3) := by decide +kernel
theorem dX0_feelInto_102 : decode cX0_feelInto 102 = .ok (.iload 4, 2) := by decide +kernel
theorem dX0_feelInto_104 : decode cX0_feelInto 104 = .ok (.ireturn, 1) := by decide +kernel
theorem dX0_first_0 : decode cX0_first 0 = .ok (.iload_n 0, 1) := by decide +kernel
theorem dX0_first_1 : decode cX0_first 1 = .ok (.bipush 20, 2) := by decide +kernel
theorem dX0_first_3 : decode cX0_first 3 = .ok (.imul, 1) := by decide +kernel
theorem dX0_first_4 : decode cX0_first 4 = .ok (.ireturn, 1) := by decide +kernel
theorem dX0_tryInto_0 : decode cX0_tryInto 0 = .ok (.lconst 0, 1) := by decide +kernel
theorem dX0_tryInto_1 : decode cX0_tryInto 1 = .ok (.lstore_n 2, 1) := by decide +kernel
theorem dX0_tryInto_2 : decode cX0_tryInto 2 = .ok (.iconst 0, 1) := by decide +kernel
theorem dX0_tryInto_3 : decode cX0_tryInto 3 = .ok (.istore 4, 2) := by decide +kernel
theorem dX0_tryInto_5 : decode cX0_tryInto 5 = .ok (.iload 4, 2) := by decide +kernel
theorem dX0_tryInto_7 : decode cX0_tryInto 7 = .ok (.aload_n 0, 1) := by decide +kernel
theorem dX0_tryInto_8 : decode cX0_tryInto 8 = .ok (.getfield 33, 3) := by decide +kernel
theorem dX0_tryInto_11 : decode cX0_tryInto 11 = .ok (.if_icmp .ge 86, 3) := by decide +kernel
theorem dX0_tryInto_14 : decode cX0_tryInto 14 = .ok (.aload_n 0, 1) := by decide +kernel
theorem dX0_tryInto_15 : decode cX0_tryInto 15 = .ok (.getfield 9, 3) := by decide +kernel
theorem dX0_tryInto_18 : decode cX0_tryInto 18 = .ok (.iload_n 1, 1) := by decide +kernel
theorem dX0_tryInto_19 : decode cX0_tryInto 19 = .ok (.invokestatic 77, 3) := by decide +kernel
theorem dX0_tryInto_22 : decode cX0_tryInto 22 = .ok (.iload 4, 2) := by decide +kernel
theorem dX0_tryInto_24 : decode cX0_tryInto 24 = .ok (.iadd, 1) := by decide +kernel
theorem dX0_tryInto_25 : decode cX0_tryInto 25 = .ok (.invokestatic 95, 3) := by decide +kernel
theorem dX0_tryInto_28 : decode cX0_tryInto 28 = .ok (.lstore 5, 2) := by decide +kernel
theorem dX0_tryInto_30 : decode cX0_tryInto 30 = .ok (.aload_n 0, 1) := by decide +kernel
theorem dX0_tryInto_31 : decode cX0_tryInto 31 = .ok (.getfield 15, 3) := by decide +kernel
theorem dX0_tryInto_34 : decode cX0_tryInto 34 = .ok (.aload_n 0, 1) := by decide +kernel
theorem dX0_tryInto_35 : decode cX0_tryInto 35 = .ok (.getfield 19, 3) := by decide +kernel
theorem dX0_tryInto_38 : decode cX0_tryInto 38 = .ok (.iload 4, 2) := by decide +kernel
theorem dX0_tryInto_40 : decode cX0_tryInto 40 = .ok (.iconst 1, 1) := by decide +kernel
theorem dX0_tryInto_41 : decode cX0_tryInto 41 = .ok (.ishr, 1) := by decide +kernel
theorem dX0_tryInto_42 : decode cX0_tryInto 42 = .ok (.invokevirtual 99, 3) := by decide +kernel
theorem dX0_tryInto_45 : decode cX0_tryInto 45 = .ok (.aload_n 0, 1) := by decide +kernel
theorem dX0_tryInto_46 : decode cX0_tryInto 46 = .ok (.getfield 23, 3) := by decide +kernel
theorem dX0_tryInto_49 : decode cX0_tryInto 49 = .ok (.invokevirtual 102, 3) := by decide +kernel
theorem dX0_tryInto_52 : decode cX0_tryInto 52 = .ok (.istore 7, 2) := by decide +kernel
theorem dX0_tryInto_54 : decode cX0_tryInto 54 = .ok (.iload 7, 2) := by decide +kernel
theorem dX0_tryInto_56 : decode cX0_tryInto 56 = .ok (.ifCond .eq 8, 3) := by decide +kernel
theorem dX0_tryInto_59 : decode cX0_tryInto 59 = .ok (.lload_n 2, 1) := by decide +kernel
theorem dX0_tryInto_60 : decode cX0_tryInto 60 = .ok (.lload 5, 2) := by decide +kernel
theorem dX0_tryInto_62 : decode cX0_tryInto 62 = .ok (.ladd, 1) := by decide +kernel
theorem dX0_tryInto_63 : decode cX0_tryInto 63 = .ok (.lstore_n 2, 1) := by decide +kernel
theorem dX0_tryInto_64 : decode cX0_tryInto 64 = .ok (.aload_n 0, 1) := by decide +kernel
theorem dX0_tryInto_65 : decode cX0_tryInto 65 = .ok (.getfield 9, 3) := by decide +kernel
theorem dX0_tryInto_68 : decode cX0_tryInto 68 = .ok (.iload_n 1, 1) := by decide +kernel
theorem dX0_tryInto_69 : decode cX0_tryInto 69 = .ok (.iconst 1, 1) := by decide +kernel
theorem dX0_tryInto_70 : decode cX0_tryInto 70 = .ok (.iadd, 1) := by decide +kernel
theorem dX0_tryInto_71 : decode cX0_tryInto 71 = .ok (.invokestatic 77, 3) := by decide +kernel
theorem dX0_tryInto_74 : decode cX0_tryInto 74 = .ok (.iload 4, 2) := by decide +kernel
theorem dX0_tryInto_76 : decode cX0_tryInto 76 = .ok (.iadd, 1) := by decide +kernel
theorem dX0_tryInto_77 : decode cX0_tryInto 77 = .ok (.iload 7, 2) := by decide +kernel
theorem dX0_tryInto_79 : decode cX0_tryInto 79 = .ok (.ifCond .eq 7, 3) := by decide +kernel
theorem dX0_tryInto_82 : decode cX0_tryInto 82 = .ok (.lconst 0, 1) := by decide +kernel
theorem dX0_tryInto_83 : decode cX0_tryInto 83 = .ok (.goto 5, 3) := by decide +kernel
theorem dX0_tryInto_86 : decode cX0_tryInto 86 = .ok (.lload 5, 2) := by decide +kernel
theorem dX0_tryInto_88 : decode cX0_tryInto 88 = .ok (.invokestatic 40, 3) := by decide +kernel
theorem dX0_tryInto_91 : decode cX0_tryInto 91 = .ok (.iinc 4 1, 3) := by decide +kernel
theorem dX0_tryInto_94 : decode cX0_tryInto 94 = .ok (.goto (-89), 3) := by decide +kernel
theorem dX0_tryInto_97 : decode cX0_tryInto 97 = .ok (.lload_n 2, 1) := by decide +kernel
theorem dX0_tryInto_98 : decode cX0_tryInto 98 = .ok (.lreturn, 1) := by decide +kernel
theorem dX0_weigh_0 : decode cX0_weigh 0 = .ok (.aload_n 0, 1) := by decide +kernel
theorem dX0_weigh_1 : decode cX0_weigh 1 = .ok (.iload_n 1, 1) := by decide +kernel
theorem dX0_weigh_2 : decode cX0_weigh 2 = .ok (.putfield 23, 3) := by decide +kernel
theorem dX0_weigh_5 : decode cX0_weigh 5 = .ok (.aload_n 0, 1) := by decide +kernel
theorem dX0_weigh_6 : decode cX0_weigh 6 = .ok (.aload_n 0, 1) := by decide +kernel
theorem dX0_weigh_7 : decode cX0_weigh 7 = .ok (.getfield 19, 3) := by decide +kernel
theorem dX0_weigh_10 : decode cX0_weigh 10 = .ok (.invokevirtual 27, 3) := by decide +kernel
theorem dX0_weigh_13 : decode cX0_weigh 13 = .ok (.putfield 33, 3) := by decide +kernel
theorem dX0_weigh_16 : decode cX0_weigh 16 = .ok (.iconst 0, 1) := by decide +kernel
theorem dX0_weigh_17 : decode cX0_weigh 17 = .ok (.istore_n 3, 1) := by decide +kernel
theorem dX0_weigh_18 : decode cX0_weigh 18 = .ok (.iload_n 3, 1) := by decide +kernel
theorem dX0_weigh_19 : decode cX0_weigh 19 = .ok (.aload_n 0, 1) := by decide +kernel
theorem dX0_weigh_20 : decode cX0_weigh 20 = .ok (.getfield 33, 3) := by decide +kernel
theorem dX0_weigh_23 : decode cX0_weigh 23 = .ok (.if_icmp .ge 30, 3) := by decide +kernel
theorem dX0_weigh_26 : decode cX0_weigh 26 = .ok (.aload_n 0, 1) := by decide +kernel
theorem dX0_weigh_27 : decode cX0_weigh 27 = .ok (.getfield 9, 3) := by decide +kernel
theorem dX0_weigh_30 : decode cX0_weigh 30 = .ok (.iload_n 3, 1) := by decide +kernel
theorem dX0_weigh_31 : decode cX0_weigh 31 = .ok (.aload_n 0, 1) := by decide +kernel
theorem dX0_weigh_32 : decode cX0_weigh 32 = .ok (.getfield 19, 3) := by decide +kernel
theorem dX0_weigh_35 : decode cX0_weigh 35 = .ok (.iload_n 3, 1) := by decide +kernel
theorem dX0_weigh_36 : decode cX0_weigh 36 = .ok (.iconst 1, 1) := by decide +kernel
theorem dX0_weigh_37 : decode cX0_weigh 37 = .ok (.ishr, 1) := by decide +kernel
theorem dX0_weigh_38 : decode cX0_weigh 38 = .ok (.iload_n 3, 1) := by decide +kernel
theorem dX0_weigh_39 : decode cX0_weigh 39 = .ok (.iconst 1, 1) := by decide +kernel
theorem dX0_weigh_40 : decode cX0_weigh 40 = .ok (.iand, 1) := by decide +kernel
theorem dX0_weigh_41 : decode cX0_weigh 41 = .ok (.invokevirtual 36, 3) := by decide +kernel
theorem dX0_weigh_44 : decode cX0_weigh 44 = .ok (.invokestatic 40, 3) := by decide +kernel
theorem dX0_weigh_47 : decode cX0_weigh 47 = .ok (.iinc 3 1, 3) := by decide +kernel
theorem dX0_weigh_50 : decode cX0_weigh 50 = .ok (.goto (-32), 3) := by decide +kernel
theorem dX0_weigh_53 : decode cX0_weigh 53 = .ok (.aload_n 0, 1) := by decide +kernel
theorem dX0_weigh_54 : decode cX0_weigh 54 = .ok (.ldc2_w 44, 3) := by decide +kernel
theorem dX0_weigh_57 : decode cX0_weigh 57 = .ok (.putfield 46, 3) := by decide +kernel
theorem dX0_weigh_60 : decode cX0_weigh 60 = .ok (.aload_n 0, 1) := by decide +kernel
theorem dX0_weigh_61 : decode cX0_weigh 61 = .ok (.iconst (-1), 1) := by decide +kernel
theorem dX0_weigh_62 : decode cX0_weigh 62 = .ok (.putfield 50, 3) := by decide +kernel
theorem dX0_weigh_65 : decode cX0_weigh 65 = .ok (.iconst 0, 1) := by decide +kernel
theorem dX0_weigh_66 : decode cX0_weigh 66 = .ok (.istore_n 3, 1) := by decide +kernel
theorem dX0_weigh_67 : decode cX0_weigh 67 = .ok (.iload_n 3, 1) := by decide +kernel
theorem dX0_weigh_68 : decode cX0_weigh 68 = .ok (.iconst 2, 1) := by decide +kernel
theorem dX0_weigh_69 : decode cX0_weigh 69 = .ok (.aload_n 0, 1) := by decide +kernel
theorem dX0_weigh_70 : decode cX0_weigh 70 = .ok (.getfield 15, 3) := by decide +kernel
theorem dX0_weigh_73 : decode cX0_weigh 73 = .ok (.getfield 53, 3) := by decide +kernel
theorem dX0_weigh_76 : decode cX0_weigh 76 = .ok (.iadd, 1) := by decide +kernel
theorem dX0_weigh_77 : decode cX0_weigh 77 = .ok (.if_icmp .ge 39, 3) := by decide +kernel
theorem dX0_weigh_80 : decode cX0_weigh 80 = .ok (.aload_n 0, 1) := by decide +kernel
theorem dX0_weigh_81 : decode cX0_weigh 81 = .ok (.iload_n 3, 1) := by decide +kernel
theorem dX0_weigh_82 : decode cX0_weigh 82 = .ok (.iconst 0, 1) := by decide +kernel
theorem dX0_weigh_83 : decode cX0_weigh 83 = .ok (.iload_n 2, 1) := by decide +kernel
theorem dX0_weigh_84 : decode cX0_weigh 84 = .ok (.invokevirtual 58, 3) := by decide +kernel
theorem dX0_weigh_87 : decode cX0_weigh 87 = .ok (.lstore 4, 2) := by decide +kernel
theorem dX0_weigh_89 : decode cX0_weigh 89 = .ok (.lload 4, 2) := by decide +kernel
theorem dX0_weigh_91 : decode cX0_weigh 91 = .ok (.aload_n 0, 1) := by decide +kernel
theorem dX0_weigh_92 : decode cX0_weigh 92 = .ok (.getfield 46, 3) := by decide +kernel
theorem dX0_weigh_95 : decode cX0_weigh 95 = .ok (.lcmp, 1) := by decide +kernel
theorem dX0_weigh_96 : decode cX0_weigh 96 = .ok (.ifCond .le 14, 3) := by decide +kernel
theorem dX0_weigh_99 : decode cX0_weigh 99 = .ok (.aload_n 0, 1) := by decide +kernel
theorem dX0_weigh_100 : decode cX0_weigh 100 = .ok (.lload 4, 2) := by decide +kernel
theorem dX0_weigh_102 : decode cX0_weigh 102 = .ok (.putfield 46, 3) := by decide +kernel
theorem dX0_weigh_105 : decode cX0_weigh 105 = .ok (.aload_n 0, 1) := by decide +kernel
theorem dX0_weigh_106 : decode cX0_weigh 106 = .ok (.iload_n 3, 1) := by decide +kernel
theorem dX0_weigh_107 : decode cX0_weigh 107 = .ok (.putfield 50, 3) := by decide +kernel
theorem dX0_weigh_110 : decode cX0_weigh 110 = .ok (.iinc 3 1, 3) := by decide +kernel
theorem dX0_weigh_113 : decode cX0_weigh 113 = .ok (.goto (-46), 3) := by decide +kernel
theorem dX0_weigh_116 : decode cX0_weigh 116 = .ok (.return_, 1) := by decide +kernel
theorem dX0_worthAfter_0 : decode cX0_worthAfter 0 = .ok (.iload_n 3, 1) := by decide +kernel
theorem dX0_worthAfter_1 : decode cX0_worthAfter 1 = .ok (.ifCond .le 8, 3) := by decide +kernel
theorem dX0_worthAfter_4 : decode cX0_worthAfter 4 = .ok (.iload_n 2, 1) := by decide +kernel
theorem dX0_worthAfter_5 : decode cX0_worthAfter 5 = .ok (.iconst 4, 1) := by decide +kernel
theorem dX0_worthAfter_6 : decode cX0_worthAfter 6 = .ok (.if_icmp .lt 5, 3) := by decide +kernel
theorem dX0_worthAfter_9 : decode cX0_worthAfter 9 = .ok (.lconst 0, 1) := by decide +kernel
theorem dX0_worthAfter_10 : decode cX0_worthAfter 10 = .ok (.lreturn, 1) := by decide +kernel
theorem dX0_worthAfter_11 : decode cX0_worthAfter 11 = .ok (.iload_n 1, 1) := by decide +kernel
theorem dX0_worthAfter_12 : decode cX0_worthAfter 12 = .ok (.ifCond .ne 32, 3) := by decide +kernel
theorem dX0_worthAfter_15 : decode cX0_worthAfter 15 = .ok (.aload_n 0, 1) := by decide +kernel
theorem dX0_worthAfter_16 : decode cX0_worthAfter 16 = .ok (.iload_n 2, 1) := by decide +kernel
theorem dX0_worthAfter_17 : decode cX0_worthAfter 17 = .ok (.invokevirtual 68, 3) := by decide +kernel
theorem dX0_worthAfter_20 : decode cX0_worthAfter 20 = .ok (.lstore 4, 2) := by decide +kernel
theorem dX0_worthAfter_22 : decode cX0_worthAfter 22 = .ok (.lload 4, 2) := by decide +kernel
theorem dX0_worthAfter_24 : decode cX0_worthAfter 24 = .ok (.iconst 4, 1) := by decide +kernel
theorem dX0_worthAfter_25 : decode cX0_worthAfter 25 = .ok (.iload_n 3, 1) := by decide +kernel
theorem dX0_worthAfter_26 : decode cX0_worthAfter 26 = .ok (.imul, 1) := by decide +kernel
theorem dX0_worthAfter_27 : decode cX0_worthAfter 27 = .ok (.lshl, 1) := by decide +kernel
theorem dX0_worthAfter_28 : decode cX0_worthAfter 28 = .ok (.ldc2_w 72, 3) := by decide +kernel
theorem dX0_worthAfter_31 : decode cX0_worthAfter 31 = .ok (.aload_n 0, 1) := by decide +kernel
theorem dX0_worthAfter_32 : decode cX0_worthAfter 32 = .ok (.iload_n 2, 1) := by decide +kernel
theorem dX0_worthAfter_33 : decode cX0_worthAfter 33 = .ok (.iconst 1, 1) := by decide +kernel
theorem dX0_worthAfter_34 : decode cX0_worthAfter 34 = .ok (.iadd, 1) := by decide +kernel
theorem dX0_worthAfter_35 : decode cX0_worthAfter 35 = .ok (.iload_n 3, 1) := by decide +kernel
theorem dX0_worthAfter_36 : decode cX0_worthAfter 36 = .ok (.iconst 1, 1) := by decide +kernel
theorem dX0_worthAfter_37 : decode cX0_worthAfter 37 = .ok (.isub, 1) := by decide +kernel
theorem dX0_worthAfter_38 : decode cX0_worthAfter 38 = .ok (.invokevirtual 74, 3) := by decide +kernel
theorem dX0_worthAfter_41 : decode cX0_worthAfter 41 = .ok (.lmul, 1) := by decide +kernel
theorem dX0_worthAfter_42 : decode cX0_worthAfter 42 = .ok (.ladd, 1) := by decide +kernel
theorem dX0_worthAfter_43 : decode cX0_worthAfter 43 = .ok (.lreturn, 1) := by decide +kernel
theorem dX0_worthAfter_44 : decode cX0_worthAfter 44 = .ok (.iload_n 1, 1) := by decide +kernel
theorem dX0_worthAfter_45 : decode cX0_worthAfter 45 = .ok (.iconst 1, 1) := by decide +kernel
theorem dX0_worthAfter_46 : decode cX0_worthAfter 46 = .ok (.if_icmp .ne 46, 3) := by decide +kernel
theorem dX0_worthAfter_49 : decode cX0_worthAfter 49 = .ok (.aload_n 0, 1) := by decide +kernel
theorem dX0_worthAfter_50 : decode cX0_worthAfter 50 = .ok (.getfield 9, 3) := by decide +kernel
theorem dX0_worthAfter_53 : decode cX0_worthAfter 53 = .ok (.iload_n 2, 1) := by decide +kernel
theorem dX0_worthAfter_54 : decode cX0_worthAfter 54 = .ok (.invokestatic 77, 3) := by decide +kernel
theorem dX0_worthAfter_57 : decode cX0_worthAfter 57 = .ok (.aload_n 0, 1) := by decide +kernel
theorem dX0_worthAfter_58 : decode cX0_worthAfter 58 = .ok (.getfield 9, 3) := by decide +kernel
theorem dX0_worthAfter_61 : decode cX0_worthAfter 61 = .ok (.iload_n 2, 1) := by decide +kernel
theorem dX0_worthAfter_62 : decode cX0_worthAfter 62 = .ok (.iconst 1, 1) := by decide +kernel
theorem dX0_worthAfter_63 : decode cX0_worthAfter 63 = .ok (.iadd, 1) := by decide +kernel
theorem dX0_worthAfter_64 : decode cX0_worthAfter 64 = .ok (.invokestatic 77, 3) := by decide +kernel
theorem dX0_worthAfter_67 : decode cX0_worthAfter 67 = .ok (.aload_n 0, 1) := by decide +kernel
theorem dX0_worthAfter_68 : decode cX0_worthAfter 68 = .ok (.getfield 19, 3) := by decide +kernel
theorem dX0_worthAfter_71 : decode cX0_worthAfter 71 = .ok (.getfield 81, 3) := by decide +kernel
theorem dX0_worthAfter_74 : decode cX0_worthAfter 74 = .ok (.invokestatic 84, 3) := by decide +kernel
theorem dX0_worthAfter_77 : decode cX0_worthAfter 77 = .ok (.ldc2_w 72, 3) := by decide +kernel
theorem dX0_worthAfter_80 : decode cX0_worthAfter 80 = .ok (.aload_n 0, 1) := by decide +kernel
theorem dX0_worthAfter_81 : decode cX0_worthAfter 81 = .ok (.iload_n 2, 1) := by decide +kernel
theorem dX0_worthAfter_82 : decode cX0_worthAfter 82 = .ok (.iconst 1, 1) := by decide +kernel
theorem dX0_worthAfter_83 : decode cX0_worthAfter 83 = .ok (.iadd, 1) := by decide +kernel
theorem dX0_worthAfter_84 : decode cX0_worthAfter 84 = .ok (.iload_n 3, 1) := by decide +kernel
theorem dX0_worthAfter_85 : decode cX0_worthAfter 85 = .ok (.iconst 1, 1) := by decide +kernel
theorem dX0_worthAfter_86 : decode cX0_worthAfter 86 = .ok (.isub, 1) := by decide +kernel
theorem dX0_worthAfter_87 : decode cX0_worthAfter 87 = .ok (.invokevirtual 74, 3) := by decide +kernel
theorem dX0_worthAfter_90 : decode cX0_worthAfter 90 = .ok (.lmul, 1) := by decide +kernel
theorem dX0_worthAfter_91 : decode cX0_worthAfter 91 = .ok (.lreturn, 1) := by decide +kernel
theorem dX0_worthAfter_92 : decode cX0_worthAfter 92 = .ok (.iload_n 1, 1) := by decide +kernel
theorem dX0_worthAfter_93 : decode cX0_worthAfter 93 = .ok (.iconst 2, 1) := by decide +kernel
theorem dX0_worthAfter_94 : decode cX0_worthAfter 94 = .ok (.isub, 1) := by decide +kernel
theorem dX0_worthAfter_95 : decode cX0_worthAfter 95 = .ok (.istore 4, 2) := by decide +kernel
theorem dX0_worthAfter_97 : decode cX0_worthAfter 97 = .ok (.lconst 0, 1) := by decide +kernel
theorem dX0_worthAfter_98 : decode cX0_worthAfter 98 = .ok (.lstore 5, 2) := by decide +kernel
theorem dX0_worthAfter_100 : decode cX0_worthAfter 100 = .ok (.iconst 0, 1) := by decide +kernel
theorem dX0_worthAfter_101 : decode cX0_worthAfter 101 = .ok (.istore 7, 2) := by decide +kernel
theorem dX0_worthAfter_103 : decode cX0_worthAfter 103 = .ok (.iload 7, 2) := by decide +kernel
theorem dX0_worthAfter_105 : decode cX0_worthAfter 105 = .ok (.aload_n 0, 1) := by decide +kernel
theorem dX0_worthAfter_106 : decode cX0_worthAfter 106 = .ok (.getfield 15, 3) := by decide +kernel
theorem dX0_worthAfter_109 : decode cX0_worthAfter 109 = .ok (.iload 4, 2) := by decide +kernel
theorem dX0_worthAfter_111 : decode cX0_worthAfter 111 = .ok (.invokevirtual 88, 3) := by decide +kernel
theorem dX0_worthAfter_114 : decode cX0_worthAfter 114 = .ok (.if_icmp .ge 36, 3) := by decide +kernel
theorem dX0_worthAfter_117 : decode cX0_worthAfter 117 = .ok (.aload_n 0, 1) := by decide +kernel
theorem dX0_worthAfter_118 : decode cX0_worthAfter 118 = .ok (.iload_n 2, 1) := by decide +kernel
theorem dX0_worthAfter_119 : decode cX0_worthAfter 119 = .ok (.iload 4, 2) := by decide +kernel
theorem dX0_worthAfter_121 : decode cX0_worthAfter 121 = .ok (.iload 7, 2) := by decide +kernel
theorem dX0_worthAfter_123 : decode cX0_worthAfter 123 = .ok (.invokevirtual 91, 3) := by decide +kernel
theorem dX0_worthAfter_126 : decode cX0_worthAfter 126 = .ok (.ifCond .eq 18, 3) := by decide +kernel
theorem dX0_worthAfter_129 : decode cX0_worthAfter 129 = .ok (.lload 5, 2) := by decide +kernel
theorem dX0_worthAfter_131 : decode cX0_worthAfter 131 = .ok (.aload_n 0, 1) := by decide +kernel
theorem dX0_worthAfter_132 : decode cX0_worthAfter 132 = .ok (.iload_n 2, 1) := by decide +kernel
theorem dX0_worthAfter_133 : decode cX0_worthAfter 133 = .ok (.iconst 1, 1) := by decide +kernel
theorem dX0_worthAfter_134 : decode cX0_worthAfter 134 = .ok (.iadd, 1) := by decide +kernel
theorem dX0_worthAfter_135 : decode cX0_worthAfter 135 = .ok (.iload_n 3, 1) := by decide +kernel
theorem dX0_worthAfter_136 : decode cX0_worthAfter 136 = .ok (.iconst 1, 1) := by decide +kernel
theorem dX0_worthAfter_137 : decode cX0_worthAfter 137 = .ok (.isub, 1) := by decide +kernel
theorem dX0_worthAfter_138 : decode cX0_worthAfter 138 = .ok (.invokevirtual 74, 3) := by decide +kernel
theorem dX0_worthAfter_141 : decode cX0_worthAfter 141 = .ok (.ladd, 1) := by decide +kernel
theorem dX0_worthAfter_142 : decode cX0_worthAfter 142 = .ok (.lstore 5, 2) := by decide +kernel
theorem dX0_worthAfter_144 : decode cX0_worthAfter 144 = .ok (.iinc 7 1, 3) := by decide +kernel
theorem dX0_worthAfter_147 : decode cX0_worthAfter 147 = .ok (.goto (-44), 3) := by decide +kernel
theorem dX0_worthAfter_150 : decode cX0_worthAfter 150 = .ok (.lload 5, 2) := by decide +kernel
theorem dX0_worthAfter_152 : decode cX0_worthAfter 152 = .ok (.lreturn, 1) := by decide +kernel
theorem dX0_worthOf_0 : decode cX0_worthOf 0 = .ok (.iload_n 2, 1) := by decide +kernel
theorem dX0_worthOf_1 : decode cX0_worthOf 1 = .ok (.ifCond .le 8, 3) := by decide +kernel
theorem dX0_worthOf_4 : decode cX0_worthOf 4 = .ok (.iload_n 1, 1) := by decide +kernel
theorem dX0_worthOf_5 : decode cX0_worthOf 5 = .ok (.iconst 4, 1) := by decide +kernel
theorem dX0_worthOf_6 : decode cX0_worthOf 6 = .ok (.if_icmp .le 5, 3) := by decide +kernel
theorem dX0_worthOf_9 : decode cX0_worthOf 9 = .ok (.lconst 0, 1) := by decide +kernel
theorem dX0_worthOf_10 : decode cX0_worthOf 10 = .ok (.lreturn, 1) := by decide +kernel
theorem dX0_worthOf_11 : decode cX0_worthOf 11 = .ok (.aload_n 0, 1) := by decide +kernel
theorem dX0_worthOf_12 : decode cX0_worthOf 12 = .ok (.iconst 0, 1) := by decide +kernel
theorem dX0_worthOf_13 : decode cX0_worthOf 13 = .ok (.iload_n 1, 1) := by decide +kernel
theorem dX0_worthOf_14 : decode cX0_worthOf 14 = .ok (.iload_n 2, 1) := by decide +kernel
theorem dX0_worthOf_15 : decode cX0_worthOf 15 = .ok (.invokevirtual 58, 3) := by decide +kernel
theorem dX0_worthOf_18 : decode cX0_worthOf 18 = .ok (.aload_n 0, 1) := by decide +kernel
theorem dX0_worthOf_19 : decode cX0_worthOf 19 = .ok (.iconst 1, 1) := by decide +kernel
theorem dX0_worthOf_20 : decode cX0_worthOf 20 = .ok (.iload_n 1, 1) := by decide +kernel
theorem dX0_worthOf_21 : decode cX0_worthOf 21 = .ok (.iload_n 2, 1) := by decide +kernel
theorem dX0_worthOf_22 : decode cX0_worthOf 22 = .ok (.invokevirtual 58, 3) := by decide +kernel
theorem dX0_worthOf_25 : decode cX0_worthOf 25 = .ok (.invokestatic 62, 3) := by decide +kernel
theorem dX0_worthOf_28 : decode cX0_worthOf 28 = .ok (.lreturn, 1) := by decide +kernel
theorem dX10_copyFrom_0 : decode cX10_copyFrom 0 = .ok (.aload_n 1, 1) := by decide +kernel
theorem dX10_copyFrom_1 : decode cX10_copyFrom 1 = .ok (.iload_n 2, 1) := by decide +kernel
theorem dX10_copyFrom_2 : decode cX10_copyFrom 2 = .ok (.iload 4, 2) := by decide +kernel
theorem dX10_copyFrom_4 : decode cX10_copyFrom 4 = .ok (.invokevirtual 40, 3) := by decide +kernel
theorem dX10_copyFrom_7 : decode cX10_copyFrom 7 = .ok (.ifCond .eq 28, 3) := by decide +kernel
theorem dX10_copyFrom_10 : decode cX10_copyFrom 10 = .ok (.aload_n 0, 1) := by decide +kernel
theorem dX10_copyFrom_11 : decode cX10_copyFrom 11 = .ok (.iload_n 3, 1) := by decide +kernel
theorem dX10_copyFrom_12 : decode cX10_copyFrom 12 = .ok (.iload 4, 2) := by decide +kernel
theorem dX10_copyFrom_14 : decode cX10_copyFrom 14 = .ok (.invokevirtual 40, 3) := by decide +kernel
theorem dX10_copyFrom_17 : decode cX10_copyFrom 17 = .ok (.ifCond .eq 18, 3) := by decide +kernel
theorem dX10_copyFrom_20 : decode cX10_copyFrom 20 = .ok (.aload_n 1, 1) := by decide +kernel
theorem dX10_copyFrom_21 : decode cX10_copyFrom 21 = .ok (.getfield 18, 3) := by decide +kernel
theorem dX10_copyFrom_24 : decode cX10_copyFrom 24 = .ok (.iload_n 2, 1) := by decide +kernel
theorem dX10_copyFrom_25 : decode cX10_copyFrom 25 = .ok (.aload_n 0, 1) := by decide +kernel
theorem dX10_copyFrom_26 : decode cX10_copyFrom 26 = .ok (.getfield 18, 3) := by decide +kernel
theorem dX10_copyFrom_29 : decode cX10_copyFrom 29 = .ok (.iload_n 3, 1) := by decide +kernel
theorem dX10_copyFrom_30 : decode cX10_copyFrom 30 = .ok (.iload 4, 2) := by decide +kernel
theorem dX10_copyFrom_32 : decode cX10_copyFrom 32 = .ok (.invokestatic 44, 3) := by decide +kernel
theorem dX10_copyFrom_35 : decode cX10_copyFrom 35 = .ok (.return_, 1) := by decide +kernel
theorem dX10_cut_0 : decode cX10_cut 0 = .ok (.aload_n 0, 1) := by decide +kernel
theorem dX10_cut_1 : decode cX10_cut 1 = .ok (.getfield 9, 3) := by decide +kernel
theorem dX10_cut_4 : decode cX10_cut 4 = .ok (.tableswitch 42 0 2 #[28, 33, 38], 28) := by decide +kernel
theorem dX10_cut_32 : decode cX10_cut 32 = .ok (.lload_n 1, 1) := by decide +kernel
theorem dX10_cut_33 : decode cX10_cut 33 = .ok (.l2i, 1) := by decide +kernel
theorem dX10_cut_34 : decode cX10_cut 34 = .ok (.i2b, 1) := by decide +kernel
theorem dX10_cut_35 : decode cX10_cut 35 = .ok (.i2l, 1) := by decide +kernel
theorem dX10_cut_36 : decode cX10_cut 36 = .ok (.lreturn, 1) := by decide +kernel
theorem dX10_cut_37 : decode cX10_cut 37 = .ok (.lload_n 1, 1) := by decide +kernel
theorem dX10_cut_38 : decode cX10_cut 38 = .ok (.l2i, 1) := by decide +kernel
theorem dX10_cut_39 : decode cX10_cut 39 = .ok (.i2s, 1) := by decide +kernel
theorem dX10_cut_40 : decode cX10_cut 40 = .ok (.i2l, 1) := by decide +kernel
theorem dX10_cut_41 : decode cX10_cut 41 = .ok (.lreturn, 1) := by decide +kernel
theorem dX10_cut_42 : decode cX10_cut 42 = .ok (.lload_n 1, 1) := by decide +kernel
theorem dX10_cut_43 : decode cX10_cut 43 = .ok (.l2i, 1) := by decide +kernel
theorem dX10_cut_44 : decode cX10_cut 44 = .ok (.i2l, 1) := by decide +kernel
theorem dX10_cut_45 : decode cX10_cut 45 = .ok (.lreturn, 1) := by decide +kernel
theorem dX10_cut_46 : decode cX10_cut 46 = .ok (.lload_n 1, 1) := by decide +kernel
theorem dX10_cut_47 : decode cX10_cut 47 = .ok (.lreturn, 1) := by decide +kernel
theorem dX10_fresh_0 : decode cX10_fresh 0 = .ok (.aload_n 0, 1) := by decide +kernel
theorem dX10_fresh_1 : decode cX10_fresh 1 = .ok (.iload_n 1, 1) := by decide +kernel
theorem dX10_fresh_2 : decode cX10_fresh 2 = .ok (.putfield 9, 3) := by decide +kernel
theorem dX10_fresh_5 : decode cX10_fresh 5 = .ok (.aload_n 0, 1) := by decide +kernel
theorem dX10_fresh_6 : decode cX10_fresh 6 = .ok (.iload_n 2, 1) := by decide +kernel
theorem dX10_fresh_7 : decode cX10_fresh 7 = .ok (.putfield 15, 3) := by decide +kernel
theorem dX10_fresh_10 : decode cX10_fresh 10 = .ok (.aload_n 0, 1) := by decide +kernel
theorem dX10_fresh_11 : decode cX10_fresh 11 = .ok (.getfield 18, 3) := by decide +kernel
theorem dX10_fresh_14 : decode cX10_fresh 14 = .ok (.lconst 0, 1) := by decide +kernel
theorem dX10_fresh_15 : decode cX10_fresh 15 = .ok (.invokestatic 22, 3) := by decide +kernel
theorem dX10_fresh_18 : decode cX10_fresh 18 = .ok (.return_, 1) := by decide +kernel
theorem dX10_hasPlace_0 : decode cX10_hasPlace 0 = .ok (.iload_n 1, 1) := by decide +kernel
theorem dX10_hasPlace_1 : decode cX10_hasPlace 1 = .ok (.ifCond .lt 15, 3) := by decide +kernel
theorem dX10_hasPlace_4 : decode cX10_hasPlace 4 = .ok (.iload_n 1, 1) := by decide +kernel
theorem dX10_hasPlace_5 : decode cX10_hasPlace 5 = .ok (.aload_n 0, 1) := by decide +kernel
theorem dX10_hasPlace_6 : decode cX10_hasPlace 6 = .ok (.getfield 15, 3) := by decide +kernel
theorem dX10_hasPlace_9 : decode cX10_hasPlace 9 = .ok (.if_icmp .ge 7, 3) := by decide +kernel
theorem dX10_hasPlace_12 : decode cX10_hasPlace 12 = .ok (.iconst 1, 1) := by decide +kernel
theorem dX10_hasPlace_13 : decode cX10_hasPlace 13 = .ok (.goto 4, 3) := by decide +kernel
theorem dX10_hasPlace_16 : decode cX10_hasPlace 16 = .ok (.iconst 0, 1) := by decide +kernel
theorem dX10_hasPlace_17 : decode cX10_hasPlace 17 = .ok (.ireturn, 1) := by decide +kernel
theorem dX10_hasPlaces_0 : decode cX10_hasPlaces 0 = .ok (.iload_n 1, 1) := by decide +kernel
theorem dX10_hasPlaces_1 : decode cX10_hasPlaces 1 = .ok (.ifCond .lt 21, 3) := by decide +kernel
theorem dX10_hasPlaces_4 : decode cX10_hasPlaces 4 = .ok (.iload_n 2, 1) := by decide +kernel
theorem dX10_hasPlaces_5 : decode cX10_hasPlaces 5 = .ok (.ifCond .lt 17, 3) := by decide +kernel
theorem dX10_hasPlaces_8 : decode cX10_hasPlaces 8 = .ok (.iload_n 1, 1) := by decide +kernel
theorem dX10_hasPlaces_9 : decode cX10_hasPlaces 9 = .ok (.aload_n 0, 1) := by decide +kernel
theorem dX10_hasPlaces_10 : decode cX10_hasPlaces 10 = .ok (.getfield 15, 3) := by decide +kernel
theorem dX10_hasPlaces_13 : decode cX10_hasPlaces 13 = .ok (.iload_n 2, 1) := by decide +kernel
theorem dX10_hasPlaces_14 : decode cX10_hasPlaces 14 = .ok (.isub, 1) := by decide +kernel
theorem dX10_hasPlaces_15 : decode cX10_hasPlaces 15 = .ok (.if_icmp .gt 7, 3) := by decide +kernel
theorem dX10_hasPlaces_18 : decode cX10_hasPlaces 18 = .ok (.iconst 1, 1) := by decide +kernel
theorem dX10_hasPlaces_19 : decode cX10_hasPlaces 19 = .ok (.goto 4, 3) := by decide +kernel
theorem dX10_hasPlaces_22 : decode cX10_hasPlaces 22 = .ok (.iconst 0, 1) := by decide +kernel
theorem dX10_hasPlaces_23 : decode cX10_hasPlaces 23 = .ok (.ireturn, 1) := by decide +kernel
theorem dX10_isMissing_0 : decode cX10_isMissing 0 = .ok (.aload_n 0, 1) := by decide +kernel
theorem dX10_isMissing_1 : decode cX10_isMissing 1 = .ok (.getfield 15, 3) := by decide +kernel
theorem dX10_isMissing_4 : decode cX10_isMissing 4 = .ok (.iconst (-1), 1) := by decide +kernel
theorem dX10_isMissing_5 : decode cX10_isMissing 5 = .ok (.if_icmp .ne 7, 3) := by decide +kernel
theorem dX10_isMissing_8 : decode cX10_isMissing 8 = .ok (.iconst 1, 1) := by decide +kernel
theorem dX10_isMissing_9 : decode cX10_isMissing 9 = .ok (.goto 4, 3) := by decide +kernel
theorem dX10_isMissing_12 : decode cX10_isMissing 12 = .ok (.iconst 0, 1) := by decide +kernel
theorem dX10_isMissing_13 : decode cX10_isMissing 13 = .ok (.ireturn, 1) := by decide +kernel
theorem dX10_keep_0 : decode cX10_keep 0 = .ok (.aload_n 0, 1) := by decide +kernel
theorem dX10_keep_1 : decode cX10_keep 1 = .ok (.getfield 18, 3) := by decide +kernel
theorem dX10_keep_4 : decode cX10_keep 4 = .ok (.iload_n 1, 1) := by decide +kernel
theorem dX10_keep_5 : decode cX10_keep 5 = .ok (.aload_n 0, 1) := by decide +kernel
theorem dX10_keep_6 : decode cX10_keep 6 = .ok (.lload_n 2, 1) := by decide +kernel
theorem dX10_keep_7 : decode cX10_keep 7 = .ok (.invokevirtual 32, 3) := by decide +kernel
theorem dX10_keep_10 : decode cX10_keep 10 = .ok (.invokestatic 36, 3) := by decide +kernel
theorem dX10_keep_13 : decode cX10_keep 13 = .ok (.return_, 1) := by decide +kernel
theorem dX10_numberAt_0 : decode cX10_numberAt 0 = .ok (.aload_n 0, 1) := by decide +kernel
theorem dX10_numberAt_1 : decode cX10_numberAt 1 = .ok (.getfield 18, 3) := by decide +kernel
theorem dX10_numberAt_4 : decode cX10_numberAt 4 = .ok (.iload_n 1, 1) := by decide +kernel
theorem dX10_numberAt_5 : decode cX10_numberAt 5 = .ok (.invokestatic 28, 3) := by decide +kernel
theorem dX10_numberAt_8 : decode cX10_numberAt 8 = .ok (.lreturn, 1) := by decide +kernel
theorem dX11_alike_0 : decode cX11_alike 0 = .ok (.aload_n 0, 1) := by decide +kernel
theorem dX11_alike_1 : decode cX11_alike 1 = .ok (.getfield 36, 3) := by decide +kernel
theorem dX11_alike_4 : decode cX11_alike 4 = .ok (.iload_n 1, 1) := by decide +kernel
theorem dX11_alike_5 : decode cX11_alike 5 = .ok (.invokevirtual 266, 3) := by decide +kernel
theorem dX11_alike_8 : decode cX11_alike 8 = .ok (.ifCond .ne 9, 3) := by decide +kernel
theorem dX11_alike_11 : decode cX11_alike 11 = .ok (.aload_n 0, 1) := by decide +kernel
theorem dX11_alike_12 : decode cX11_alike 12 = .ok (.iconst 2, 1) := by decide +kernel
theorem dX11_alike_13 : decode cX11_alike 13 = .ok (.invokevirtual 148, 3) := by decide +kernel
theorem dX11_alike_16 : decode cX11_alike 16 = .ok (.ireturn, 1) := by decide +kernel
theorem dX11_alike_17 : decode cX11_alike 17 = .ok (.aload_n 0, 1) := by decide +kernel
theorem dX11_alike_18 : decode cX11_alike 18 = .ok (.getfield 84, 3) := by decide +kernel
theorem dX11_alike_21 : decode cX11_alike 21 = .ok (.iload_n 1, 1) := by decide +kernel
theorem dX11_alike_22 : decode cX11_alike 22 = .ok (.invokevirtual 412, 3) := by decide +kernel
theorem dX11_alike_25 : decode cX11_alike 25 = .ok (.aload_n 0, 1) := by decide +kernel
theorem dX11_alike_26 : decode cX11_alike 26 = .ok (.aload_n 0, 1) := by decide +kernel
theorem dX11_alike_27 : decode cX11_alike 27 = .ok (.getfield 84, 3) := by decide +kernel
theorem dX11_alike_30 : decode cX11_alike 30 = .ok (.invokevirtual 413, 3) := by decide +kernel
theorem dX11_alike_33 : decode cX11_alike 33 = .ok (.invokevirtual 195, 3) := by decide +kernel
theorem dX11_alike_36 : decode cX11_alike 36 = .ok (.ireturn, 1) := by decide +kernel
theorem dX11_anywhere_0 : decode cX11_anywhere 0 = .ok (.aload_n 0, 1) := by decide +kernel
theorem dX11_anywhere_1 : decode cX11_anywhere 1 = .ok (.getfield 36, 3) := by decide +kernel
theorem dX11_anywhere_4 : decode cX11_anywhere 4 = .ok (.iload_n 1, 1) := by decide +kernel
theorem dX11_anywhere_5 : decode cX11_anywhere 5 = .ok (.invokevirtual 266, 3) := by decide +kernel
theorem dX11_anywhere_8 : decode cX11_anywhere 8 = .ok (.ifCond .ne 9, 3) := by decide +kernel
theorem dX11_anywhere_11 : decode cX11_anywhere 11 = .ok (.aload_n 0, 1) := by decide +kernel
theorem dX11_anywhere_12 : decode cX11_anywhere 12 = .ok (.iconst 2, 1) := by decide +kernel
theorem dX11_anywhere_13 : decode cX11_anywhere 13 = .ok (.invokevirtual 126, 3) := by decide +kernel
theorem dX11_anywhere_16 : decode cX11_anywhere 16 = .ok (.ireturn, 1) := by decide +kernel
theorem dX11_anywhere_17 : decode cX11_anywhere 17 = .ok (.aload_n 0, 1) := by decide +kernel
theorem dX11_anywhere_18 : decode cX11_anywhere 18 = .ok (.getfield 77, 3) := by decide +kernel
theorem dX11_anywhere_21 : decode cX11_anywhere 21 = .ok (.iload_n 1, 1) := by decide +kernel
theorem dX11_anywhere_22 : decode cX11_anywhere 22 = .ok (.invokevirtual 367, 3) := by decide +kernel
theorem dX11_anywhere_25 : decode cX11_anywhere 25 = .ok (.aload_n 0, 1) := by decide +kernel
theorem dX11_anywhere_26 : decode cX11_anywhere 26 = .ok (.getfield 77, 3) := by decide +kernel
theorem dX11_anywhere_29 : decode cX11_anywhere 29 = .ok (.invokevirtual 377, 3) := by decide +kernel
theorem dX11_anywhere_32 : decode cX11_anywhere 32 = .ok (.istore_n 2, 1) := by decide +kernel
theorem dX11_anywhere_33 : decode cX11_anywhere 33 = .ok (.iload_n 2, 1) := by decide +kernel
theorem dX11_anywhere_34 : decode cX11_anywhere 34 = .ok (.ifCond .ne 10, 3) := by decide +kernel
theorem dX11_anywhere_37 : decode cX11_anywhere 37 = .ok (.aload_n 0, 1) := by decide +kernel
theorem dX11_anywhere_38 : decode cX11_anywhere 38 = .ok (.bipush 8, 2) := by decide +kernel
theorem dX11_anywhere_40 : decode cX11_anywhere 40 = .ok (.invokevirtual 126, 3) := by decide +kernel
theorem dX11_anywhere_43 : decode cX11_anywhere 43 = .ok (.ireturn, 1) := by decide +kernel
theorem dX11_anywhere_44 : decode cX11_anywhere 44 = .ok (.aload_n 0, 1) := by decide +kernel
theorem dX11_anywhere_45 : decode cX11_anywhere 45 = .ok (.aload_n 0, 1) := by decide +kernel
theorem dX11_anywhere_46 : decode cX11_anywhere 46 = .ok (.getfield 77, 3) := by decide +kernel
theorem dX11_anywhere_49 : decode cX11_anywhere 49 = .ok (.invokevirtual 384, 3) := by decide +kernel
theorem dX11_anywhere_52 : decode cX11_anywhere 52 = .ok (.i2l, 1) := by decide +kernel
theorem dX11_anywhere_53 : decode cX11_anywhere 53 = .ok (.iload_n 2, 1) := by decide +kernel
theorem dX11_anywhere_54 : decode cX11_anywhere 54 = .ok (.i2l, 1) := by decide +kernel
theorem dX11_anywhere_55 : decode cX11_anywhere 55 = .ok (.aload_n 0, 1) := by decide +kernel
theorem dX11_anywhere_56 : decode cX11_anywhere 56 = .ok (.getfield 77, 3) := by decide +kernel
theorem dX11_anywhere_59 : decode cX11_anywhere 59 = .ok (.getfield 387, 3) := by decide +kernel
theorem dX11_anywhere_62 : decode cX11_anywhere 62 = .ok (.i2l, 1) := by decide +kernel
theorem dX11_anywhere_63 : decode cX11_anywhere 63 = .ok (.lmul, 1) := by decide +kernel
theorem dX11_anywhere_64 : decode cX11_anywhere 64 = .ok (.invokevirtual 351, 3) := by decide +kernel
theorem dX11_anywhere_67 : decode cX11_anywhere 67 = .ok (.ireturn, 1) := by decide +kernel
theorem dX11_apart_0 : decode cX11_apart 0 = .ok (.aload_n 0, 1) := by decide +kernel
theorem dX11_apart_1 : decode cX11_apart 1 = .ok (.getfield 36, 3) := by decide +kernel
theorem dX11_apart_4 : decode cX11_apart 4 = .ok (.iload_n 1, 1) := by decide +kernel
theorem dX11_apart_5 : decode cX11_apart 5 = .ok (.invokevirtual 266, 3) := by decide +kernel
theorem dX11_apart_8 : decode cX11_apart 8 = .ok (.ifCond .ne 9, 3) := by decide +kernel
theorem dX11_apart_11 : decode cX11_apart 11 = .ok (.aload_n 0, 1) := by decide +kernel
theorem dX11_apart_12 : decode cX11_apart 12 = .ok (.iconst 2, 1) := by decide +kernel
theorem dX11_apart_13 : decode cX11_apart 13 = .ok (.invokevirtual 148, 3) := by decide +kernel
theorem dX11_apart_16 : decode cX11_apart 16 = .ok (.ireturn, 1) := by decide +kernel
theorem dX11_apart_17 : decode cX11_apart 17 = .ok (.aload_n 0, 1) := by decide +kernel
theorem dX11_apart_18 : decode cX11_apart 18 = .ok (.getfield 84, 3) := by decide +kernel
theorem dX11_apart_21 : decode cX11_apart 21 = .ok (.iload_n 1, 1) := by decide +kernel
theorem dX11_apart_22 : decode cX11_apart 22 = .ok (.invokevirtual 412, 3) := by decide +kernel
theorem dX11_apart_25 : decode cX11_apart 25 = .ok (.aload_n 0, 1) := by decide +kernel
theorem dX11_apart_26 : decode cX11_apart 26 = .ok (.getfield 84, 3) := by decide +kernel
theorem dX11_apart_29 : decode cX11_apart 29 = .ok (.iload_n 2, 1) := by decide +kernel
theorem dX11_apart_30 : decode cX11_apart 30 = .ok (.invokevirtual 416, 3) := by decide +kernel
theorem dX11_apart_33 : decode cX11_apart 33 = .ok (.istore_n 3, 1) := by decide +kernel
theorem dX11_apart_34 : decode cX11_apart 34 = .ok (.iload_n 3, 1) := by decide +kernel
theorem dX11_apart_35 : decode cX11_apart 35 = .ok (.iconst (-1), 1) := by decide +kernel
theorem dX11_apart_36 : decode cX11_apart 36 = .ok (.if_icmp .ne 10, 3) := by decide +kernel
theorem dX11_apart_39 : decode cX11_apart 39 = .ok (.aload_n 0, 1) := by decide +kernel
theorem dX11_apart_40 : decode cX11_apart 40 = .ok (.bipush 8, 2) := by decide +kernel
theorem dX11_apart_42 : decode cX11_apart 42 = .ok (.invokevirtual 148, 3) := by decide +kernel
theorem dX11_apart_45 : decode cX11_apart 45 = .ok (.ireturn, 1) := by decide +kernel
theorem dX11_apart_46 : decode cX11_apart 46 = .ok (.aload_n 0, 1) := by decide +kernel
theorem dX11_apart_47 : decode cX11_apart 47 = .ok (.iload_n 3, 1) := by decide +kernel
theorem dX11_apart_48 : decode cX11_apart 48 = .ok (.invokevirtual 195, 3) := by decide +kernel
theorem dX11_apart_51 : decode cX11_apart 51 = .ok (.ireturn, 1) := by decide +kernel
theorem dX11_at_0 : decode cX11_at 0 = .ok (.iload_n 1, 1) := by decide +kernel
theorem dX11_at_1 : decode cX11_at 1 = .ok (.ifCond .lt 15, 3) := by decide +kernel
theorem dX11_at_4 : decode cX11_at 4 = .ok (.iload_n 1, 1) := by decide +kernel
theorem dX11_at_5 : decode cX11_at 5 = .ok (.aload_n 0, 1) := by decide +kernel
theorem dX11_at_6 : decode cX11_at 6 = .ok (.arraylength, 1) := by decide +kernel
theorem dX11_at_7 : decode cX11_at 7 = .ok (.if_icmp .ge 9, 3) := by decide +kernel
theorem dX11_at_10 : decode cX11_at 10 = .ok (.aload_n 0, 1) := by decide +kernel
theorem dX11_at_11 : decode cX11_at 11 = .ok (.iload_n 1, 1) := by decide +kernel
theorem dX11_at_12 : decode cX11_at 12 = .ok (.iaload, 1) := by decide +kernel
theorem dX11_at_13 : decode cX11_at 13 = .ok (.goto 4, 3) := by decide +kernel
theorem dX11_at_16 : decode cX11_at 16 = .ok (.iconst (-1), 1) := by decide +kernel
theorem dX11_at_17 : decode cX11_at 17 = .ok (.ireturn, 1) := by decide +kernel
theorem dX11_back_0 : decode cX11_back 0 = .ok (.aload_n 0, 1) := by decide +kernel
theorem dX11_back_1 : decode cX11_back 1 = .ok (.getfield 106, 3) := by decide +kernel
theorem dX11_back_4 : decode cX11_back 4 = .ok (.iconst 1, 1) := by decide +kernel
theorem dX11_back_5 : decode cX11_back 5 = .ok (.if_icmp .lt 11, 3) := by decide +kernel
theorem dX11_back_8 : decode cX11_back 8 = .ok (.aload_n 0, 1) := by decide +kernel
theorem dX11_back_9 : decode cX11_back 9 = .ok (.getfield 106, 3) := by decide +kernel
theorem dX11_back_12 : decode cX11_back 12 = .ok (.iconst 3, 1) := by decide +kernel
theorem dX11_back_13 : decode cX11_back 13 = .ok (.if_icmp .le 10, 3) := by decide +kernel
theorem dX11_back_16 : decode cX11_back 16 = .ok (.aload_n 0, 1) := by decide +kernel
theorem dX11_back_17 : decode cX11_back 17 = .ok (.bipush 8, 2) := by decide +kernel
theorem dX11_back_19 : decode cX11_back 19 = .ok (.invokevirtual 148, 3) := by decide +kernel
theorem dX11_back_22 : decode cX11_back 22 = .ok (.ireturn, 1) := by decide +kernel
theorem dX11_back_23 : decode cX11_back 23 = .ok (.aload_n 0, 1) := by decide +kernel
theorem dX11_back_24 : decode cX11_back 24 = .ok (.dup, 1) := by decide +kernel
theorem dX11_back_25 : decode cX11_back 25 = .ok (.getfield 106, 3) := by decide +kernel
theorem dX11_back_28 : decode cX11_back 28 = .ok (.iconst 1, 1) := by decide +kernel
theorem dX11_back_29 : decode cX11_back 29 = .ok (.isub, 1) := by decide +kernel
theorem dX11_back_30 : decode cX11_back 30 = .ok (.putfield 106, 3) := by decide +kernel
theorem dX11_back_33 : decode cX11_back 33 = .ok (.aload_n 0, 1) := by decide +kernel
theorem dX11_back_34 : decode cX11_back 34 = .ok (.getfield 109, 3) := by decide +kernel
theorem dX11_back_37 : decode cX11_back 37 = .ok (.aload_n 0, 1) := by decide +kernel
theorem dX11_back_38 : decode cX11_back 38 = .ok (.getfield 106, 3) := by decide +kernel
theorem dX11_back_41 : decode cX11_back 41 = .ok (.aaload, 1) := by decide +kernel
theorem dX11_back_42 : decode cX11_back 42 = .ok (.aload_n 0, 1) := by decide +kernel
theorem dX11_back_43 : decode cX11_back 43 = .ok (.getfield 36, 3) := by decide +kernel
theorem dX11_back_46 : decode cX11_back 46 = .ok (.invokestatic 185, 3) := by decide +kernel
theorem dX11_back_49 : decode cX11_back 49 = .ok (.aload_n 0, 1) := by decide +kernel
theorem dX11_back_50 : decode cX11_back 50 = .ok (.getfield 113, 3) := by decide +kernel
theorem dX11_back_53 : decode cX11_back 53 = .ok (.aload_n 0, 1) := by decide +kernel
theorem dX11_back_54 : decode cX11_back 54 = .ok (.getfield 106, 3) := by decide +kernel
theorem dX11_back_57 : decode cX11_back 57 = .ok (.aaload, 1) := by decide +kernel
theorem dX11_back_58 : decode cX11_back 58 = .ok (.aload_n 0, 1) := by decide +kernel
theorem dX11_back_59 : decode cX11_back 59 = .ok (.getfield 45, 3) := by decide +kernel
theorem dX11_back_62 : decode cX11_back 62 = .ok (.invokestatic 453, 3) := by decide +kernel
theorem dX11_back_65 : decode cX11_back 65 = .ok (.aload_n 0, 1) := by decide +kernel
theorem dX11_back_66 : decode cX11_back 66 = .ok (.getfield 117, 3) := by decide +kernel
theorem dX11_back_69 : decode cX11_back 69 = .ok (.aload_n 0, 1) := by decide +kernel
theorem dX11_back_70 : decode cX11_back 70 = .ok (.getfield 106, 3) := by decide +kernel
theorem dX11_back_73 : decode cX11_back 73 = .ok (.aaload, 1) := by decide +kernel
theorem dX11_back_74 : decode cX11_back 74 = .ok (.aload_n 0, 1) := by decide +kernel
theorem dX11_back_75 : decode cX11_back 75 = .ok (.getfield 52, 3) := by decide +kernel
theorem dX11_back_78 : decode cX11_back 78 = .ok (.invokestatic 201, 3) := by decide +kernel
theorem dX11_back_81 : decode cX11_back 81 = .ok (.aload_n 0, 1) := by decide +kernel
theorem dX11_back_82 : decode cX11_back 82 = .ok (.aload_n 0, 1) := by decide +kernel
theorem dX11_back_83 : decode cX11_back 83 = .ok (.getfield 106, 3) := by decide +kernel
theorem dX11_back_86 : decode cX11_back 86 = .ok (.invokevirtual 195, 3) := by decide +kernel
theorem dX11_back_89 : decode cX11_back 89 = .ok (.ireturn, 1) := by decide +kernel
theorem dX11_bottom_0 : decode cX11_bottom 0 = .ok (.aload_n 0, 1) := by decide +kernel
theorem dX11_bottom_1 : decode cX11_bottom 1 = .ok (.getfield 17, 3) := by decide +kernel
theorem dX11_bottom_4 : decode cX11_bottom 4 = .ok (.lreturn, 1) := by decide +kernel
theorem dX11_commonDivisor_0 : decode cX11_commonDivisor 0 = .ok (.lload_n 0, 1) := by decide +kernel
theorem dX11_commonDivisor_1 : decode cX11_commonDivisor 1 = .ok (.lstore 4, 2) := by decide +kernel
theorem dX11_commonDivisor_3 : decode cX11_commonDivisor 3 = .ok (.lload_n 2, 1) := by decide +kernel
theorem dX11_commonDivisor_4 : decode cX11_commonDivisor 4 = .ok (.lstore 6, 2) := by decide +kernel
theorem dX11_commonDivisor_6 : decode cX11_commonDivisor 6 = .ok (.iconst 0, 1) := by decide +kernel
theorem dX11_commonDivisor_7 : decode cX11_commonDivisor 7 = .ok (.istore 8, 2) := by decide +kernel
theorem dX11_commonDivisor_9 : decode cX11_commonDivisor 9 = .ok (.iload 8, 2) := by decide +kernel
theorem dX11_commonDivisor_11 : decode cX11_commonDivisor 11 = .ok (.sipush 200, 3) := by decide +kernel
theorem dX11_commonDivisor_14 : decode cX11_commonDivisor 14 = .ok (.if_icmp .ge 31, 3) := by decide +kernel
theorem dX11_commonDivisor_17 : decode cX11_commonDivisor 17 = .ok (.lload 6, 2) := by decide +kernel
theorem dX11_commonDivisor_19 : decode cX11_commonDivisor 19 = .ok (.lconst 0, 1) := by decide +kernel
theorem dX11_commonDivisor_20 : decode cX11_commonDivisor 20 = .ok (.lcmp, 1) := by decide +kernel
theorem dX11_commonDivisor_21 : decode cX11_commonDivisor 21 = .ok (.ifCond .eq 24, 3) := by decide +kernel
theorem dX11_commonDivisor_24 : decode cX11_commonDivisor 24 = .ok (.lload 4, 2) := by decide +kernel
theorem dX11_commonDivisor_26 : decode cX11_commonDivisor 26 = .ok (.lload 6, 2) := by decide +kernel
theorem dX11_commonDivisor_28 : decode cX11_commonDivisor 28 = .ok (.lrem, 1) := by decide +kernel
theorem dX11_commonDivisor_29 : decode cX11_commonDivisor 29 = .ok (.lstore 9, 2) := by decide +kernel
theorem dX11_commonDivisor_31 : decode cX11_commonDivisor 31 = .ok (.lload 6, 2) := by decide +kernel
theorem dX11_commonDivisor_33 : decode cX11_commonDivisor 33 = .ok (.lstore 4, 2) := by decide +kernel
theorem dX11_commonDivisor_35 : decode cX11_commonDivisor 35 = .ok (.lload 9, 2) := by decide +kernel
theorem dX11_commonDivisor_37 : decode cX11_commonDivisor 37 = .ok (.lstore 6, 2) := by decide +kernel
theorem dX11_commonDivisor_39 : decode cX11_commonDivisor 39 = .ok (.iinc 8 1, 3) := by decide +kernel
theorem dX11_commonDivisor_42 : decode cX11_commonDivisor 42 = .ok (.goto (-33), 3) := by decide +kernel
theorem dX11_commonDivisor_45 : decode cX11_commonDivisor 45 = .ok (.lload 4, 2) := by decide +kernel
theorem dX11_commonDivisor_47 : decode cX11_commonDivisor 47 = .ok (.lreturn, 1) := by decide +kernel
theorem dX11_done_0 : decode cX11_done 0 = .ok (.aload_n 0, 1) := by decide +kernel
theorem dX11_done_1 : decode cX11_done 1 = .ok (.iconst 0, 1) := by decide +kernel
theorem dX11_done_2 : decode cX11_done 2 = .ok (.putfield 9, 3) := by decide +kernel
theorem dX11_done_5 : decode cX11_done 5 = .ok (.iconst 1, 1) := by decide +kernel
theorem dX11_done_6 : decode cX11_done 6 = .ok (.ireturn, 1) := by decide +kernel
theorem dX11_door_0 : decode cX11_door 0 = .ok (.aload_n 0, 1) := by decide +kernel
theorem dX11_door_1 : decode cX11_door 1 = .ok (.getfield 36, 3) := by decide +kernel
theorem dX11_door_4 : decode cX11_door 4 = .ok (.iload_n 1, 1) := by decide +kernel
theorem dX11_door_5 : decode cX11_door 5 = .ok (.invokevirtual 275, 3) := by decide +kernel
theorem dX11_door_8 : decode cX11_door 8 = .ok (.ifCond .ne 9, 3) := by decide +kernel
theorem dX11_door_11 : decode cX11_door 11 = .ok (.aload_n 0, 1) := by decide +kernel
theorem dX11_door_12 : decode cX11_door 12 = .ok (.iconst 2, 1) := by decide +kernel
theorem dX11_door_13 : decode cX11_door 13 = .ok (.invokevirtual 148, 3) := by decide +kernel
theorem dX11_door_16 : decode cX11_door 16 = .ok (.ireturn, 1) := by decide +kernel
theorem dX11_door_17 : decode cX11_door 17 = .ok (.iload_n 2, 1) := by decide +kernel
theorem dX11_door_18 : decode cX11_door 18 = .ok (.ifCond .ne 16, 3) := by decide +kernel
theorem dX11_door_21 : decode cX11_door 21 = .ok (.aload_n 0, 1) := by decide +kernel
theorem dX11_door_22 : decode cX11_door 22 = .ok (.aload_n 0, 1) := by decide +kernel
theorem dX11_door_23 : decode cX11_door 23 = .ok (.getfield 36, 3) := by decide +kernel
theorem dX11_door_26 : decode cX11_door 26 = .ok (.iload_n 1, 1) := by decide +kernel
theorem dX11_door_27 : decode cX11_door 27 = .ok (.invokevirtual 278, 3) := by decide +kernel
theorem dX11_door_30 : decode cX11_door 30 = .ok (.invokevirtual 195, 3) := by decide +kernel
theorem dX11_door_33 : decode cX11_door 33 = .ok (.ireturn, 1) := by decide +kernel
theorem dX11_door_34 : decode cX11_door 34 = .ok (.iload_n 2, 1) := by decide +kernel
theorem dX11_door_35 : decode cX11_door 35 = .ok (.iconst 1, 1) := by decide +kernel
theorem dX11_door_36 : decode cX11_door 36 = .ok (.if_icmp .ne 16, 3) := by decide +kernel
theorem dX11_door_39 : decode cX11_door 39 = .ok (.aload_n 0, 1) := by decide +kernel
theorem dX11_door_40 : decode cX11_door 40 = .ok (.aload_n 0, 1) := by decide +kernel
theorem dX11_door_41 : decode cX11_door 41 = .ok (.getfield 36, 3) := by decide +kernel
theorem dX11_door_44 : decode cX11_door 44 = .ok (.iload_n 1, 1) := by decide +kernel
theorem dX11_door_45 : decode cX11_door 45 = .ok (.invokevirtual 281, 3) := by decide +kernel
theorem dX11_door_48 : decode cX11_door 48 = .ok (.invokevirtual 195, 3) := by decide +kernel
theorem dX11_door_51 : decode cX11_door 51 = .ok (.ireturn, 1) := by decide +kernel
theorem dX11_door_52 : decode cX11_door 52 = .ok (.aload_n 0, 1) := by decide +kernel
theorem dX11_door_53 : decode cX11_door 53 = .ok (.iconst 5, 1) := by decide +kernel
theorem dX11_door_54 : decode cX11_door 54 = .ok (.invokevirtual 148, 3) := by decide +kernel
theorem dX11_door_57 : decode cX11_door 57 = .ok (.ireturn, 1) := by decide +kernel
theorem dX11_fault_0 : decode cX11_fault 0 = .ok (.iload_n 1, 1) := by decide +kernel
theorem dX11_fault_1 : decode cX11_fault 1 = .ok (.ifCond .ne 11, 3) := by decide +kernel
theorem dX11_fault_4 : decode cX11_fault 4 = .ok (.aload_n 0, 1) := by decide +kernel
theorem dX11_fault_5 : decode cX11_fault 5 = .ok (.getfield 29, 3) := by decide +kernel
theorem dX11_fault_8 : decode cX11_fault 8 = .ok (.getfield 207, 3) := by decide +kernel
theorem dX11_fault_11 : decode cX11_fault 11 = .ok (.ireturn, 1) := by decide +kernel
theorem dX11_fault_12 : decode cX11_fault 12 = .ok (.iload_n 1, 1) := by decide +kernel
theorem dX11_fault_13 : decode cX11_fault 13 = .ok (.iconst 1, 1) := by decide +kernel
theorem dX11_fault_14 : decode cX11_fault 14 = .ok (.if_icmp .ne 11, 3) := by decide +kernel
theorem dX11_fault_17 : decode cX11_fault 17 = .ok (.aload_n 0, 1) := by decide +kernel
theorem dX11_fault_18 : decode cX11_fault 18 = .ok (.getfield 29, 3) := by decide +kernel
theorem dX11_fault_21 : decode cX11_fault 21 = .ok (.getfield 210, 3) := by decide +kernel
theorem dX11_fault_24 : decode cX11_fault 24 = .ok (.ireturn, 1) := by decide +kernel
theorem dX11_fault_25 : decode cX11_fault 25 = .ok (.iconst (-1), 1) := by decide +kernel
theorem dX11_fault_26 : decode cX11_fault 26 = .ok (.ireturn, 1) := by decide +kernel
theorem dX11_feature_0 : decode cX11_feature 0 = .ok (.aload_n 0, 1) := by decide +kernel
theorem dX11_feature_1 : decode cX11_feature 1 = .ok (.getfield 36, 3) := by decide +kernel
theorem dX11_feature_4 : decode cX11_feature 4 = .ok (.iload_n 1, 1) := by decide +kernel
theorem dX11_feature_5 : decode cX11_feature 5 = .ok (.invokevirtual 234, 3) := by decide +kernel
theorem dX11_feature_8 : decode cX11_feature 8 = .ok (.ifCond .ne 9, 3) := by decide +kernel
theorem dX11_feature_11 : decode cX11_feature 11 = .ok (.aload_n 0, 1) := by decide +kernel
theorem dX11_feature_12 : decode cX11_feature 12 = .ok (.iconst 2, 1) := by decide +kernel
theorem dX11_feature_13 : decode cX11_feature 13 = .ok (.invokevirtual 148, 3) := by decide +kernel
theorem dX11_feature_16 : decode cX11_feature 16 = .ok (.ireturn, 1) := by decide +kernel
theorem dX11_feature_17 : decode cX11_feature 17 = .ok (.iload_n 2, 1) := by decide +kernel
theorem dX11_feature_18 : decode cX11_feature 18 = .ok (.ifCond .ne 16, 3) := by decide +kernel
theorem dX11_feature_21 : decode cX11_feature 21 = .ok (.aload_n 0, 1) := by decide +kernel
theorem dX11_feature_22 : decode cX11_feature 22 = .ok (.aload_n 0, 1) := by decide +kernel
theorem dX11_feature_23 : decode cX11_feature 23 = .ok (.getfield 36, 3) := by decide +kernel
theorem dX11_feature_26 : decode cX11_feature 26 = .ok (.iload_n 1, 1) := by decide +kernel
theorem dX11_feature_27 : decode cX11_feature 27 = .ok (.invokevirtual 237, 3) := by decide +kernel
theorem dX11_feature_30 : decode cX11_feature 30 = .ok (.invokevirtual 195, 3) := by decide +kernel
theorem dX11_feature_33 : decode cX11_feature 33 = .ok (.ireturn, 1) := by decide +kernel
theorem dX11_feature_34 : decode cX11_feature 34 = .ok (.iload_n 2, 1) := by decide +kernel
theorem dX11_feature_35 : decode cX11_feature 35 = .ok (.iconst 1, 1) := by decide +kernel
theorem dX11_feature_36 : decode cX11_feature 36 = .ok (.if_icmp .ne 24, 3) := by decide +kernel
theorem dX11_feature_39 : decode cX11_feature 39 = .ok (.aload_n 0, 1) := by decide +kernel
theorem dX11_feature_40 : decode cX11_feature 40 = .ok (.aload_n 0, 1) := by decide +kernel
theorem dX11_feature_41 : decode cX11_feature 41 = .ok (.getfield 36, 3) := by decide +kernel
theorem dX11_feature_44 : decode cX11_feature 44 = .ok (.iload_n 1, 1) := by decide +kernel
theorem dX11_feature_45 : decode cX11_feature 45 = .ok (.invokevirtual 240, 3) := by decide +kernel
theorem dX11_feature_48 : decode cX11_feature 48 = .ok (.ifCond .eq 7, 3) := by decide +kernel
theorem dX11_feature_51 : decode cX11_feature 51 = .ok (.iconst 1, 1) := by decide +kernel
theorem dX11_feature_52 : decode cX11_feature 52 = .ok (.goto 4, 3) := by decide +kernel
theorem dX11_feature_55 : decode cX11_feature 55 = .ok (.iconst 0, 1) := by decide +kernel
theorem dX11_feature_56 : decode cX11_feature 56 = .ok (.invokevirtual 195, 3) := by decide +kernel
theorem dX11_feature_59 : decode cX11_feature 59 = .ok (.ireturn, 1) := by decide +kernel
theorem dX11_feature_60 : decode cX11_feature 60 = .ok (.aload_n 0, 1) := by decide +kernel
theorem dX11_feature_61 : decode cX11_feature 61 = .ok (.iconst 5, 1) := by decide +kernel
theorem dX11_feature_62 : decode cX11_feature 62 = .ok (.invokevirtual 148, 3) := by decide +kernel
theorem dX11_feature_65 : decode cX11_feature 65 = .ok (.ireturn, 1) := by decide +kernel
theorem dX11_feed_0 : decode cX11_feed 0 = .ok (.aload_n 0, 1) := by decide +kernel
theorem dX11_feed_1 : decode cX11_feed 1 = .ok (.getfield 29, 3) := by decide +kernel
theorem dX11_feed_4 : decode cX11_feed 4 = .ok (.bipush 20, 2) := by decide +kernel
theorem dX11_feed_6 : decode cX11_feed 6 = .ok (.invokevirtual 167, 3) := by decide +kernel
theorem dX11_feed_9 : decode cX11_feed 9 = .ok (.ifCond .ne 5, 3) := by decide +kernel
theorem dX11_feed_12 : decode cX11_feed 12 = .ok (.iconst (-1), 1) := by decide +kernel
theorem dX11_feed_13 : decode cX11_feed 13 = .ok (.ireturn, 1) := by decide +kernel
theorem dX11_feed_14 : decode cX11_feed 14 = .ok (.aload_n 0, 1) := by decide +kernel
theorem dX11_feed_15 : decode cX11_feed 15 = .ok (.getfield 29, 3) := by decide +kernel
theorem dX11_feed_18 : decode cX11_feed 18 = .ok (.iload_n 1, 1) := by decide +kernel
theorem dX11_feed_19 : decode cX11_feed 19 = .ok (.invokevirtual 170, 3) := by decide +kernel
theorem dX11_feed_22 : decode cX11_feed 22 = .ok (.aload_n 0, 1) := by decide +kernel
theorem dX11_feed_23 : decode cX11_feed 23 = .ok (.getfield 29, 3) := by decide +kernel
theorem dX11_feed_26 : decode cX11_feed 26 = .ok (.iload_n 2, 1) := by decide +kernel
theorem dX11_feed_27 : decode cX11_feed 27 = .ok (.invokevirtual 170, 3) := by decide +kernel
theorem dX11_feed_30 : decode cX11_feed 30 = .ok (.aload_n 0, 1) := by decide +kernel
theorem dX11_feed_31 : decode cX11_feed 31 = .ok (.getfield 29, 3) := by decide +kernel
theorem dX11_feed_34 : decode cX11_feed 34 = .ok (.iload_n 3, 1) := by decide +kernel
theorem dX11_feed_35 : decode cX11_feed 35 = .ok (.invokevirtual 170, 3) := by decide +kernel
theorem dX11_feed_38 : decode cX11_feed 38 = .ok (.aload_n 0, 1) := by decide +kernel
theorem dX11_feed_39 : decode cX11_feed 39 = .ok (.getfield 29, 3) := by decide +kernel
theorem dX11_feed_42 : decode cX11_feed 42 = .ok (.iload 4, 2) := by decide +kernel
theorem dX11_feed_44 : decode cX11_feed 44 = .ok (.invokevirtual 170, 3) := by decide +kernel
theorem dX11_feed_47 : decode cX11_feed 47 = .ok (.aload_n 0, 1) := by decide +kernel
theorem dX11_feed_48 : decode cX11_feed 48 = .ok (.getfield 29, 3) := by decide +kernel
theorem dX11_feed_51 : decode cX11_feed 51 = .ok (.iload 5, 2) := by decide +kernel
theorem dX11_feed_53 : decode cX11_feed 53 = .ok (.invokevirtual 170, 3) := by decide +kernel
theorem dX11_feed_56 : decode cX11_feed 56 = .ok (.aload_n 0, 1) := by decide +kernel
theorem dX11_feed_57 : decode cX11_feed 57 = .ok (.getfield 29, 3) := by decide +kernel
theorem dX11_feed_60 : decode cX11_feed 60 = .ok (.getfield 174, 3) := by decide +kernel
theorem dX11_feed_63 : decode cX11_feed 63 = .ok (.ireturn, 1) := by decide +kernel
theorem dX11_feel_0 : decode cX11_feel 0 = .ok (.aload_n 0, 1) := by decide +kernel
theorem dX11_feel_1 : decode cX11_feel 1 = .ok (.getfield 36, 3) := by decide +kernel
theorem dX11_feel_4 : decode cX11_feel 4 = .ok (.iload_n 1, 1) := by decide +kernel
theorem dX11_feel_5 : decode cX11_feel 5 = .ok (.iload_n 2, 1) := by decide +kernel
theorem dX11_feel_6 : decode cX11_feel 6 = .ok (.invokevirtual 243, 3) := by decide +kernel
theorem dX11_feel_9 : decode cX11_feel 9 = .ok (.ifCond .ne 9, 3) := by decide +kernel
theorem dX11_feel_12 : decode cX11_feel 12 = .ok (.aload_n 0, 1) := by decide +kernel
theorem dX11_feel_13 : decode cX11_feel 13 = .ok (.iconst 2, 1) := by decide +kernel
theorem dX11_feel_14 : decode cX11_feel 14 = .ok (.invokevirtual 126, 3) := by decide +kernel
theorem dX11_feel_17 : decode cX11_feel 17 = .ok (.ireturn, 1) := by decide +kernel
theorem dX11_feel_18 : decode cX11_feel 18 = .ok (.aload_n 0, 1) := by decide +kernel
theorem dX11_feel_19 : decode cX11_feel 19 = .ok (.getfield 45, 3) := by decide +kernel
theorem dX11_feel_22 : decode cX11_feel 22 = .ok (.invokevirtual 320, 3) := by decide +kernel
theorem dX11_feel_25 : decode cX11_feel 25 = .ok (.ifCond .ne 10, 3) := by decide +kernel
theorem dX11_feel_28 : decode cX11_feel 28 = .ok (.aload_n 0, 1) := by decide +kernel
theorem dX11_feel_29 : decode cX11_feel 29 = .ok (.bipush 8, 2) := by decide +kernel
theorem dX11_feel_31 : decode cX11_feel 31 = .ok (.invokevirtual 126, 3) := by decide +kernel
theorem dX11_feel_34 : decode cX11_feel 34 = .ok (.ireturn, 1) := by decide +kernel
theorem dX11_feel_35 : decode cX11_feel 35 = .ok (.aload_n 0, 1) := by decide +kernel
theorem dX11_feel_36 : decode cX11_feel 36 = .ok (.getfield 45, 3) := by decide +kernel
theorem dX11_feel_39 : decode cX11_feel 39 = .ok (.iload_n 1, 1) := by decide +kernel
theorem dX11_feel_40 : decode cX11_feel 40 = .ok (.iload_n 2, 1) := by decide +kernel
theorem dX11_feel_41 : decode cX11_feel 41 = .ok (.invokevirtual 333, 3) := by decide +kernel
theorem dX11_feel_44 : decode cX11_feel 44 = .ok (.ifCond .ne 10, 3) := by decide +kernel
theorem dX11_feel_47 : decode cX11_feel 47 = .ok (.aload_n 0, 1) := by decide +kernel
theorem dX11_feel_48 : decode cX11_feel 48 = .ok (.bipush 9, 2) := by decide +kernel
theorem dX11_feel_50 : decode cX11_feel 50 = .ok (.invokevirtual 126, 3) := by decide +kernel
theorem dX11_feel_53 : decode cX11_feel 53 = .ok (.ireturn, 1) := by decide +kernel
theorem dX11_feel_54 : decode cX11_feel 54 = .ok (.aload_n 0, 1) := by decide +kernel
theorem dX11_feel_55 : decode cX11_feel 55 = .ok (.invokevirtual 134, 3) := by decide +kernel
theorem dX11_feel_58 : decode cX11_feel 58 = .ok (.ireturn, 1) := by decide +kernel
theorem dX11_feels_0 : decode cX11_feels 0 = .ok (.aload_n 0, 1) := by decide +kernel
theorem dX11_feels_1 : decode cX11_feels 1 = .ok (.getfield 36, 3) := by decide +kernel
theorem dX11_feels_4 : decode cX11_feels 4 = .ok (.iload_n 1, 1) := by decide +kernel
theorem dX11_feels_5 : decode cX11_feels 5 = .ok (.iload_n 2, 1) := by decide +kernel
theorem dX11_feels_6 : decode cX11_feels 6 = .ok (.invokevirtual 243, 3) := by decide +kernel
theorem dX11_feels_9 : decode cX11_feels 9 = .ok (.ifCond .eq 15, 3) := by decide +kernel
theorem dX11_feels_12 : decode cX11_feels 12 = .ok (.aload_n 0, 1) := by decide +kernel
theorem dX11_feels_13 : decode cX11_feels 13 = .ok (.getfield 36, 3) := by decide +kernel
theorem dX11_feels_16 : decode cX11_feels 16 = .ok (.iload_n 1, 1) := by decide +kernel
theorem dX11_feels_17 : decode cX11_feels 17 = .ok (.iload_n 3, 1) := by decide +kernel
theorem dX11_feels_18 : decode cX11_feels 18 = .ok (.invokevirtual 243, 3) := by decide +kernel
theorem dX11_feels_21 : decode cX11_feels 21 = .ok (.ifCond .ne 9, 3) := by decide +kernel
theorem dX11_feels_24 : decode cX11_feels 24 = .ok (.aload_n 0, 1) := by decide +kernel
theorem dX11_feels_25 : decode cX11_feels 25 = .ok (.iconst 2, 1) := by decide +kernel
theorem dX11_feels_26 : decode cX11_feels 26 = .ok (.invokevirtual 148, 3) := by decide +kernel
theorem dX11_feels_29 : decode cX11_feels 29 = .ok (.ireturn, 1) := by decide +kernel
theorem dX11_feels_30 : decode cX11_feels 30 = .ok (.aload_n 0, 1) := by decide +kernel
theorem dX11_feels_31 : decode cX11_feels 31 = .ok (.aload_n 0, 1) := by decide +kernel
theorem dX11_feels_32 : decode cX11_feels 32 = .ok (.getfield 36, 3) := by decide +kernel
theorem dX11_feels_35 : decode cX11_feels 35 = .ok (.iload_n 1, 1) := by decide +kernel
theorem dX11_feels_36 : decode cX11_feels 36 = .ok (.iload_n 2, 1) := by decide +kernel
theorem dX11_feels_37 : decode cX11_feels 37 = .ok (.iload_n 3, 1) := by decide +kernel
theorem dX11_feels_38 : decode cX11_feels 38 = .ok (.invokevirtual 246, 3) := by decide +kernel
theorem dX11_feels_41 : decode cX11_feels 41 = .ok (.invokevirtual 195, 3) := by decide +kernel
theorem dX11_feels_44 : decode cX11_feels 44 = .ok (.ireturn, 1) := by decide +kernel
theorem dX11_filed_0 : decode cX11_filed 0 = .ok (.aload_n 0, 1) := by decide +kernel
theorem dX11_filed_1 : decode cX11_filed 1 = .ok (.getfield 36, 3) := by decide +kernel
theorem dX11_filed_4 : decode cX11_filed 4 = .ok (.iload_n 1, 1) := by decide +kernel
theorem dX11_filed_5 : decode cX11_filed 5 = .ok (.invokevirtual 266, 3) := by decide +kernel
theorem dX11_filed_8 : decode cX11_filed 8 = .ok (.ifCond .ne 9, 3) := by decide +kernel
theorem dX11_filed_11 : decode cX11_filed 11 = .ok (.aload_n 0, 1) := by decide +kernel
theorem dX11_filed_12 : decode cX11_filed 12 = .ok (.iconst 2, 1) := by decide +kernel
theorem dX11_filed_13 : decode cX11_filed 13 = .ok (.invokevirtual 148, 3) := by decide +kernel
theorem dX11_filed_16 : decode cX11_filed 16 = .ok (.ireturn, 1) := by decide +kernel
theorem dX11_filed_17 : decode cX11_filed 17 = .ok (.iload_n 2, 1) := by decide +kernel
theorem dX11_filed_18 : decode cX11_filed 18 = .ok (.iconst 2, 1) := by decide +kernel
theorem dX11_filed_19 : decode cX11_filed 19 = .ok (.if_icmp .lt 9, 3) := by decide +kernel
theorem dX11_filed_22 : decode cX11_filed 22 = .ok (.iload_n 2, 1) := by decide +kernel
theorem dX11_filed_23 : decode cX11_filed 23 = .ok (.bipush 9, 2) := by decide +kernel
theorem dX11_filed_25 : decode cX11_filed 25 = .ok (.if_icmp .le 9, 3) := by decide +kernel
theorem dX11_filed_28 : decode cX11_filed 28 = .ok (.aload_n 0, 1) := by decide +kernel
theorem dX11_filed_29 : decode cX11_filed 29 = .ok (.iconst 5, 1) := by decide +kernel
theorem dX11_filed_30 : decode cX11_filed 30 = .ok (.invokevirtual 148, 3) := by decide +kernel
theorem dX11_filed_33 : decode cX11_filed 33 = .ok (.ireturn, 1) := by decide +kernel
theorem dX11_filed_34 : decode cX11_filed 34 = .ok (.aload_n 0, 1) := by decide +kernel
theorem dX11_filed_35 : decode cX11_filed 35 = .ok (.getfield 84, 3) := by decide +kernel
theorem dX11_filed_38 : decode cX11_filed 38 = .ok (.iload_n 1, 1) := by decide +kernel
theorem dX11_filed_39 : decode cX11_filed 39 = .ok (.invokevirtual 412, 3) := by decide +kernel
theorem dX11_filed_42 : decode cX11_filed 42 = .ok (.aload_n 0, 1) := by decide +kernel
theorem dX11_filed_43 : decode cX11_filed 43 = .ok (.getfield 84, 3) := by decide +kernel
theorem dX11_filed_46 : decode cX11_filed 46 = .ok (.iload_n 2, 1) := by decide +kernel
theorem dX11_filed_47 : decode cX11_filed 47 = .ok (.invokevirtual 420, 3) := by decide +kernel
theorem dX11_filed_50 : decode cX11_filed 50 = .ok (.istore_n 3, 1) := by decide +kernel
theorem dX11_filed_51 : decode cX11_filed 51 = .ok (.iload_n 3, 1) := by decide +kernel
theorem dX11_filed_52 : decode cX11_filed 52 = .ok (.iconst (-1), 1) := by decide +kernel
theorem dX11_filed_53 : decode cX11_filed 53 = .ok (.if_icmp .ne 10, 3) := by decide +kernel
theorem dX11_filed_56 : decode cX11_filed 56 = .ok (.aload_n 0, 1) := by decide +kernel
theorem dX11_filed_57 : decode cX11_filed 57 = .ok (.bipush 9, 2) := by decide +kernel
theorem dX11_filed_59 : decode cX11_filed 59 = .ok (.invokevirtual 148, 3) := by decide +kernel
theorem dX11_filed_62 : decode cX11_filed 62 = .ok (.ireturn, 1) := by decide +kernel
theorem dX11_filed_63 : decode cX11_filed 63 = .ok (.aload_n 0, 1) := by decide +kernel
theorem dX11_filed_64 : decode cX11_filed 64 = .ok (.iload_n 3, 1) := by decide +kernel
theorem dX11_filed_65 : decode cX11_filed 65 = .ok (.invokevirtual 195, 3) := by decide +kernel
theorem dX11_filed_68 : decode cX11_filed 68 = .ok (.ireturn, 1) := by decide +kernel
theorem dX11_found_0 : decode cX11_found 0 = .ok (.iload_n 1, 1) := by decide +kernel
theorem dX11_found_1 : decode cX11_found 1 = .ok (.ifCond .lt 14, 3) := by decide +kernel
theorem dX11_found_4 : decode cX11_found 4 = .ok (.iload_n 1, 1) := by decide +kernel
theorem dX11_found_5 : decode cX11_found 5 = .ok (.aload_n 0, 1) := by decide +kernel
theorem dX11_found_6 : decode cX11_found 6 = .ok (.getfield 77, 3) := by decide +kernel
theorem dX11_found_9 : decode cX11_found 9 = .ok (.getfield 403, 3) := by decide +kernel
theorem dX11_found_12 : decode cX11_found 12 = .ok (.if_icmp .lt 10, 3) := by decide +kernel
theorem dX11_found_15 : decode cX11_found 15 = .ok (.aload_n 0, 1) := by decide +kernel
theorem dX11_found_16 : decode cX11_found 16 = .ok (.bipush 8, 2) := by decide +kernel
theorem dX11_found_18 : decode cX11_found 18 = .ok (.invokevirtual 148, 3) := by decide +kernel
theorem dX11_found_21 : decode cX11_found 21 = .ok (.ireturn, 1) := by decide +kernel
theorem dX11_found_22 : decode cX11_found 22 = .ok (.aload_n 0, 1) := by decide +kernel
theorem dX11_found_23 : decode cX11_found 23 = .ok (.aload_n 0, 1) := by decide +kernel
theorem dX11_found_24 : decode cX11_found 24 = .ok (.getfield 77, 3) := by decide +kernel
theorem dX11_found_27 : decode cX11_found 27 = .ok (.iload_n 1, 1) := by decide +kernel
theorem dX11_found_28 : decode cX11_found 28 = .ok (.invokevirtual 391, 3) := by decide +kernel
theorem dX11_found_31 : decode cX11_found 31 = .ok (.invokevirtual 195, 3) := by decide +kernel
theorem dX11_found_34 : decode cX11_found 34 = .ok (.ireturn, 1) := by decide +kernel
theorem dX11_from_0 : decode cX11_from 0 = .ok (.aload_n 0, 1) := by decide +kernel
theorem dX11_from_1 : decode cX11_from 1 = .ok (.getfield 36, 3) := by decide +kernel
theorem dX11_from_4 : decode cX11_from 4 = .ok (.iload_n 1, 1) := by decide +kernel
theorem dX11_from_5 : decode cX11_from 5 = .ok (.invokevirtual 266, 3) := by decide +kernel
theorem dX11_from_8 : decode cX11_from 8 = .ok (.ifCond .ne 9, 3) := by decide +kernel
theorem dX11_from_11 : decode cX11_from 11 = .ok (.aload_n 0, 1) := by decide +kernel
theorem dX11_from_12 : decode cX11_from 12 = .ok (.iconst 2, 1) := by decide +kernel
theorem dX11_from_13 : decode cX11_from 13 = .ok (.invokevirtual 126, 3) := by decide +kernel
theorem dX11_from_16 : decode cX11_from 16 = .ok (.ireturn, 1) := by decide +kernel
theorem dX11_from_17 : decode cX11_from 17 = .ok (.aload_n 0, 1) := by decide +kernel
theorem dX11_from_18 : decode cX11_from 18 = .ok (.getfield 77, 3) := by decide +kernel
theorem dX11_from_21 : decode cX11_from 21 = .ok (.iload_n 1, 1) := by decide +kernel
theorem dX11_from_22 : decode cX11_from 22 = .ok (.invokevirtual 367, 3) := by decide +kernel
theorem dX11_from_25 : decode cX11_from 25 = .ok (.aload_n 0, 1) := by decide +kernel
theorem dX11_from_26 : decode cX11_from 26 = .ok (.getfield 77, 3) := by decide +kernel
theorem dX11_from_29 : decode cX11_from 29 = .ok (.iload_n 2, 1) := by decide +kernel
theorem dX11_from_30 : decode cX11_from 30 = .ok (.invokevirtual 370, 3) := by decide +kernel
theorem dX11_from_33 : decode cX11_from 33 = .ok (.ifCond .eq 10, 3) := by decide +kernel
theorem dX11_from_36 : decode cX11_from 36 = .ok (.iload_n 3, 1) := by decide +kernel
theorem dX11_from_37 : decode cX11_from 37 = .ok (.invokestatic 326, 3) := by decide +kernel
theorem dX11_from_40 : decode cX11_from 40 = .ok (.ifCond .ne 9, 3) := by decide +kernel
theorem dX11_from_43 : decode cX11_from 43 = .ok (.aload_n 0, 1) := by decide +kernel
theorem dX11_from_44 : decode cX11_from 44 = .ok (.iconst 5, 1) := by decide +kernel
theorem dX11_from_45 : decode cX11_from 45 = .ok (.invokevirtual 126, 3) := by decide +kernel
theorem dX11_from_48 : decode cX11_from 48 = .ok (.ireturn, 1) := by decide +kernel
theorem dX11_from_49 : decode cX11_from 49 = .ok (.aload_n 0, 1) := by decide +kernel
theorem dX11_from_50 : decode cX11_from 50 = .ok (.getfield 77, 3) := by decide +kernel
theorem dX11_from_53 : decode cX11_from 53 = .ok (.invokevirtual 377, 3) := by decide +kernel
theorem dX11_from_56 : decode cX11_from 56 = .ok (.istore 4, 2) := by decide +kernel
theorem dX11_from_58 : decode cX11_from 58 = .ok (.iload 4, 2) := by decide +kernel
theorem dX11_from_60 : decode cX11_from 60 = .ok (.ifCond .ne 10, 3) := by decide +kernel
theorem dX11_from_63 : decode cX11_from 63 = .ok (.aload_n 0, 1) := by decide +kernel
theorem dX11_from_64 : decode cX11_from 64 = .ok (.bipush 8, 2) := by decide +kernel
theorem dX11_from_66 : decode cX11_from 66 = .ok (.invokevirtual 126, 3) := by decide +kernel
theorem dX11_from_69 : decode cX11_from 69 = .ok (.ireturn, 1) := by decide +kernel
theorem dX11_from_70 : decode cX11_from 70 = .ok (.aload_n 0, 1) := by decide +kernel
theorem dX11_from_71 : decode cX11_from 71 = .ok (.aload_n 0, 1) := by decide +kernel
theorem dX11_from_72 : decode cX11_from 72 = .ok (.getfield 77, 3) := by decide +kernel
theorem dX11_from_75 : decode cX11_from 75 = .ok (.iload_n 2, 1) := by decide +kernel
theorem dX11_from_76 : decode cX11_from 76 = .ok (.iload_n 3, 1) := by decide +kernel
theorem dX11_from_77 : decode cX11_from 77 = .ok (.invokevirtual 381, 3) := by decide +kernel
theorem dX11_from_80 : decode cX11_from 80 = .ok (.i2l, 1) := by decide +kernel
theorem dX11_from_81 : decode cX11_from 81 = .ok (.iload 4, 2) := by decide +kernel
theorem dX11_from_83 : decode cX11_from 83 = .ok (.i2l, 1) := by decide +kernel
theorem dX11_from_84 : decode cX11_from 84 = .ok (.invokevirtual 351, 3) := by decide +kernel
theorem dX11_from_87 : decode cX11_from 87 = .ok (.ireturn, 1) := by decide +kernel
theorem dX11_goOn_0 : decode cX11_goOn 0 = .ok (.aload_n 0, 1) := by decide +kernel
theorem dX11_goOn_1 : decode cX11_goOn 1 = .ok (.getfield 45, 3) := by decide +kernel
theorem dX11_goOn_4 : decode cX11_goOn 4 = .ok (.invokevirtual 320, 3) := by decide +kernel
theorem dX11_goOn_7 : decode cX11_goOn 7 = .ok (.ifCond .ne 10, 3) := by decide +kernel
theorem dX11_goOn_10 : decode cX11_goOn 10 = .ok (.aload_n 0, 1) := by decide +kernel
theorem dX11_goOn_11 : decode cX11_goOn 11 = .ok (.bipush 8, 2) := by decide +kernel
theorem dX11_goOn_13 : decode cX11_goOn 13 = .ok (.invokevirtual 126, 3) := by decide +kernel
theorem dX11_goOn_16 : decode cX11_goOn 16 = .ok (.ireturn, 1) := by decide +kernel
theorem dX11_goOn_17 : decode cX11_goOn 17 = .ok (.aload_n 0, 1) := by decide +kernel
theorem dX11_goOn_18 : decode cX11_goOn 18 = .ok (.getfield 45, 3) := by decide +kernel
theorem dX11_goOn_21 : decode cX11_goOn 21 = .ok (.invokevirtual 336, 3) := by decide +kernel
theorem dX11_goOn_24 : decode cX11_goOn 24 = .ok (.aload_n 0, 1) := by decide +kernel
theorem dX11_goOn_25 : decode cX11_goOn 25 = .ok (.invokevirtual 134, 3) := by decide +kernel
theorem dX11_goOn_28 : decode cX11_goOn 28 = .ok (.ireturn, 1) := by decide +kernel
theorem dX11_here_0 : decode cX11_here 0 = .ok (.aload_n 0, 1) := by decide +kernel
theorem dX11_here_1 : decode cX11_here 1 = .ok (.getfield 36, 3) := by decide +kernel
theorem dX11_here_4 : decode cX11_here 4 = .ok (.iload_n 1, 1) := by decide +kernel
theorem dX11_here_5 : decode cX11_here 5 = .ok (.invokevirtual 250, 3) := by decide +kernel
theorem dX11_here_8 : decode cX11_here 8 = .ok (.ifCond .ne 9, 3) := by decide +kernel
theorem dX11_here_11 : decode cX11_here 11 = .ok (.aload_n 0, 1) := by decide +kernel
theorem dX11_here_12 : decode cX11_here 12 = .ok (.iconst 2, 1) := by decide +kernel
theorem dX11_here_13 : decode cX11_here 13 = .ok (.invokevirtual 126, 3) := by decide +kernel
theorem dX11_here_16 : decode cX11_here 16 = .ok (.ireturn, 1) := by decide +kernel
theorem dX11_here_17 : decode cX11_here 17 = .ok (.aload_n 0, 1) := by decide +kernel
theorem dX11_here_18 : decode cX11_here 18 = .ok (.getfield 45, 3) := by decide +kernel
theorem dX11_here_21 : decode cX11_here 21 = .ok (.invokevirtual 320, 3) := by decide +kernel
theorem dX11_here_24 : decode cX11_here 24 = .ok (.ifCond .ne 10, 3) := by decide +kernel
theorem dX11_here_27 : decode cX11_here 27 = .ok (.aload_n 0, 1) := by decide +kernel
theorem dX11_here_28 : decode cX11_here 28 = .ok (.bipush 8, 2) := by decide +kernel
theorem dX11_here_30 : decode cX11_here 30 = .ok (.invokevirtual 126, 3) := by decide +kernel
theorem dX11_here_33 : decode cX11_here 33 = .ok (.ireturn, 1) := by decide +kernel
theorem dX11_here_34 : decode cX11_here 34 = .ok (.aload_n 0, 1) := by decide +kernel
theorem dX11_here_35 : decode cX11_here 35 = .ok (.aload_n 0, 1) := by decide +kernel
theorem dX11_here_36 : decode cX11_here 36 = .ok (.getfield 45, 3) := by decide +kernel
theorem dX11_here_39 : decode cX11_here 39 = .ok (.iload_n 1, 1) := by decide +kernel
theorem dX11_here_40 : decode cX11_here 40 = .ok (.invokevirtual 346, 3) := by decide +kernel
theorem dX11_here_43 : decode cX11_here 43 = .ok (.ldc2_w 349, 3) := by decide +kernel
theorem dX11_here_46 : decode cX11_here 46 = .ok (.invokevirtual 351, 3) := by decide +kernel
theorem dX11_here_49 : decode cX11_here 49 = .ok (.ireturn, 1) := by decide +kernel
theorem dX11_house_0 : decode cX11_house 0 = .ok (.iload_n 1, 1) := by decide +kernel
theorem dX11_house_1 : decode cX11_house 1 = .ok (.ifCond .lt 14, 3) := by decide +kernel
theorem dX11_house_4 : decode cX11_house 4 = .ok (.iload_n 1, 1) := by decide +kernel
theorem dX11_house_5 : decode cX11_house 5 = .ok (.aload_n 0, 1) := by decide +kernel
theorem dX11_house_6 : decode cX11_house 6 = .ok (.getfield 29, 3) := by decide +kernel
theorem dX11_house_9 : decode cX11_house 9 = .ok (.getfield 174, 3) := by decide +kernel
theorem dX11_house_12 : decode cX11_house 12 = .ok (.if_icmp .le 9, 3) := by decide +kernel
theorem dX11_house_15 : decode cX11_house 15 = .ok (.aload_n 0, 1) := by decide +kernel
theorem dX11_house_16 : decode cX11_house 16 = .ok (.iconst 5, 1) := by decide +kernel
theorem dX11_house_17 : decode cX11_house 17 = .ok (.invokevirtual 148, 3) := by decide +kernel
theorem dX11_house_20 : decode cX11_house 20 = .ok (.ireturn, 1) := by decide +kernel
theorem dX11_house_21 : decode cX11_house 21 = .ok (.aload_n 0, 1) := by decide +kernel
theorem dX11_house_22 : decode cX11_house 22 = .ok (.getfield 29, 3) := by decide +kernel
theorem dX11_house_25 : decode cX11_house 25 = .ok (.iload_n 1, 1) := by decide +kernel
theorem dX11_house_26 : decode cX11_house 26 = .ok (.invokevirtual 177, 3) := by decide +kernel
theorem dX11_house_29 : decode cX11_house 29 = .ok (.aload_n 0, 1) := by decide +kernel
theorem dX11_house_30 : decode cX11_house 30 = .ok (.getfield 61, 3) := by decide +kernel
theorem dX11_house_33 : decode cX11_house 33 = .ok (.invokevirtual 180, 3) := by decide +kernel
theorem dX11_house_36 : decode cX11_house 36 = .ok (.ifCond .ne 10, 3) := by decide +kernel
theorem dX11_house_39 : decode cX11_house 39 = .ok (.aload_n 0, 1) := by decide +kernel
theorem dX11_house_40 : decode cX11_house 40 = .ok (.bipush 10, 2) := by decide +kernel
theorem dX11_house_42 : decode cX11_house 42 = .ok (.invokevirtual 148, 3) := by decide +kernel
theorem dX11_house_45 : decode cX11_house 45 = .ok (.ireturn, 1) := by decide +kernel
theorem dX11_house_46 : decode cX11_house 46 = .ok (.aload_n 0, 1) := by decide +kernel
theorem dX11_house_47 : decode cX11_house 47 = .ok (.getfield 61, 3) := by decide +kernel
theorem dX11_house_50 : decode cX11_house 50 = .ok (.getfield 183, 3) := by decide +kernel
theorem dX11_house_53 : decode cX11_house 53 = .ok (.aload_n 0, 1) := by decide +kernel
theorem dX11_house_54 : decode cX11_house 54 = .ok (.getfield 36, 3) := by decide +kernel
theorem dX11_house_57 : decode cX11_house 57 = .ok (.invokestatic 185, 3) := by decide +kernel
theorem dX11_house_60 : decode cX11_house 60 = .ok (.aload_n 0, 1) := by decide +kernel
theorem dX11_house_61 : decode cX11_house 61 = .ok (.getfield 45, 3) := by decide +kernel
theorem dX11_house_64 : decode cX11_house 64 = .ok (.invokevirtual 189, 3) := by decide +kernel
theorem dX11_house_67 : decode cX11_house 67 = .ok (.aload_n 0, 1) := by decide +kernel
theorem dX11_house_68 : decode cX11_house 68 = .ok (.aload_n 0, 1) := by decide +kernel
theorem dX11_house_69 : decode cX11_house 69 = .ok (.getfield 36, 3) := by decide +kernel
theorem dX11_house_72 : decode cX11_house 72 = .ok (.getfield 192, 3) := by decide +kernel
theorem dX11_house_75 : decode cX11_house 75 = .ok (.invokevirtual 195, 3) := by decide +kernel
theorem dX11_house_78 : decode cX11_house 78 = .ok (.ireturn, 1) := by decide +kernel
theorem dX11_inRing_0 : decode cX11_inRing 0 = .ok (.iload_n 1, 1) := by decide +kernel
theorem dX11_inRing_1 : decode cX11_inRing 1 = .ok (.ifCond .le 11, 3) := by decide +kernel
theorem dX11_inRing_4 : decode cX11_inRing 4 = .ok (.iload_n 0, 1) := by decide +kernel
theorem dX11_inRing_5 : decode cX11_inRing 5 = .ok (.iload_n 1, 1) := by decide +kernel
theorem dX11_inRing_6 : decode cX11_inRing 6 = .ok (.invokestatic 465, 3) := by decide +kernel
theorem dX11_inRing_9 : decode cX11_inRing 9 = .ok (.goto 4, 3) := by decide +kernel
theorem dX11_inRing_12 : decode cX11_inRing 12 = .ok (.iconst 0, 1) := by decide +kernel
theorem dX11_inRing_13 : decode cX11_inRing 13 = .ok (.ireturn, 1) := by decide +kernel
theorem dX11_inRow_0 : decode cX11_inRow 0 = .ok (.aload_n 0, 1) := by decide +kernel
theorem dX11_inRow_1 : decode cX11_inRow 1 = .ok (.getfield 36, 3) := by decide +kernel
theorem dX11_inRow_4 : decode cX11_inRow 4 = .ok (.iload_n 1, 1) := by decide +kernel
theorem dX11_inRow_5 : decode cX11_inRow 5 = .ok (.invokevirtual 275, 3) := by decide +kernel
theorem dX11_inRow_8 : decode cX11_inRow 8 = .ok (.ifCond .ne 9, 3) := by decide +kernel
theorem dX11_inRow_11 : decode cX11_inRow 11 = .ok (.aload_n 0, 1) := by decide +kernel
theorem dX11_inRow_12 : decode cX11_inRow 12 = .ok (.iconst 2, 1) := by decide +kernel
theorem dX11_inRow_13 : decode cX11_inRow 13 = .ok (.invokevirtual 148, 3) := by decide +kernel
theorem dX11_inRow_16 : decode cX11_inRow 16 = .ok (.ireturn, 1) := by decide +kernel
theorem dX11_inRow_17 : decode cX11_inRow 17 = .ok (.aload_n 0, 1) := by decide +kernel
theorem dX11_inRow_18 : decode cX11_inRow 18 = .ok (.getfield 77, 3) := by decide +kernel
theorem dX11_inRow_21 : decode cX11_inRow 21 = .ok (.iload_n 1, 1) := by decide +kernel
theorem dX11_inRow_22 : decode cX11_inRow 22 = .ok (.invokevirtual 394, 3) := by decide +kernel
theorem dX11_inRow_25 : decode cX11_inRow 25 = .ok (.ifCond .ne 10, 3) := by decide +kernel
theorem dX11_inRow_28 : decode cX11_inRow 28 = .ok (.aload_n 0, 1) := by decide +kernel
theorem dX11_inRow_29 : decode cX11_inRow 29 = .ok (.bipush 8, 2) := by decide +kernel
theorem dX11_inRow_31 : decode cX11_inRow 31 = .ok (.invokevirtual 148, 3) := by decide +kernel
theorem dX11_inRow_34 : decode cX11_inRow 34 = .ok (.ireturn, 1) := by decide +kernel
theorem dX11_inRow_35 : decode cX11_inRow 35 = .ok (.aload_n 0, 1) := by decide +kernel
theorem dX11_inRow_36 : decode cX11_inRow 36 = .ok (.aload_n 0, 1) := by decide +kernel
theorem dX11_inRow_37 : decode cX11_inRow 37 = .ok (.getfield 77, 3) := by decide +kernel
theorem dX11_inRow_40 : decode cX11_inRow 40 = .ok (.getfield 397, 3) := by decide +kernel
theorem dX11_inRow_43 : decode cX11_inRow 43 = .ok (.aload_n 0, 1) := by decide +kernel
theorem dX11_inRow_44 : decode cX11_inRow 44 = .ok (.getfield 77, 3) := by decide +kernel
theorem dX11_inRow_47 : decode cX11_inRow 47 = .ok (.getfield 400, 3) := by decide +kernel
theorem dX11_inRow_50 : decode cX11_inRow 50 = .ok (.invokevirtual 351, 3) := by decide +kernel
theorem dX11_inRow_53 : decode cX11_inRow 53 = .ok (.pop, 1) := by decide +kernel
theorem dX11_inRow_54 : decode cX11_inRow 54 = .ok (.aload_n 0, 1) := by decide +kernel
theorem dX11_inRow_55 : decode cX11_inRow 55 = .ok (.aload_n 0, 1) := by decide +kernel
theorem dX11_inRow_56 : decode cX11_inRow 56 = .ok (.getfield 77, 3) := by decide +kernel
theorem dX11_inRow_59 : decode cX11_inRow 59 = .ok (.getfield 403, 3) := by decide +kernel
theorem dX11_inRow_62 : decode cX11_inRow 62 = .ok (.invokevirtual 195, 3) := by decide +kernel
theorem dX11_inRow_65 : decode cX11_inRow 65 = .ok (.ireturn, 1) := by decide +kernel
theorem dX11_isOrderOf_0 : decode cX11_isOrderOf 0 = .ok (.aload_n 0, 1) := by decide +kernel
theorem dX11_isOrderOf_1 : decode cX11_isOrderOf 1 = .ok (.getfield 36, 3) := by decide +kernel
theorem dX11_isOrderOf_4 : decode cX11_isOrderOf 4 = .ok (.iload_n 2, 1) := by decide +kernel
theorem dX11_isOrderOf_5 : decode cX11_isOrderOf 5 = .ok (.invokevirtual 460, 3) := by decide +kernel
theorem dX11_isOrderOf_8 : decode cX11_isOrderOf 8 = .ok (.istore_n 3, 1) := by decide +kernel
theorem dX11_isOrderOf_9 : decode cX11_isOrderOf 9 = .ok (.iconst 0, 1) := by decide +kernel
theorem dX11_isOrderOf_10 : decode cX11_isOrderOf 10 = .ok (.istore 4, 2) := by decide +kernel
theorem dX11_isOrderOf_12 : decode cX11_isOrderOf 12 = .ok (.iload 4, 2) := by decide +kernel
theorem dX11_isOrderOf_14 : decode cX11_isOrderOf 14 = .ok (.aload_n 1, 1) := by decide +kernel
theorem dX11_isOrderOf_15 : decode cX11_isOrderOf 15 = .ok (.getfield 292, 3) := by decide +kernel
theorem dX11_isOrderOf_18 : decode cX11_isOrderOf 18 = .ok (.if_icmp .ge 53, 3) := by decide +kernel
theorem dX11_isOrderOf_21 : decode cX11_isOrderOf 21 = .ok (.aload_n 1, 1) := by decide +kernel
theorem dX11_isOrderOf_22 : decode cX11_isOrderOf 22 = .ok (.iload 4, 2) := by decide +kernel
theorem dX11_isOrderOf_24 : decode cX11_isOrderOf 24 = .ok (.invokevirtual 152, 3) := by decide +kernel
theorem dX11_isOrderOf_27 : decode cX11_isOrderOf 27 = .ok (.lstore 5, 2) := by decide +kernel
theorem dX11_isOrderOf_29 : decode cX11_isOrderOf 29 = .ok (.lload 5, 2) := by decide +kernel
theorem dX11_isOrderOf_31 : decode cX11_isOrderOf 31 = .ok (.lconst 0, 1) := by decide +kernel
theorem dX11_isOrderOf_32 : decode cX11_isOrderOf 32 = .ok (.lcmp, 1) := by decide +kernel
theorem dX11_isOrderOf_33 : decode cX11_isOrderOf 33 = .ok (.ifCond .lt 22, 3) := by decide +kernel
theorem dX11_isOrderOf_36 : decode cX11_isOrderOf 36 = .ok (.lload 5, 2) := by decide +kernel
theorem dX11_isOrderOf_38 : decode cX11_isOrderOf 38 = .ok (.ldc2_w 463, 3) := by decide +kernel
theorem dX11_isOrderOf_41 : decode cX11_isOrderOf 41 = .ok (.lcmp, 1) := by decide +kernel
theorem dX11_isOrderOf_42 : decode cX11_isOrderOf 42 = .ok (.ifCond .ge 13, 3) := by decide +kernel
theorem dX11_isOrderOf_45 : decode cX11_isOrderOf 45 = .ok (.iload_n 3, 1) := by decide +kernel
theorem dX11_isOrderOf_46 : decode cX11_isOrderOf 46 = .ok (.lload 5, 2) := by decide +kernel
theorem dX11_isOrderOf_48 : decode cX11_isOrderOf 48 = .ok (.l2i, 1) := by decide +kernel
theorem dX11_isOrderOf_49 : decode cX11_isOrderOf 49 = .ok (.ishr, 1) := by decide +kernel
theorem dX11_isOrderOf_50 : decode cX11_isOrderOf 50 = .ok (.iconst 1, 1) := by decide +kernel
theorem dX11_isOrderOf_51 : decode cX11_isOrderOf 51 = .ok (.iand, 1) := by decide +kernel
theorem dX11_isOrderOf_52 : decode cX11_isOrderOf 52 = .ok (.ifCond .ne 5, 3) := by decide +kernel
theorem dX11_isOrderOf_55 : decode cX11_isOrderOf 55 = .ok (.iconst 0, 1) := by decide +kernel
theorem dX11_isOrderOf_56 : decode cX11_isOrderOf 56 = .ok (.ireturn, 1) := by decide +kernel
theorem dX11_isOrderOf_57 : decode cX11_isOrderOf 57 = .ok (.iload_n 3, 1) := by decide +kernel
theorem dX11_isOrderOf_58 : decode cX11_isOrderOf 58 = .ok (.iconst 1, 1) := by decide +kernel
theorem dX11_isOrderOf_59 : decode cX11_isOrderOf 59 = .ok (.lload 5, 2) := by decide +kernel
theorem dX11_isOrderOf_61 : decode cX11_isOrderOf 61 = .ok (.l2i, 1) := by decide +kernel
theorem dX11_isOrderOf_62 : decode cX11_isOrderOf 62 = .ok (.ishl, 1) := by decide +kernel
theorem dX11_isOrderOf_63 : decode cX11_isOrderOf 63 = .ok (.isub, 1) := by decide +kernel
theorem dX11_isOrderOf_64 : decode cX11_isOrderOf 64 = .ok (.istore_n 3, 1) := by decide +kernel
theorem dX11_isOrderOf_65 : decode cX11_isOrderOf 65 = .ok (.iinc 4 1, 3) := by decide +kernel
theorem dX11_isOrderOf_68 : decode cX11_isOrderOf 68 = .ok (.goto (-56), 3) := by decide +kernel
theorem dX11_isOrderOf_71 : decode cX11_isOrderOf 71 = .ok (.iconst 1, 1) := by decide +kernel
theorem dX11_isOrderOf_72 : decode cX11_isOrderOf 72 = .ok (.ireturn, 1) := by decide +kernel
theorem dX11_isWay_0 : decode cX11_isWay 0 = .ok (.iload_n 0, 1) := by decide +kernel
theorem dX11_isWay_1 : decode cX11_isWay 1 = .ok (.ifCond .eq 8, 3) := by decide +kernel
theorem dX11_isWay_4 : decode cX11_isWay 4 = .ok (.iload_n 0, 1) := by decide +kernel
theorem dX11_isWay_5 : decode cX11_isWay 5 = .ok (.iconst 1, 1) := by decide +kernel
theorem dX11_isWay_6 : decode cX11_isWay 6 = .ok (.if_icmp .ne 7, 3) := by decide +kernel
theorem dX11_isWay_9 : decode cX11_isWay 9 = .ok (.iconst 1, 1) := by decide +kernel
theorem dX11_isWay_10 : decode cX11_isWay 10 = .ok (.goto 4, 3) := by decide +kernel
theorem dX11_isWay_13 : decode cX11_isWay 13 = .ok (.iconst 0, 1) := by decide +kernel
theorem dX11_isWay_14 : decode cX11_isWay 14 = .ok (.ireturn, 1) := by decide +kernel
theorem dX11_keepAt_0 : decode cX11_keepAt 0 = .ok (.iload_n 1, 1) := by decide +kernel
theorem dX11_keepAt_1 : decode cX11_keepAt 1 = .ok (.ifCond .lt 13, 3) := by decide +kernel
theorem dX11_keepAt_4 : decode cX11_keepAt 4 = .ok (.iload_n 1, 1) := by decide +kernel
theorem dX11_keepAt_5 : decode cX11_keepAt 5 = .ok (.aload_n 0, 1) := by decide +kernel
theorem dX11_keepAt_6 : decode cX11_keepAt 6 = .ok (.arraylength, 1) := by decide +kernel
theorem dX11_keepAt_7 : decode cX11_keepAt 7 = .ok (.if_icmp .ge 7, 3) := by decide +kernel
theorem dX11_keepAt_10 : decode cX11_keepAt 10 = .ok (.aload_n 0, 1) := by decide +kernel
theorem dX11_keepAt_11 : decode cX11_keepAt 11 = .ok (.iload_n 1, 1) := by decide +kernel
theorem dX11_keepAt_12 : decode cX11_keepAt 12 = .ok (.iload_n 2, 1) := by decide +kernel
theorem dX11_keepAt_13 : decode cX11_keepAt 13 = .ok (.iastore, 1) := by decide +kernel
theorem dX11_keepAt_14 : decode cX11_keepAt 14 = .ok (.return_, 1) := by decide +kernel
theorem dX11_keepLongAt_0 : decode cX11_keepLongAt 0 = .ok (.iload_n 1, 1) := by decide +kernel
theorem dX11_keepLongAt_1 : decode cX11_keepLongAt 1 = .ok (.ifCond .lt 13, 3) := by decide +kernel
theorem dX11_keepLongAt_4 : decode cX11_keepLongAt 4 = .ok (.iload_n 1, 1) := by decide +kernel
theorem dX11_keepLongAt_5 : decode cX11_keepLongAt 5 = .ok (.aload_n 0, 1) := by decide +kernel
theorem dX11_keepLongAt_6 : decode cX11_keepLongAt 6 = .ok (.arraylength, 1) := by decide +kernel
theorem dX11_keepLongAt_7 : decode cX11_keepLongAt 7 = .ok (.if_icmp .ge 7, 3) := by decide +kernel
theorem dX11_keepLongAt_10 : decode cX11_keepLongAt 10 = .ok (.aload_n 0, 1) := by decide +kernel
theorem dX11_keepLongAt_11 : decode cX11_keepLongAt 11 = .ok (.iload_n 1, 1) := by decide +kernel
theorem dX11_keepLongAt_12 : decode cX11_keepLongAt 12 = .ok (.lload_n 2, 1) := by decide +kernel
theorem dX11_keepLongAt_13 : decode cX11_keepLongAt 13 = .ok (.lastore, 1) := by decide +kernel
theorem dX11_keepLongAt_14 : decode cX11_keepLongAt 14 = .ok (.return_, 1) := by decide +kernel
theorem dX11_key_0 : decode cX11_key 0 = .ok (.aload_n 0, 1) := by decide +kernel
theorem dX11_key_1 : decode cX11_key 1 = .ok (.getfield 36, 3) := by decide +kernel
theorem dX11_key_4 : decode cX11_key 4 = .ok (.iload_n 1, 1) := by decide +kernel
theorem dX11_key_5 : decode cX11_key 5 = .ok (.invokevirtual 250, 3) := by decide +kernel
theorem dX11_key_8 : decode cX11_key 8 = .ok (.ifCond .ne 9, 3) := by decide +kernel
theorem dX11_key_11 : decode cX11_key 11 = .ok (.aload_n 0, 1) := by decide +kernel
theorem dX11_key_12 : decode cX11_key 12 = .ok (.iconst 2, 1) := by decide +kernel
theorem dX11_key_13 : decode cX11_key 13 = .ok (.invokevirtual 148, 3) := by decide +kernel
theorem dX11_key_16 : decode cX11_key 16 = .ok (.ireturn, 1) := by decide +kernel
theorem dX11_key_17 : decode cX11_key 17 = .ok (.iload_n 2, 1) := by decide +kernel
theorem dX11_key_18 : decode cX11_key 18 = .ok (.ifCond .lt 8, 3) := by decide +kernel
theorem dX11_key_21 : decode cX11_key 21 = .ok (.iload_n 2, 1) := by decide +kernel
theorem dX11_key_22 : decode cX11_key 22 = .ok (.iconst 2, 1) := by decide +kernel
theorem dX11_key_23 : decode cX11_key 23 = .ok (.if_icmp .le 9, 3) := by decide +kernel
theorem dX11_key_26 : decode cX11_key 26 = .ok (.aload_n 0, 1) := by decide +kernel
theorem dX11_key_27 : decode cX11_key 27 = .ok (.iconst 5, 1) := by decide +kernel
theorem dX11_key_28 : decode cX11_key 28 = .ok (.invokevirtual 148, 3) := by decide +kernel
theorem dX11_key_31 : decode cX11_key 31 = .ok (.ireturn, 1) := by decide +kernel
theorem dX11_key_32 : decode cX11_key 32 = .ok (.iload_n 2, 1) := by decide +kernel
theorem dX11_key_33 : decode cX11_key 33 = .ok (.iconst 2, 1) := by decide +kernel
theorem dX11_key_34 : decode cX11_key 34 = .ok (.if_icmp .ne 24, 3) := by decide +kernel
theorem dX11_key_37 : decode cX11_key 37 = .ok (.aload_n 0, 1) := by decide +kernel
theorem dX11_key_38 : decode cX11_key 38 = .ok (.aload_n 0, 1) := by decide +kernel
theorem dX11_key_39 : decode cX11_key 39 = .ok (.getfield 36, 3) := by decide +kernel
theorem dX11_key_42 : decode cX11_key 42 = .ok (.iload_n 1, 1) := by decide +kernel
theorem dX11_key_43 : decode cX11_key 43 = .ok (.invokevirtual 256, 3) := by decide +kernel
theorem dX11_key_46 : decode cX11_key 46 = .ok (.ifCond .eq 7, 3) := by decide +kernel
theorem dX11_key_49 : decode cX11_key 49 = .ok (.iconst 1, 1) := by decide +kernel
theorem dX11_key_50 : decode cX11_key 50 = .ok (.goto 4, 3) := by decide +kernel
theorem dX11_key_53 : decode cX11_key 53 = .ok (.iconst 0, 1) := by decide +kernel
theorem dX11_key_54 : decode cX11_key 54 = .ok (.invokevirtual 195, 3) := by decide +kernel
theorem dX11_key_57 : decode cX11_key 57 = .ok (.ireturn, 1) := by decide +kernel
theorem dX11_key_58 : decode cX11_key 58 = .ok (.aload_n 0, 1) := by decide +kernel
theorem dX11_key_59 : decode cX11_key 59 = .ok (.getfield 36, 3) := by decide +kernel
theorem dX11_key_62 : decode cX11_key 62 = .ok (.iload_n 1, 1) := by decide +kernel
theorem dX11_key_63 : decode cX11_key 63 = .ok (.invokevirtual 259, 3) := by decide +kernel
theorem dX11_key_66 : decode cX11_key 66 = .ok (.istore_n 3, 1) := by decide +kernel
theorem dX11_key_67 : decode cX11_key 67 = .ok (.iload_n 3, 1) := by decide +kernel
theorem dX11_key_68 : decode cX11_key 68 = .ok (.iconst (-1), 1) := by decide +kernel
theorem dX11_key_69 : decode cX11_key 69 = .ok (.if_icmp .ne 10, 3) := by decide +kernel
theorem dX11_key_72 : decode cX11_key 72 = .ok (.aload_n 0, 1) := by decide +kernel
theorem dX11_key_73 : decode cX11_key 73 = .ok (.bipush 8, 2) := by decide +kernel
theorem dX11_key_75 : decode cX11_key 75 = .ok (.invokevirtual 148, 3) := by decide +kernel
theorem dX11_key_78 : decode cX11_key 78 = .ok (.ireturn, 1) := by decide +kernel
theorem dX11_key_79 : decode cX11_key 79 = .ok (.aload_n 0, 1) := by decide +kernel
theorem dX11_key_80 : decode cX11_key 80 = .ok (.iload_n 2, 1) := by decide +kernel
theorem dX11_key_81 : decode cX11_key 81 = .ok (.ifCond .ne 7, 3) := by decide +kernel
theorem dX11_key_84 : decode cX11_key 84 = .ok (.iload_n 3, 1) := by decide +kernel
theorem dX11_key_85 : decode cX11_key 85 = .ok (.goto 12, 3) := by decide +kernel
theorem dX11_key_88 : decode cX11_key 88 = .ok (.aload_n 0, 1) := by decide +kernel
theorem dX11_key_89 : decode cX11_key 89 = .ok (.getfield 36, 3) := by decide +kernel
theorem dX11_key_92 : decode cX11_key 92 = .ok (.iload_n 3, 1) := by decide +kernel
theorem dX11_key_93 : decode cX11_key 93 = .ok (.iload_n 1, 1) := by decide +kernel
theorem dX11_key_94 : decode cX11_key 94 = .ok (.invokevirtual 262, 3) := by decide +kernel
theorem dX11_key_97 : decode cX11_key 97 = .ok (.invokevirtual 195, 3) := by decide +kernel
theorem dX11_key_100 : decode cX11_key 100 = .ok (.ireturn, 1) := by decide +kernel
theorem dX11_known_0 : decode cX11_known 0 = .ok (.aload_n 0, 1) := by decide +kernel
theorem dX11_known_1 : decode cX11_known 1 = .ok (.getfield 36, 3) := by decide +kernel
theorem dX11_known_4 : decode cX11_known 4 = .ok (.iload_n 1, 1) := by decide +kernel
theorem dX11_known_5 : decode cX11_known 5 = .ok (.invokevirtual 266, 3) := by decide +kernel
theorem dX11_known_8 : decode cX11_known 8 = .ok (.ifCond .ne 9, 3) := by decide +kernel
theorem dX11_known_11 : decode cX11_known 11 = .ok (.aload_n 0, 1) := by decide +kernel
theorem dX11_known_12 : decode cX11_known 12 = .ok (.iconst 2, 1) := by decide +kernel
theorem dX11_known_13 : decode cX11_known 13 = .ok (.invokevirtual 148, 3) := by decide +kernel
theorem dX11_known_16 : decode cX11_known 16 = .ok (.ireturn, 1) := by decide +kernel
theorem dX11_known_17 : decode cX11_known 17 = .ok (.aload_n 0, 1) := by decide +kernel
theorem dX11_known_18 : decode cX11_known 18 = .ok (.getfield 84, 3) := by decide +kernel
theorem dX11_known_21 : decode cX11_known 21 = .ok (.iload_n 1, 1) := by decide +kernel
theorem dX11_known_22 : decode cX11_known 22 = .ok (.invokevirtual 412, 3) := by decide +kernel
theorem dX11_known_25 : decode cX11_known 25 = .ok (.aload_n 0, 1) := by decide +kernel
theorem dX11_known_26 : decode cX11_known 26 = .ok (.getfield 84, 3) := by decide +kernel
theorem dX11_known_29 : decode cX11_known 29 = .ok (.iload_n 2, 1) := by decide +kernel
theorem dX11_known_30 : decode cX11_known 30 = .ok (.invokevirtual 423, 3) := by decide +kernel
theorem dX11_known_33 : decode cX11_known 33 = .ok (.istore_n 3, 1) := by decide +kernel
theorem dX11_known_34 : decode cX11_known 34 = .ok (.iload_n 3, 1) := by decide +kernel
theorem dX11_known_35 : decode cX11_known 35 = .ok (.iconst (-1), 1) := by decide +kernel
theorem dX11_known_36 : decode cX11_known 36 = .ok (.if_icmp .ne 10, 3) := by decide +kernel
theorem dX11_known_39 : decode cX11_known 39 = .ok (.aload_n 0, 1) := by decide +kernel
theorem dX11_known_40 : decode cX11_known 40 = .ok (.bipush 8, 2) := by decide +kernel
theorem dX11_known_42 : decode cX11_known 42 = .ok (.invokevirtual 148, 3) := by decide +kernel
theorem dX11_known_45 : decode cX11_known 45 = .ok (.ireturn, 1) := by decide +kernel
theorem dX11_known_46 : decode cX11_known 46 = .ok (.aload_n 0, 1) := by decide +kernel
theorem dX11_known_47 : decode cX11_known 47 = .ok (.iload_n 3, 1) := by decide +kernel
theorem dX11_known_48 : decode cX11_known 48 = .ok (.invokevirtual 195, 3) := by decide +kernel
theorem dX11_known_51 : decode cX11_known 51 = .ok (.ireturn, 1) := by decide +kernel
theorem dX11_laid_0 : decode cX11_laid 0 = .ok (.aload_n 0, 1) := by decide +kernel
theorem dX11_laid_1 : decode cX11_laid 1 = .ok (.getfield 36, 3) := by decide +kernel
theorem dX11_laid_4 : decode cX11_laid 4 = .ok (.iload_n 1, 1) := by decide +kernel
theorem dX11_laid_5 : decode cX11_laid 5 = .ok (.invokevirtual 266, 3) := by decide +kernel
theorem dX11_laid_8 : decode cX11_laid 8 = .ok (.ifCond .ne 9, 3) := by decide +kernel
theorem dX11_laid_11 : decode cX11_laid 11 = .ok (.aload_n 0, 1) := by decide +kernel
theorem dX11_laid_12 : decode cX11_laid 12 = .ok (.iconst 2, 1) := by decide +kernel
theorem dX11_laid_13 : decode cX11_laid 13 = .ok (.invokevirtual 148, 3) := by decide +kernel
theorem dX11_laid_16 : decode cX11_laid 16 = .ok (.ireturn, 1) := by decide +kernel
theorem dX11_laid_17 : decode cX11_laid 17 = .ok (.aload_n 0, 1) := by decide +kernel
theorem dX11_laid_18 : decode cX11_laid 18 = .ok (.getfield 77, 3) := by decide +kernel
theorem dX11_laid_21 : decode cX11_laid 21 = .ok (.iload_n 1, 1) := by decide +kernel
theorem dX11_laid_22 : decode cX11_laid 22 = .ok (.invokevirtual 367, 3) := by decide +kernel
theorem dX11_laid_25 : decode cX11_laid 25 = .ok (.aload_n 0, 1) := by decide +kernel
theorem dX11_laid_26 : decode cX11_laid 26 = .ok (.getfield 77, 3) := by decide +kernel
theorem dX11_laid_29 : decode cX11_laid 29 = .ok (.getfield 387, 3) := by decide +kernel
theorem dX11_laid_32 : decode cX11_laid 32 = .ok (.bipush 6, 2) := by decide +kernel
theorem dX11_laid_34 : decode cX11_laid 34 = .ok (.if_icmp .le 10, 3) := by decide +kernel
theorem dX11_laid_37 : decode cX11_laid 37 = .ok (.aload_n 0, 1) := by decide +kernel
theorem dX11_laid_38 : decode cX11_laid 38 = .ok (.bipush 7, 2) := by decide +kernel
theorem dX11_laid_40 : decode cX11_laid 40 = .ok (.invokevirtual 148, 3) := by decide +kernel
theorem dX11_laid_43 : decode cX11_laid 43 = .ok (.ireturn, 1) := by decide +kernel
theorem dX11_laid_44 : decode cX11_laid 44 = .ok (.aload_n 0, 1) := by decide +kernel
theorem dX11_laid_45 : decode cX11_laid 45 = .ok (.getfield 77, 3) := by decide +kernel
theorem dX11_laid_48 : decode cX11_laid 48 = .ok (.invokevirtual 377, 3) := by decide +kernel
theorem dX11_laid_51 : decode cX11_laid 51 = .ok (.istore_n 3, 1) := by decide +kernel
theorem dX11_laid_52 : decode cX11_laid 52 = .ok (.iload_n 3, 1) := by decide +kernel
theorem dX11_laid_53 : decode cX11_laid 53 = .ok (.ifCond .ne 10, 3) := by decide +kernel
theorem dX11_laid_56 : decode cX11_laid 56 = .ok (.aload_n 0, 1) := by decide +kernel
theorem dX11_laid_57 : decode cX11_laid 57 = .ok (.bipush 8, 2) := by decide +kernel
theorem dX11_laid_59 : decode cX11_laid 59 = .ok (.invokevirtual 148, 3) := by decide +kernel
theorem dX11_laid_62 : decode cX11_laid 62 = .ok (.ireturn, 1) := by decide +kernel
theorem dX11_laid_63 : decode cX11_laid 63 = .ok (.aload_n 0, 1) := by decide +kernel
theorem dX11_laid_64 : decode cX11_laid 64 = .ok (.getfield 77, 3) := by decide +kernel
theorem dX11_laid_67 : decode cX11_laid 67 = .ok (.iload_n 2, 1) := by decide +kernel
theorem dX11_laid_68 : decode cX11_laid 68 = .ok (.ifCond .eq 7, 3) := by decide +kernel
theorem dX11_laid_71 : decode cX11_laid 71 = .ok (.iconst 1, 1) := by decide +kernel
theorem dX11_laid_72 : decode cX11_laid 72 = .ok (.goto 4, 3) := by decide +kernel
theorem dX11_laid_75 : decode cX11_laid 75 = .ok (.iconst 0, 1) := by decide +kernel
theorem dX11_laid_76 : decode cX11_laid 76 = .ok (.invokevirtual 388, 3) := by decide +kernel
theorem dX11_laid_79 : decode cX11_laid 79 = .ok (.i2l, 1) := by decide +kernel
theorem dX11_laid_80 : decode cX11_laid 80 = .ok (.lstore 4, 2) := by decide +kernel
theorem dX11_laid_82 : decode cX11_laid 82 = .ok (.aload_n 0, 1) := by decide +kernel
theorem dX11_laid_83 : decode cX11_laid 83 = .ok (.lload 4, 2) := by decide +kernel
theorem dX11_laid_85 : decode cX11_laid 85 = .ok (.iload_n 2, 1) := by decide +kernel
theorem dX11_laid_86 : decode cX11_laid 86 = .ok (.ifCond .eq 17, 3) := by decide +kernel
theorem dX11_laid_89 : decode cX11_laid 89 = .ok (.iload_n 3, 1) := by decide +kernel
theorem dX11_laid_90 : decode cX11_laid 90 = .ok (.i2l, 1) := by decide +kernel
theorem dX11_laid_91 : decode cX11_laid 91 = .ok (.aload_n 0, 1) := by decide +kernel
theorem dX11_laid_92 : decode cX11_laid 92 = .ok (.getfield 77, 3) := by decide +kernel
theorem dX11_laid_95 : decode cX11_laid 95 = .ok (.getfield 387, 3) := by decide +kernel
theorem dX11_laid_98 : decode cX11_laid 98 = .ok (.i2l, 1) := by decide +kernel
theorem dX11_laid_99 : decode cX11_laid 99 = .ok (.lmul, 1) := by decide +kernel
theorem dX11_laid_100 : decode cX11_laid 100 = .ok (.goto 5, 3) := by decide +kernel
theorem dX11_laid_103 : decode cX11_laid 103 = .ok (.iload_n 3, 1) := by decide +kernel
theorem dX11_laid_104 : decode cX11_laid 104 = .ok (.i2l, 1) := by decide +kernel
theorem dX11_laid_105 : decode cX11_laid 105 = .ok (.invokevirtual 351, 3) := by decide +kernel
theorem dX11_laid_108 : decode cX11_laid 108 = .ok (.pop, 1) := by decide +kernel
theorem dX11_laid_109 : decode cX11_laid 109 = .ok (.aload_n 0, 1) := by decide +kernel
theorem dX11_laid_110 : decode cX11_laid 110 = .ok (.aload_n 0, 1) := by decide +kernel
theorem dX11_laid_111 : decode cX11_laid 111 = .ok (.getfield 77, 3) := by decide +kernel
theorem dX11_laid_114 : decode cX11_laid 114 = .ok (.iconst 0, 1) := by decide +kernel
theorem dX11_laid_115 : decode cX11_laid 115 = .ok (.invokevirtual 391, 3) := by decide +kernel
theorem dX11_laid_118 : decode cX11_laid 118 = .ok (.invokevirtual 195, 3) := by decide +kernel
theorem dX11_laid_121 : decode cX11_laid 121 = .ok (.ireturn, 1) := by decide +kernel
theorem dX11_laidForRound_0 : decode cX11_laidForRound 0 = .ok (.aload_n 0, 1) := by decide +kernel
theorem dX11_laidForRound_1 : decode cX11_laidForRound 1 = .ok (.getfield 36, 3) := by decide +kernel
theorem dX11_laidForRound_4 : decode cX11_laidForRound 4 = .ok (.iload_n 1, 1) := by decide +kernel
theorem dX11_laidForRound_5 : decode cX11_laidForRound 5 = .ok (.invokevirtual 266, 3) := by decide +kernel
theorem dX11_laidForRound_8 : decode cX11_laidForRound 8 = .ok (.ifCond .ne 9, 3) := by decide +kernel
theorem dX11_laidForRound_11 : decode cX11_laidForRound 11 = .ok (.aload_n 0, 1) := by decide +kernel
theorem dX11_laidForRound_12 : decode cX11_laidForRound 12 = .ok (.iconst 2, 1) := by decide +kernel
theorem dX11_laidForRound_13 : decode cX11_laidForRound 13 = .ok (.invokevirtual 148, 3) := by decide +kernel
theorem dX11_laidForRound_16 : decode cX11_laidForRound 16 = .ok (.ireturn, 1) := by decide +kernel
theorem dX11_laidForRound_17 : decode cX11_laidForRound 17 = .ok (.aload_n 0, 1) := by decide +kernel
theorem dX11_laidForRound_18 : decode cX11_laidForRound 18 = .ok (.getfield 77, 3) := by decide +kernel
theorem dX11_laidForRound_21 : decode cX11_laidForRound 21 = .ok (.iload_n 1, 1) := by decide +kernel
theorem dX11_laidForRound_22 : decode cX11_laidForRound 22 = .ok (.invokevirtual 367, 3) := by decide +kernel
theorem dX11_laidForRound_25 : decode cX11_laidForRound 25 = .ok (.aload_n 0, 1) := by decide +kernel
theorem dX11_laidForRound_26 : decode cX11_laidForRound 26 = .ok (.getfield 77, 3) := by decide +kernel
theorem dX11_laidForRound_29 : decode cX11_laidForRound 29 = .ok (.getfield 387, 3) := by decide +kernel
theorem dX11_laidForRound_32 : decode cX11_laidForRound 32 = .ok (.bipush 6, 2) := by decide +kernel
theorem dX11_laidForRound_34 : decode cX11_laidForRound 34 = .ok (.if_icmp .le 10, 3) := by decide +kernel
theorem dX11_laidForRound_37 : decode cX11_laidForRound 37 = .ok (.aload_n 0, 1) := by decide +kernel
theorem dX11_laidForRound_38 : decode cX11_laidForRound 38 = .ok (.bipush 7, 2) := by decide +kernel
theorem dX11_laidForRound_40 : decode cX11_laidForRound 40 = .ok (.invokevirtual 148, 3) := by decide +kernel
theorem dX11_laidForRound_43 : decode cX11_laidForRound 43 = .ok (.ireturn, 1) := by decide +kernel
theorem dX11_laidForRound_44 : decode cX11_laidForRound 44 = .ok (.aload_n 0, 1) := by decide +kernel
theorem dX11_laidForRound_45 : decode cX11_laidForRound 45 = .ok (.getfield 77, 3) := by decide +kernel
theorem dX11_laidForRound_48 : decode cX11_laidForRound 48 = .ok (.invokevirtual 406, 3) := by decide +kernel
theorem dX11_laidForRound_51 : decode cX11_laidForRound 51 = .ok (.ifCond .ne 10, 3) := by decide +kernel
theorem dX11_laidForRound_54 : decode cX11_laidForRound 54 = .ok (.aload_n 0, 1) := by decide +kernel
theorem dX11_laidForRound_55 : decode cX11_laidForRound 55 = .ok (.bipush 8, 2) := by decide +kernel
theorem dX11_laidForRound_57 : decode cX11_laidForRound 57 = .ok (.invokevirtual 148, 3) := by decide +kernel
theorem dX11_laidForRound_60 : decode cX11_laidForRound 60 = .ok (.ireturn, 1) := by decide +kernel
theorem dX11_laidForRound_61 : decode cX11_laidForRound 61 = .ok (.aload_n 0, 1) := by decide +kernel
theorem dX11_laidForRound_62 : decode cX11_laidForRound 62 = .ok (.aload_n 0, 1) := by decide +kernel
theorem dX11_laidForRound_63 : decode cX11_laidForRound 63 = .ok (.getfield 77, 3) := by decide +kernel
theorem dX11_laidForRound_66 : decode cX11_laidForRound 66 = .ok (.iconst 2, 1) := by decide +kernel
theorem dX11_laidForRound_67 : decode cX11_laidForRound 67 = .ok (.invokevirtual 388, 3) := by decide +kernel
theorem dX11_laidForRound_70 : decode cX11_laidForRound 70 = .ok (.invokevirtual 195, 3) := by decide +kernel
theorem dX11_laidForRound_73 : decode cX11_laidForRound 73 = .ok (.ireturn, 1) := by decide +kernel
theorem dX11_lay_0 : decode cX11_lay 0 = .ok (.aload_n 0, 1) := by decide +kernel
theorem dX11_lay_1 : decode cX11_lay 1 = .ok (.iload_n 2, 1) := by decide +kernel
theorem dX11_lay_2 : decode cX11_lay 2 = .ok (.invokevirtual 122, 3) := by decide +kernel
theorem dX11_lay_5 : decode cX11_lay 5 = .ok (.astore_n 3, 1) := by decide +kernel
theorem dX11_lay_6 : decode cX11_lay 6 = .ok (.aload_n 3, 1) := by decide +kernel
theorem dX11_lay_7 : decode cX11_lay 7 = .ok (.ifnonnull 9, 3) := by decide +kernel
theorem dX11_lay_10 : decode cX11_lay 10 = .ok (.aload_n 0, 1) := by decide +kernel
theorem dX11_lay_11 : decode cX11_lay 11 = .ok (.iconst 1, 1) := by decide +kernel
theorem dX11_lay_12 : decode cX11_lay 12 = .ok (.invokevirtual 126, 3) := by decide +kernel
theorem dX11_lay_15 : decode cX11_lay 15 = .ok (.ireturn, 1) := by decide +kernel
theorem dX11_lay_16 : decode cX11_lay 16 = .ok (.aload_n 0, 1) := by decide +kernel
theorem dX11_lay_17 : decode cX11_lay 17 = .ok (.getfield 36, 3) := by decide +kernel
theorem dX11_lay_20 : decode cX11_lay 20 = .ok (.iload_n 1, 1) := by decide +kernel
theorem dX11_lay_21 : decode cX11_lay 21 = .ok (.invokevirtual 266, 3) := by decide +kernel
theorem dX11_lay_24 : decode cX11_lay 24 = .ok (.ifCond .ne 9, 3) := by decide +kernel
theorem dX11_lay_27 : decode cX11_lay 27 = .ok (.aload_n 0, 1) := by decide +kernel
theorem dX11_lay_28 : decode cX11_lay 28 = .ok (.iconst 2, 1) := by decide +kernel
theorem dX11_lay_29 : decode cX11_lay 29 = .ok (.invokevirtual 126, 3) := by decide +kernel
theorem dX11_lay_32 : decode cX11_lay 32 = .ok (.ireturn, 1) := by decide +kernel
theorem dX11_lay_33 : decode cX11_lay 33 = .ok (.aload_n 3, 1) := by decide +kernel
theorem dX11_lay_34 : decode cX11_lay 34 = .ok (.invokevirtual 138, 3) := by decide +kernel
theorem dX11_lay_37 : decode cX11_lay 37 = .ok (.ifCond .eq 9, 3) := by decide +kernel
theorem dX11_lay_40 : decode cX11_lay 40 = .ok (.aload_n 0, 1) := by decide +kernel
theorem dX11_lay_41 : decode cX11_lay 41 = .ok (.iconst 3, 1) := by decide +kernel
theorem dX11_lay_42 : decode cX11_lay 42 = .ok (.invokevirtual 126, 3) := by decide +kernel
theorem dX11_lay_45 : decode cX11_lay 45 = .ok (.ireturn, 1) := by decide +kernel
theorem dX11_lay_46 : decode cX11_lay 46 = .ok (.aload_n 3, 1) := by decide +kernel
theorem dX11_lay_47 : decode cX11_lay 47 = .ok (.getfield 292, 3) := by decide +kernel
theorem dX11_lay_50 : decode cX11_lay 50 = .ok (.aload_n 0, 1) := by decide +kernel
theorem dX11_lay_51 : decode cX11_lay 51 = .ok (.getfield 36, 3) := by decide +kernel
theorem dX11_lay_54 : decode cX11_lay 54 = .ok (.iload_n 1, 1) := by decide +kernel
theorem dX11_lay_55 : decode cX11_lay 55 = .ok (.invokevirtual 295, 3) := by decide +kernel
theorem dX11_lay_58 : decode cX11_lay 58 = .ok (.if_icmp .ge 9, 3) := by decide +kernel
theorem dX11_lay_61 : decode cX11_lay 61 = .ok (.aload_n 0, 1) := by decide +kernel
theorem dX11_lay_62 : decode cX11_lay 62 = .ok (.iconst 4, 1) := by decide +kernel
theorem dX11_lay_63 : decode cX11_lay 63 = .ok (.invokevirtual 126, 3) := by decide +kernel
theorem dX11_lay_66 : decode cX11_lay 66 = .ok (.ireturn, 1) := by decide +kernel
theorem dX11_lay_67 : decode cX11_lay 67 = .ok (.aload_n 0, 1) := by decide +kernel
theorem dX11_lay_68 : decode cX11_lay 68 = .ok (.aload_n 3, 1) := by decide +kernel
theorem dX11_lay_69 : decode cX11_lay 69 = .ok (.iload_n 1, 1) := by decide +kernel
theorem dX11_lay_70 : decode cX11_lay 70 = .ok (.invokevirtual 298, 3) := by decide +kernel
theorem dX11_lay_73 : decode cX11_lay 73 = .ok (.ifCond .ne 9, 3) := by decide +kernel
theorem dX11_lay_76 : decode cX11_lay 76 = .ok (.aload_n 0, 1) := by decide +kernel
theorem dX11_lay_77 : decode cX11_lay 77 = .ok (.iconst 5, 1) := by decide +kernel
theorem dX11_lay_78 : decode cX11_lay 78 = .ok (.invokevirtual 126, 3) := by decide +kernel
theorem dX11_lay_81 : decode cX11_lay 81 = .ok (.ireturn, 1) := by decide +kernel
theorem dX11_lay_82 : decode cX11_lay 82 = .ok (.iconst 0, 1) := by decide +kernel
theorem dX11_lay_83 : decode cX11_lay 83 = .ok (.istore 4, 2) := by decide +kernel
theorem dX11_lay_85 : decode cX11_lay 85 = .ok (.iload 4, 2) := by decide +kernel
theorem dX11_lay_87 : decode cX11_lay 87 = .ok (.aload_n 3, 1) := by decide +kernel
theorem dX11_lay_88 : decode cX11_lay 88 = .ok (.getfield 292, 3) := by decide +kernel
theorem dX11_lay_91 : decode cX11_lay 91 = .ok (.if_icmp .ge 26, 3) := by decide +kernel
theorem dX11_lay_94 : decode cX11_lay 94 = .ok (.aload_n 0, 1) := by decide +kernel
theorem dX11_lay_95 : decode cX11_lay 95 = .ok (.getfield 36, 3) := by decide +kernel
theorem dX11_lay_98 : decode cX11_lay 98 = .ok (.iload_n 1, 1) := by decide +kernel
theorem dX11_lay_99 : decode cX11_lay 99 = .ok (.iload 4, 2) := by decide +kernel
theorem dX11_lay_101 : decode cX11_lay 101 = .ok (.aload_n 3, 1) := by decide +kernel
theorem dX11_lay_102 : decode cX11_lay 102 = .ok (.iload 4, 2) := by decide +kernel
theorem dX11_lay_104 : decode cX11_lay 104 = .ok (.invokevirtual 152, 3) := by decide +kernel
theorem dX11_lay_107 : decode cX11_lay 107 = .ok (.l2i, 1) := by decide +kernel
theorem dX11_lay_108 : decode cX11_lay 108 = .ok (.invokevirtual 302, 3) := by decide +kernel
theorem dX11_lay_111 : decode cX11_lay 111 = .ok (.iinc 4 1, 3) := by decide +kernel
theorem dX11_lay_114 : decode cX11_lay 114 = .ok (.goto (-29), 3) := by decide +kernel
theorem dX11_lay_117 : decode cX11_lay 117 = .ok (.aload_n 0, 1) := by decide +kernel
theorem dX11_lay_118 : decode cX11_lay 118 = .ok (.getfield 45, 3) := by decide +kernel
theorem dX11_lay_121 : decode cX11_lay 121 = .ok (.iload_n 1, 1) := by decide +kernel
theorem dX11_lay_122 : decode cX11_lay 122 = .ok (.invokevirtual 306, 3) := by decide +kernel
theorem dX11_lay_125 : decode cX11_lay 125 = .ok (.aload_n 0, 1) := by decide +kernel
theorem dX11_lay_126 : decode cX11_lay 126 = .ok (.invokevirtual 134, 3) := by decide +kernel
theorem dX11_lay_129 : decode cX11_lay 129 = .ok (.ireturn, 1) := by decide +kernel
theorem dX11_lend_0 : decode cX11_lend 0 = .ok (.aload_n 0, 1) := by decide +kernel
theorem dX11_lend_1 : decode cX11_lend 1 = .ok (.getfield 36, 3) := by decide +kernel
theorem dX11_lend_4 : decode cX11_lend 4 = .ok (.iload_n 1, 1) := by decide +kernel
theorem dX11_lend_5 : decode cX11_lend 5 = .ok (.invokevirtual 250, 3) := by decide +kernel
theorem dX11_lend_8 : decode cX11_lend 8 = .ok (.ifCond .ne 9, 3) := by decide +kernel
theorem dX11_lend_11 : decode cX11_lend 11 = .ok (.aload_n 0, 1) := by decide +kernel
theorem dX11_lend_12 : decode cX11_lend 12 = .ok (.iconst 2, 1) := by decide +kernel
theorem dX11_lend_13 : decode cX11_lend 13 = .ok (.invokevirtual 126, 3) := by decide +kernel
theorem dX11_lend_16 : decode cX11_lend 16 = .ok (.ireturn, 1) := by decide +kernel
theorem dX11_lend_17 : decode cX11_lend 17 = .ok (.aload_n 0, 1) := by decide +kernel
theorem dX11_lend_18 : decode cX11_lend 18 = .ok (.getfield 36, 3) := by decide +kernel
theorem dX11_lend_21 : decode cX11_lend 21 = .ok (.iload_n 1, 1) := by decide +kernel
theorem dX11_lend_22 : decode cX11_lend 22 = .ok (.iload_n 2, 1) := by decide +kernel
theorem dX11_lend_23 : decode cX11_lend 23 = .ok (.invokevirtual 309, 3) := by decide +kernel
theorem dX11_lend_26 : decode cX11_lend 26 = .ok (.aload_n 0, 1) := by decide +kernel
theorem dX11_lend_27 : decode cX11_lend 27 = .ok (.getfield 45, 3) := by decide +kernel
theorem dX11_lend_30 : decode cX11_lend 30 = .ok (.aload_n 0, 1) := by decide +kernel
theorem dX11_lend_31 : decode cX11_lend 31 = .ok (.getfield 36, 3) := by decide +kernel
theorem dX11_lend_34 : decode cX11_lend 34 = .ok (.iload_n 1, 1) := by decide +kernel
theorem dX11_lend_35 : decode cX11_lend 35 = .ok (.invokevirtual 259, 3) := by decide +kernel
theorem dX11_lend_38 : decode cX11_lend 38 = .ok (.invokevirtual 306, 3) := by decide +kernel
theorem dX11_lend_41 : decode cX11_lend 41 = .ok (.aload_n 0, 1) := by decide +kernel
theorem dX11_lend_42 : decode cX11_lend 42 = .ok (.invokevirtual 134, 3) := by decide +kernel
theorem dX11_lend_45 : decode cX11_lend 45 = .ok (.ireturn, 1) := by decide +kernel
theorem dX11_longAt_0 : decode cX11_longAt 0 = .ok (.iload_n 1, 1) := by decide +kernel
theorem dX11_longAt_1 : decode cX11_longAt 1 = .ok (.ifCond .lt 15, 3) := by decide +kernel
theorem dX11_longAt_4 : decode cX11_longAt 4 = .ok (.iload_n 1, 1) := by decide +kernel
theorem dX11_longAt_5 : decode cX11_longAt 5 = .ok (.aload_n 0, 1) := by decide +kernel
theorem dX11_longAt_6 : decode cX11_longAt 6 = .ok (.arraylength, 1) := by decide +kernel
theorem dX11_longAt_7 : decode cX11_longAt 7 = .ok (.if_icmp .ge 9, 3) := by decide +kernel
theorem dX11_longAt_10 : decode cX11_longAt 10 = .ok (.aload_n 0, 1) := by decide +kernel
theorem dX11_longAt_11 : decode cX11_longAt 11 = .ok (.iload_n 1, 1) := by decide +kernel
theorem dX11_longAt_12 : decode cX11_longAt 12 = .ok (.laload, 1) := by decide +kernel
theorem dX11_longAt_13 : decode cX11_longAt 13 = .ok (.goto 4, 3) := by decide +kernel
theorem dX11_longAt_16 : decode cX11_longAt 16 = .ok (.lconst 0, 1) := by decide +kernel
theorem dX11_longAt_17 : decode cX11_longAt 17 = .ok (.lreturn, 1) := by decide +kernel
theorem dX11_many_0 : decode cX11_many 0 = .ok (.iload_n 1, 1) := by decide +kernel
theorem dX11_many_1 : decode cX11_many 1 = .ok (.tableswitch 195 0 10 #[59, 71, 83, 95, 107, 119, 132, 145, 158, 171, 183], 59) := by decide +kernel
theorem dX11_many_60 : decode cX11_many 60 = .ok (.aload_n 0, 1) := by decide +kernel
theorem dX11_many_61 : decode cX11_many 61 = .ok (.aload_n 0, 1) := by decide +kernel
theorem dX11_many_62 : decode cX11_many 62 = .ok (.getfield 36, 3) := by decide +kernel
theorem dX11_many_65 : decode cX11_many 65 = .ok (.getfield 213, 3) := by decide +kernel
theorem dX11_many_68 : decode cX11_many 68 = .ok (.invokevirtual 195, 3) := by decide +kernel
theorem dX11_many_71 : decode cX11_many 71 = .ok (.ireturn, 1) := by decide +kernel
theorem dX11_many_72 : decode cX11_many 72 = .ok (.aload_n 0, 1) := by decide +kernel
theorem dX11_many_73 : decode cX11_many 73 = .ok (.aload_n 0, 1) := by decide +kernel
theorem dX11_many_74 : decode cX11_many 74 = .ok (.getfield 36, 3) := by decide +kernel
theorem dX11_many_77 : decode cX11_many 77 = .ok (.getfield 192, 3) := by decide +kernel
theorem dX11_many_80 : decode cX11_many 80 = .ok (.invokevirtual 195, 3) := by decide +kernel
theorem dX11_many_83 : decode cX11_many 83 = .ok (.ireturn, 1) := by decide +kernel
theorem dX11_many_84 : decode cX11_many 84 = .ok (.aload_n 0, 1) := by decide +kernel
theorem dX11_many_85 : decode cX11_many 85 = .ok (.aload_n 0, 1) := by decide +kernel
