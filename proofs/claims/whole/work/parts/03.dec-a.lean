theorem dJ0_length_8abf5_0 : decode cJ0_length_8abf5 0 = .ok (.aload_n 0, 1) := by decide +kernel
theorem dJ0_length_8abf5_1 : decode cJ0_length_8abf5 1 = .ok (.getfield 9, 3) := by decide +kernel
theorem dJ0_length_8abf5_4 : decode cJ0_length_8abf5 4 = .ok (.arraylength, 1) := by decide +kernel
theorem dJ0_length_8abf5_5 : decode cJ0_length_8abf5 5 = .ok (.aload_n 0, 1) := by decide +kernel
theorem dJ0_length_8abf5_6 : decode cJ0_length_8abf5 6 = .ok (.invokevirtual 335, 3) := by decide +kernel
theorem dJ0_length_8abf5_9 : decode cJ0_length_8abf5 9 = .ok (.ishr, 1) := by decide +kernel
theorem dJ0_length_8abf5_10 : decode cJ0_length_8abf5 10 = .ok (.ireturn, 1) := by decide +kernel
theorem dJ0_charAt_5068e_0 : decode cJ0_charAt_5068e 0 = .ok (.aload_n 0, 1) := by decide +kernel
theorem dJ0_charAt_5068e_1 : decode cJ0_charAt_5068e 1 = .ok (.invokevirtual 492, 3) := by decide +kernel
theorem dJ0_charAt_5068e_4 : decode cJ0_charAt_5068e 4 = .ok (.ifCond .eq 12, 3) := by decide +kernel
theorem dJ0_charAt_5068e_7 : decode cJ0_charAt_5068e 7 = .ok (.aload_n 0, 1) := by decide +kernel
theorem dJ0_charAt_5068e_8 : decode cJ0_charAt_5068e 8 = .ok (.getfield 9, 3) := by decide +kernel
theorem dJ0_charAt_5068e_11 : decode cJ0_charAt_5068e 11 = .ok (.iload_n 1, 1) := by decide +kernel
theorem dJ0_charAt_5068e_12 : decode cJ0_charAt_5068e 12 = .ok (.invokestatic 495, 3) := by decide +kernel
theorem dJ0_charAt_5068e_15 : decode cJ0_charAt_5068e 15 = .ok (.ireturn, 1) := by decide +kernel
theorem dJ0_charAt_5068e_16 : decode cJ0_charAt_5068e 16 = .ok (.aload_n 0, 1) := by decide +kernel
theorem dJ0_charAt_5068e_17 : decode cJ0_charAt_5068e 17 = .ok (.getfield 9, 3) := by decide +kernel
theorem dJ0_charAt_5068e_20 : decode cJ0_charAt_5068e 20 = .ok (.iload_n 1, 1) := by decide +kernel
theorem dJ0_charAt_5068e_21 : decode cJ0_charAt_5068e 21 = .ok (.invokestatic 498, 3) := by decide +kernel
theorem dJ0_charAt_5068e_24 : decode cJ0_charAt_5068e 24 = .ok (.ireturn, 1) := by decide +kernel
theorem dJ0_coder_7d493_0 : decode cJ0_coder_7d493 0 = .ok (.getstatic 38, 3) := by decide +kernel
theorem dJ0_coder_7d493_3 : decode cJ0_coder_7d493 3 = .ok (.ifCond .eq 10, 3) := by decide +kernel
theorem dJ0_coder_7d493_6 : decode cJ0_coder_7d493 6 = .ok (.aload_n 0, 1) := by decide +kernel
theorem dJ0_coder_7d493_7 : decode cJ0_coder_7d493 7 = .ok (.getfield 15, 3) := by decide +kernel
theorem dJ0_coder_7d493_10 : decode cJ0_coder_7d493 10 = .ok (.goto 4, 3) := by decide +kernel
theorem dJ0_coder_7d493_13 : decode cJ0_coder_7d493 13 = .ok (.iconst 1, 1) := by decide +kernel
theorem dJ0_coder_7d493_14 : decode cJ0_coder_7d493 14 = .ok (.ireturn, 1) := by decide +kernel
theorem dJ0_isLatin1_aae02_0 : decode cJ0_isLatin1_aae02 0 = .ok (.getstatic 38, 3) := by decide +kernel
theorem dJ0_isLatin1_aae02_3 : decode cJ0_isLatin1_aae02 3 = .ok (.ifCond .eq 14, 3) := by decide +kernel
theorem dJ0_isLatin1_aae02_6 : decode cJ0_isLatin1_aae02 6 = .ok (.aload_n 0, 1) := by decide +kernel
theorem dJ0_isLatin1_aae02_7 : decode cJ0_isLatin1_aae02 7 = .ok (.getfield 15, 3) := by decide +kernel
theorem dJ0_isLatin1_aae02_10 : decode cJ0_isLatin1_aae02 10 = .ok (.ifCond .ne 7, 3) := by decide +kernel
theorem dJ0_isLatin1_aae02_13 : decode cJ0_isLatin1_aae02 13 = .ok (.iconst 1, 1) := by decide +kernel
theorem dJ0_isLatin1_aae02_14 : decode cJ0_isLatin1_aae02 14 = .ok (.goto 4, 3) := by decide +kernel
theorem dJ0_isLatin1_aae02_17 : decode cJ0_isLatin1_aae02 17 = .ok (.iconst 0, 1) := by decide +kernel
theorem dJ0_isLatin1_aae02_18 : decode cJ0_isLatin1_aae02 18 = .ok (.ireturn, 1) := by decide +kernel
theorem dJ0_checkIndex_df160_0 : decode cJ0_checkIndex_df160 0 = .ok (.iload_n 0, 1) := by decide +kernel
theorem dJ0_checkIndex_df160_1 : decode cJ0_checkIndex_df160 1 = .ok (.iload_n 1, 1) := by decide +kernel
theorem dJ0_checkIndex_df160_2 : decode cJ0_checkIndex_df160 2 = .ok (.getstatic 1053, 3) := by decide +kernel
theorem dJ0_checkIndex_df160_5 : decode cJ0_checkIndex_df160 5 = .ok (.invokestatic 1059, 3) := by decide +kernel
theorem dJ0_checkIndex_df160_8 : decode cJ0_checkIndex_df160 8 = .ok (.pop, 1) := by decide +kernel
theorem dJ0_checkIndex_df160_9 : decode cJ0_checkIndex_df160 9 = .ok (.return_, 1) := by decide +kernel
theorem dJ1_charAt_3b067_0 : decode cJ1_charAt_3b067 0 = .ok (.iload_n 1, 1) := by decide +kernel
theorem dJ1_charAt_3b067_1 : decode cJ1_charAt_3b067 1 = .ok (.aload_n 0, 1) := by decide +kernel
theorem dJ1_charAt_3b067_2 : decode cJ1_charAt_3b067 2 = .ok (.arraylength, 1) := by decide +kernel
theorem dJ1_charAt_3b067_3 : decode cJ1_charAt_3b067 3 = .ok (.invokestatic 9, 3) := by decide +kernel
theorem dJ1_charAt_3b067_6 : decode cJ1_charAt_3b067 6 = .ok (.aload_n 0, 1) := by decide +kernel
theorem dJ1_charAt_3b067_7 : decode cJ1_charAt_3b067 7 = .ok (.iload_n 1, 1) := by decide +kernel
theorem dJ1_charAt_3b067_8 : decode cJ1_charAt_3b067 8 = .ok (.baload, 1) := by decide +kernel
theorem dJ1_charAt_3b067_9 : decode cJ1_charAt_3b067 9 = .ok (.sipush 255, 3) := by decide +kernel
theorem dJ1_charAt_3b067_12 : decode cJ1_charAt_3b067 12 = .ok (.iand, 1) := by decide +kernel
theorem dJ1_charAt_3b067_13 : decode cJ1_charAt_3b067 13 = .ok (.i2c, 1) := by decide +kernel
theorem dJ1_charAt_3b067_14 : decode cJ1_charAt_3b067 14 = .ok (.ireturn, 1) := by decide +kernel
theorem dJ2_getChar_3b067_0 : decode cJ2_getChar_3b067 0 = .ok (.getstatic 44, 3) := by decide +kernel
theorem dJ2_getChar_3b067_3 : decode cJ2_getChar_3b067 3 = .ok (.ifCond .ne 25, 3) := by decide +kernel
theorem dJ2_getChar_3b067_6 : decode cJ2_getChar_3b067 6 = .ok (.iload_n 1, 1) := by decide +kernel
theorem dJ2_getChar_3b067_7 : decode cJ2_getChar_3b067 7 = .ok (.ifCond .lt 11, 3) := by decide +kernel
theorem dJ2_getChar_3b067_10 : decode cJ2_getChar_3b067 10 = .ok (.iload_n 1, 1) := by decide +kernel
theorem dJ2_getChar_3b067_11 : decode cJ2_getChar_3b067 11 = .ok (.aload_n 0, 1) := by decide +kernel
theorem dJ2_getChar_3b067_12 : decode cJ2_getChar_3b067 12 = .ok (.invokestatic 48, 3) := by decide +kernel
theorem dJ2_getChar_3b067_15 : decode cJ2_getChar_3b067 15 = .ok (.if_icmp .lt 13, 3) := by decide +kernel
theorem dJ2_getChar_3b067_18 : decode cJ2_getChar_3b067 18 = .ok (.new 52, 3) := by decide +kernel
theorem dJ2_getChar_3b067_21 : decode cJ2_getChar_3b067 21 = .ok (.dup, 1) := by decide +kernel
theorem dJ2_getChar_3b067_22 : decode cJ2_getChar_3b067 22 = .ok (.ldc 54, 2) := by decide +kernel
theorem dJ2_getChar_3b067_24 : decode cJ2_getChar_3b067 24 = .ok (.invokespecial 56, 3) := by decide +kernel
theorem dJ2_getChar_3b067_27 : decode cJ2_getChar_3b067 27 = .ok (.athrow, 1) := by decide +kernel
theorem dJ2_getChar_3b067_28 : decode cJ2_getChar_3b067 28 = .ok (.iload_n 1, 1) := by decide +kernel
theorem dJ2_getChar_3b067_29 : decode cJ2_getChar_3b067 29 = .ok (.iconst 1, 1) := by decide +kernel
theorem dJ2_getChar_3b067_30 : decode cJ2_getChar_3b067 30 = .ok (.ishl, 1) := by decide +kernel
theorem dJ2_getChar_3b067_31 : decode cJ2_getChar_3b067 31 = .ok (.istore_n 1, 1) := by decide +kernel
theorem dJ2_getChar_3b067_32 : decode cJ2_getChar_3b067 32 = .ok (.aload_n 0, 1) := by decide +kernel
theorem dJ2_getChar_3b067_33 : decode cJ2_getChar_3b067 33 = .ok (.iload_n 1, 1) := by decide +kernel
theorem dJ2_getChar_3b067_34 : decode cJ2_getChar_3b067 34 = .ok (.iinc 1 1, 3) := by decide +kernel
theorem dJ2_getChar_3b067_37 : decode cJ2_getChar_3b067 37 = .ok (.baload, 1) := by decide +kernel
theorem dJ2_getChar_3b067_38 : decode cJ2_getChar_3b067 38 = .ok (.sipush 255, 3) := by decide +kernel
theorem dJ2_getChar_3b067_41 : decode cJ2_getChar_3b067 41 = .ok (.iand, 1) := by decide +kernel
theorem dJ2_getChar_3b067_42 : decode cJ2_getChar_3b067 42 = .ok (.getstatic 59, 3) := by decide +kernel
theorem dJ2_getChar_3b067_45 : decode cJ2_getChar_3b067 45 = .ok (.ishl, 1) := by decide +kernel
theorem dJ2_getChar_3b067_46 : decode cJ2_getChar_3b067 46 = .ok (.aload_n 0, 1) := by decide +kernel
theorem dJ2_getChar_3b067_47 : decode cJ2_getChar_3b067 47 = .ok (.iload_n 1, 1) := by decide +kernel
theorem dJ2_getChar_3b067_48 : decode cJ2_getChar_3b067 48 = .ok (.baload, 1) := by decide +kernel
theorem dJ2_getChar_3b067_49 : decode cJ2_getChar_3b067 49 = .ok (.sipush 255, 3) := by decide +kernel
theorem dJ2_getChar_3b067_52 : decode cJ2_getChar_3b067 52 = .ok (.iand, 1) := by decide +kernel
theorem dJ2_getChar_3b067_53 : decode cJ2_getChar_3b067 53 = .ok (.getstatic 63, 3) := by decide +kernel
theorem dJ2_getChar_3b067_56 : decode cJ2_getChar_3b067 56 = .ok (.ishl, 1) := by decide +kernel
theorem dJ2_getChar_3b067_57 : decode cJ2_getChar_3b067 57 = .ok (.ior, 1) := by decide +kernel
theorem dJ2_getChar_3b067_58 : decode cJ2_getChar_3b067 58 = .ok (.i2c, 1) := by decide +kernel
theorem dJ2_getChar_3b067_59 : decode cJ2_getChar_3b067 59 = .ok (.ireturn, 1) := by decide +kernel
theorem dJ2_length_9d52b_0 : decode cJ2_length_9d52b 0 = .ok (.aload_n 0, 1) := by decide +kernel
theorem dJ2_length_9d52b_1 : decode cJ2_length_9d52b 1 = .ok (.arraylength, 1) := by decide +kernel
theorem dJ2_length_9d52b_2 : decode cJ2_length_9d52b 2 = .ok (.iconst 1, 1) := by decide +kernel
theorem dJ2_length_9d52b_3 : decode cJ2_length_9d52b 3 = .ok (.ishr, 1) := by decide +kernel
theorem dJ2_length_9d52b_4 : decode cJ2_length_9d52b 4 = .ok (.ireturn, 1) := by decide +kernel
theorem dJ2_charAt_3b067_0 : decode cJ2_charAt_3b067 0 = .ok (.iload_n 1, 1) := by decide +kernel
theorem dJ2_charAt_3b067_1 : decode cJ2_charAt_3b067 1 = .ok (.aload_n 0, 1) := by decide +kernel
theorem dJ2_charAt_3b067_2 : decode cJ2_charAt_3b067 2 = .ok (.invokestatic 67, 3) := by decide +kernel
theorem dJ2_charAt_3b067_5 : decode cJ2_charAt_3b067 5 = .ok (.aload_n 0, 1) := by decide +kernel
theorem dJ2_charAt_3b067_6 : decode cJ2_charAt_3b067 6 = .ok (.iload_n 1, 1) := by decide +kernel
theorem dJ2_charAt_3b067_7 : decode cJ2_charAt_3b067 7 = .ok (.invokestatic 71, 3) := by decide +kernel
theorem dJ2_charAt_3b067_10 : decode cJ2_charAt_3b067 10 = .ok (.ireturn, 1) := by decide +kernel
theorem dJ2_checkIndex_2214a_0 : decode cJ2_checkIndex_2214a 0 = .ok (.iload_n 0, 1) := by decide +kernel
theorem dJ2_checkIndex_2214a_1 : decode cJ2_checkIndex_2214a 1 = .ok (.aload_n 1, 1) := by decide +kernel
theorem dJ2_checkIndex_2214a_2 : decode cJ2_checkIndex_2214a 2 = .ok (.invokestatic 48, 3) := by decide +kernel
theorem dJ2_checkIndex_2214a_5 : decode cJ2_checkIndex_2214a 5 = .ok (.invokestatic 414, 3) := by decide +kernel
theorem dJ2_checkIndex_2214a_8 : decode cJ2_checkIndex_2214a 8 = .ok (.return_, 1) := by decide +kernel
theorem dJ3_checkIndex_8e157_0 : decode cJ3_checkIndex_8e157 0 = .ok (.iload_n 0, 1) := by decide +kernel
theorem dJ3_checkIndex_8e157_1 : decode cJ3_checkIndex_8e157 1 = .ok (.ifCond .lt 8, 3) := by decide +kernel
theorem dJ3_checkIndex_8e157_4 : decode cJ3_checkIndex_8e157 4 = .ok (.iload_n 0, 1) := by decide +kernel
theorem dJ3_checkIndex_8e157_5 : decode cJ3_checkIndex_8e157 5 = .ok (.iload_n 1, 1) := by decide +kernel
theorem dJ3_checkIndex_8e157_6 : decode cJ3_checkIndex_8e157 6 = .ok (.if_icmp .lt 10, 3) := by decide +kernel
theorem dJ3_checkIndex_8e157_9 : decode cJ3_checkIndex_8e157 9 = .ok (.aload_n 2, 1) := by decide +kernel
theorem dJ3_checkIndex_8e157_10 : decode cJ3_checkIndex_8e157 10 = .ok (.iload_n 0, 1) := by decide +kernel
theorem dJ3_checkIndex_8e157_11 : decode cJ3_checkIndex_8e157 11 = .ok (.iload_n 1, 1) := by decide +kernel
theorem dJ3_checkIndex_8e157_12 : decode cJ3_checkIndex_8e157 12 = .ok (.invokestatic 95, 3) := by decide +kernel
theorem dJ3_checkIndex_8e157_15 : decode cJ3_checkIndex_8e157 15 = .ok (.athrow, 1) := by decide +kernel
theorem dJ3_checkIndex_8e157_16 : decode cJ3_checkIndex_8e157 16 = .ok (.iload_n 0, 1) := by decide +kernel
theorem dJ3_checkIndex_8e157_17 : decode cJ3_checkIndex_8e157 17 = .ok (.ireturn, 1) := by decide +kernel
theorem dJ6_compare_7cf53_0 : decode cJ6_compare_7cf53 0 = .ok (.iload_n 0, 1) := by decide +kernel
theorem dJ6_compare_7cf53_1 : decode cJ6_compare_7cf53 1 = .ok (.iload_n 1, 1) := by decide +kernel
theorem dJ6_compare_7cf53_2 : decode cJ6_compare_7cf53 2 = .ok (.if_icmp .ge 7, 3) := by decide +kernel
theorem dJ6_compare_7cf53_5 : decode cJ6_compare_7cf53 5 = .ok (.iconst (-1), 1) := by decide +kernel
theorem dJ6_compare_7cf53_6 : decode cJ6_compare_7cf53 6 = .ok (.goto 13, 3) := by decide +kernel
theorem dJ6_compare_7cf53_9 : decode cJ6_compare_7cf53 9 = .ok (.iload_n 0, 1) := by decide +kernel
theorem dJ6_compare_7cf53_10 : decode cJ6_compare_7cf53 10 = .ok (.iload_n 1, 1) := by decide +kernel
theorem dJ6_compare_7cf53_11 : decode cJ6_compare_7cf53 11 = .ok (.if_icmp .ne 7, 3) := by decide +kernel
theorem dJ6_compare_7cf53_14 : decode cJ6_compare_7cf53 14 = .ok (.iconst 0, 1) := by decide +kernel
theorem dJ6_compare_7cf53_15 : decode cJ6_compare_7cf53 15 = .ok (.goto 4, 3) := by decide +kernel
theorem dJ6_compare_7cf53_18 : decode cJ6_compare_7cf53 18 = .ok (.iconst 1, 1) := by decide +kernel
theorem dJ6_compare_7cf53_19 : decode cJ6_compare_7cf53 19 = .ok (.ireturn, 1) := by decide +kernel
theorem dJ9_max_7cf53_0 : decode cJ9_max_7cf53 0 = .ok (.iload_n 0, 1) := by decide +kernel
theorem dJ9_max_7cf53_1 : decode cJ9_max_7cf53 1 = .ok (.iload_n 1, 1) := by decide +kernel
theorem dJ9_max_7cf53_2 : decode cJ9_max_7cf53 2 = .ok (.if_icmp .lt 7, 3) := by decide +kernel
theorem dJ9_max_7cf53_5 : decode cJ9_max_7cf53 5 = .ok (.iload_n 0, 1) := by decide +kernel
theorem dJ9_max_7cf53_6 : decode cJ9_max_7cf53 6 = .ok (.goto 4, 3) := by decide +kernel
theorem dJ9_max_7cf53_9 : decode cJ9_max_7cf53 9 = .ok (.iload_n 1, 1) := by decide +kernel
theorem dJ9_max_7cf53_10 : decode cJ9_max_7cf53 10 = .ok (.ireturn, 1) := by decide +kernel
theorem dJ9_min_7cf53_0 : decode cJ9_min_7cf53 0 = .ok (.iload_n 0, 1) := by decide +kernel
theorem dJ9_min_7cf53_1 : decode cJ9_min_7cf53 1 = .ok (.iload_n 1, 1) := by decide +kernel
theorem dJ9_min_7cf53_2 : decode cJ9_min_7cf53 2 = .ok (.if_icmp .gt 7, 3) := by decide +kernel
theorem dJ9_min_7cf53_5 : decode cJ9_min_7cf53 5 = .ok (.iload_n 0, 1) := by decide +kernel
theorem dJ9_min_7cf53_6 : decode cJ9_min_7cf53 6 = .ok (.goto 4, 3) := by decide +kernel
theorem dJ9_min_7cf53_9 : decode cJ9_min_7cf53 9 = .ok (.iload_n 1, 1) := by decide +kernel
theorem dJ9_min_7cf53_10 : decode cJ9_min_7cf53 10 = .ok (.ireturn, 1) := by decide +kernel
theorem dX0_foldInto_0 : decode cX0_foldInto 0 = .ok (.aload_n 0, 1) := by decide +kernel
theorem dX0_foldInto_1 : decode cX0_foldInto 1 = .ok (.invokevirtual 9, 3) := by decide +kernel
theorem dX0_foldInto_4 : decode cX0_foldInto 4 = .ok (.iload_n 2, 1) := by decide +kernel
theorem dX0_foldInto_5 : decode cX0_foldInto 5 = .ok (.istore 4, 2) := by decide +kernel
theorem dX0_foldInto_7 : decode cX0_foldInto 7 = .ok (.iload 4, 2) := by decide +kernel
theorem dX0_foldInto_9 : decode cX0_foldInto 9 = .ok (.iload_n 3, 1) := by decide +kernel
theorem dX0_foldInto_10 : decode cX0_foldInto 10 = .ok (.if_icmp .ge 30, 3) := by decide +kernel
theorem dX0_foldInto_13 : decode cX0_foldInto 13 = .ok (.aload_n 1, 1) := by decide +kernel
theorem dX0_foldInto_14 : decode cX0_foldInto 14 = .ok (.iload 4, 2) := by decide +kernel
theorem dX0_foldInto_16 : decode cX0_foldInto 16 = .ok (.iload_n 3, 1) := by decide +kernel
theorem dX0_foldInto_17 : decode cX0_foldInto 17 = .ok (.invokestatic 14, 3) := by decide +kernel
theorem dX0_foldInto_20 : decode cX0_foldInto 20 = .ok (.istore 5, 2) := by decide +kernel
theorem dX0_foldInto_22 : decode cX0_foldInto 22 = .ok (.iload 5, 2) := by decide +kernel
theorem dX0_foldInto_24 : decode cX0_foldInto 24 = .ok (.iconst (-1), 1) := by decide +kernel
theorem dX0_foldInto_25 : decode cX0_foldInto 25 = .ok (.if_icmp .eq 9, 3) := by decide +kernel
theorem dX0_foldInto_28 : decode cX0_foldInto 28 = .ok (.aload_n 0, 1) := by decide +kernel
theorem dX0_foldInto_29 : decode cX0_foldInto 29 = .ok (.iload 5, 2) := by decide +kernel
theorem dX0_foldInto_31 : decode cX0_foldInto 31 = .ok (.invokestatic 20, 3) := by decide +kernel
theorem dX0_foldInto_34 : decode cX0_foldInto 34 = .ok (.iinc 4 1, 3) := by decide +kernel
theorem dX0_foldInto_37 : decode cX0_foldInto 37 = .ok (.goto (-30), 3) := by decide +kernel
theorem dX0_foldInto_40 : decode cX0_foldInto 40 = .ok (.return_, 1) := by decide +kernel
theorem dX0_addFolded_0 : decode cX0_addFolded 0 = .ok (.iload_n 1, 1) := by decide +kernel
theorem dX0_addFolded_1 : decode cX0_addFolded 1 = .ok (.sipush 192, 3) := by decide +kernel
theorem dX0_addFolded_4 : decode cX0_addFolded 4 = .ok (.isub, 1) := by decide +kernel
theorem dX0_addFolded_5 : decode cX0_addFolded 5 = .ok (.istore_n 2, 1) := by decide +kernel
theorem dX0_addFolded_6 : decode cX0_addFolded 6 = .ok (.iload_n 2, 1) := by decide +kernel
theorem dX0_addFolded_7 : decode cX0_addFolded 7 = .ok (.ifCond .lt 27, 3) := by decide +kernel
theorem dX0_addFolded_10 : decode cX0_addFolded 10 = .ok (.iload_n 2, 1) := by decide +kernel
theorem dX0_addFolded_11 : decode cX0_addFolded 11 = .ok (.ldc 26, 2) := by decide +kernel
theorem dX0_addFolded_13 : decode cX0_addFolded 13 = .ok (.invokevirtual 28, 3) := by decide +kernel
theorem dX0_addFolded_16 : decode cX0_addFolded 16 = .ok (.if_icmp .ge 18, 3) := by decide +kernel
theorem dX0_addFolded_19 : decode cX0_addFolded 19 = .ok (.ldc 26, 2) := by decide +kernel
theorem dX0_addFolded_21 : decode cX0_addFolded 21 = .ok (.iload_n 2, 1) := by decide +kernel
theorem dX0_addFolded_22 : decode cX0_addFolded 22 = .ok (.invokevirtual 34, 3) := by decide +kernel
theorem dX0_addFolded_25 : decode cX0_addFolded 25 = .ok (.bipush 95, 2) := by decide +kernel
theorem dX0_addFolded_27 : decode cX0_addFolded 27 = .ok (.if_icmp .eq 7, 3) := by decide +kernel
theorem dX0_addFolded_30 : decode cX0_addFolded 30 = .ok (.iconst 1, 1) := by decide +kernel
theorem dX0_addFolded_31 : decode cX0_addFolded 31 = .ok (.goto 4, 3) := by decide +kernel
theorem dX0_addFolded_34 : decode cX0_addFolded 34 = .ok (.iconst 0, 1) := by decide +kernel
theorem dX0_addFolded_35 : decode cX0_addFolded 35 = .ok (.istore_n 3, 1) := by decide +kernel
theorem dX0_addFolded_36 : decode cX0_addFolded 36 = .ok (.iload_n 3, 1) := by decide +kernel
theorem dX0_addFolded_37 : decode cX0_addFolded 37 = .ok (.ifCond .ne 12, 3) := by decide +kernel
theorem dX0_addFolded_40 : decode cX0_addFolded 40 = .ok (.aload_n 0, 1) := by decide +kernel
theorem dX0_addFolded_41 : decode cX0_addFolded 41 = .ok (.iload_n 1, 1) := by decide +kernel
theorem dX0_addFolded_42 : decode cX0_addFolded 42 = .ok (.invokestatic 38, 3) := by decide +kernel
theorem dX0_addFolded_45 : decode cX0_addFolded 45 = .ok (.invokestatic 42, 3) := by decide +kernel
theorem dX0_addFolded_48 : decode cX0_addFolded 48 = .ok (.return_, 1) := by decide +kernel
theorem dX0_addFolded_49 : decode cX0_addFolded 49 = .ok (.aload_n 0, 1) := by decide +kernel
theorem dX0_addFolded_50 : decode cX0_addFolded 50 = .ok (.ldc 26, 2) := by decide +kernel
theorem dX0_addFolded_52 : decode cX0_addFolded 52 = .ok (.iload_n 2, 1) := by decide +kernel
theorem dX0_addFolded_53 : decode cX0_addFolded 53 = .ok (.invokevirtual 34, 3) := by decide +kernel
theorem dX0_addFolded_56 : decode cX0_addFolded 56 = .ok (.invokestatic 38, 3) := by decide +kernel
theorem dX0_addFolded_59 : decode cX0_addFolded 59 = .ok (.invokestatic 42, 3) := by decide +kernel
theorem dX0_addFolded_62 : decode cX0_addFolded 62 = .ok (.aload_n 0, 1) := by decide +kernel
theorem dX0_addFolded_63 : decode cX0_addFolded 63 = .ok (.sipush 768, 3) := by decide +kernel
theorem dX0_addFolded_66 : decode cX0_addFolded 66 = .ok (.iload_n 2, 1) := by decide +kernel
theorem dX0_addFolded_67 : decode cX0_addFolded 67 = .ok (.invokestatic 45, 3) := by decide +kernel
theorem dX0_addFolded_70 : decode cX0_addFolded 70 = .ok (.iadd, 1) := by decide +kernel
theorem dX0_addFolded_71 : decode cX0_addFolded 71 = .ok (.invokestatic 42, 3) := by decide +kernel
theorem dX0_addFolded_74 : decode cX0_addFolded 74 = .ok (.return_, 1) := by decide +kernel
theorem dX0_markStep_0 : decode cX0_markStep 0 = .ok (.iload_n 0, 1) := by decide +kernel
theorem dX0_markStep_1 : decode cX0_markStep 1 = .ok (.ifCond .lt 12, 3) := by decide +kernel
theorem dX0_markStep_4 : decode cX0_markStep 4 = .ok (.iload_n 0, 1) := by decide +kernel
theorem dX0_markStep_5 : decode cX0_markStep 5 = .ok (.ldc 48, 2) := by decide +kernel
theorem dX0_markStep_7 : decode cX0_markStep 7 = .ok (.invokevirtual 28, 3) := by decide +kernel
theorem dX0_markStep_10 : decode cX0_markStep 10 = .ok (.if_icmp .lt 5, 3) := by decide +kernel
theorem dX0_markStep_13 : decode cX0_markStep 13 = .ok (.iconst 0, 1) := by decide +kernel
theorem dX0_markStep_14 : decode cX0_markStep 14 = .ok (.ireturn, 1) := by decide +kernel
theorem dX0_markStep_15 : decode cX0_markStep 15 = .ok (.ldc 48, 2) := by decide +kernel
theorem dX0_markStep_17 : decode cX0_markStep 17 = .ok (.iload_n 0, 1) := by decide +kernel
theorem dX0_markStep_18 : decode cX0_markStep 18 = .ok (.invokevirtual 34, 3) := by decide +kernel
theorem dX0_markStep_21 : decode cX0_markStep 21 = .ok (.bipush 48, 2) := by decide +kernel
theorem dX0_markStep_23 : decode cX0_markStep 23 = .ok (.isub, 1) := by decide +kernel
theorem dX0_markStep_24 : decode cX0_markStep 24 = .ok (.istore_n 1, 1) := by decide +kernel
theorem dX0_markStep_25 : decode cX0_markStep 25 = .ok (.iload_n 1, 1) := by decide +kernel
theorem dX0_markStep_26 : decode cX0_markStep 26 = .ok (.ifCond .lt 11, 3) := by decide +kernel
theorem dX0_markStep_29 : decode cX0_markStep 29 = .ok (.iload_n 1, 1) := by decide +kernel
theorem dX0_markStep_30 : decode cX0_markStep 30 = .ok (.getstatic 50, 3) := by decide +kernel
theorem dX0_markStep_33 : decode cX0_markStep 33 = .ok (.arraylength, 1) := by decide +kernel
theorem dX0_markStep_34 : decode cX0_markStep 34 = .ok (.if_icmp .lt 7, 3) := by decide +kernel
theorem dX0_markStep_37 : decode cX0_markStep 37 = .ok (.iconst 0, 1) := by decide +kernel
theorem dX0_markStep_38 : decode cX0_markStep 38 = .ok (.goto 8, 3) := by decide +kernel
theorem dX0_markStep_41 : decode cX0_markStep 41 = .ok (.getstatic 50, 3) := by decide +kernel
theorem dX0_markStep_44 : decode cX0_markStep 44 = .ok (.iload_n 1, 1) := by decide +kernel
theorem dX0_markStep_45 : decode cX0_markStep 45 = .ok (.iaload, 1) := by decide +kernel
theorem dX0_markStep_46 : decode cX0_markStep 46 = .ok (.ireturn, 1) := by decide +kernel
theorem dX0_addInOrder_0 : decode cX0_addInOrder 0 = .ok (.iload_n 1, 1) := by decide +kernel
theorem dX0_addInOrder_1 : decode cX0_addInOrder 1 = .ok (.invokestatic 54, 3) := by decide +kernel
theorem dX0_addInOrder_4 : decode cX0_addInOrder 4 = .ok (.istore_n 2, 1) := by decide +kernel
theorem dX0_addInOrder_5 : decode cX0_addInOrder 5 = .ok (.aload_n 0, 1) := by decide +kernel
theorem dX0_addInOrder_6 : decode cX0_addInOrder 6 = .ok (.invokevirtual 57, 3) := by decide +kernel
theorem dX0_addInOrder_9 : decode cX0_addInOrder 9 = .ok (.istore_n 3, 1) := by decide +kernel
theorem dX0_addInOrder_10 : decode cX0_addInOrder 10 = .ok (.iload_n 2, 1) := by decide +kernel
theorem dX0_addInOrder_11 : decode cX0_addInOrder 11 = .ok (.ifCond .le 27, 3) := by decide +kernel
theorem dX0_addInOrder_14 : decode cX0_addInOrder 14 = .ok (.iload_n 3, 1) := by decide +kernel
theorem dX0_addInOrder_15 : decode cX0_addInOrder 15 = .ok (.ifCond .le 23, 3) := by decide +kernel
theorem dX0_addInOrder_18 : decode cX0_addInOrder 18 = .ok (.aload_n 0, 1) := by decide +kernel
theorem dX0_addInOrder_19 : decode cX0_addInOrder 19 = .ok (.iload_n 3, 1) := by decide +kernel
theorem dX0_addInOrder_20 : decode cX0_addInOrder 20 = .ok (.iconst 1, 1) := by decide +kernel
theorem dX0_addInOrder_21 : decode cX0_addInOrder 21 = .ok (.isub, 1) := by decide +kernel
theorem dX0_addInOrder_22 : decode cX0_addInOrder 22 = .ok (.invokevirtual 60, 3) := by decide +kernel
theorem dX0_addInOrder_25 : decode cX0_addInOrder 25 = .ok (.invokestatic 54, 3) := by decide +kernel
theorem dX0_addInOrder_28 : decode cX0_addInOrder 28 = .ok (.iload_n 2, 1) := by decide +kernel
theorem dX0_addInOrder_29 : decode cX0_addInOrder 29 = .ok (.if_icmp .le 9, 3) := by decide +kernel
theorem dX0_addInOrder_32 : decode cX0_addInOrder 32 = .ok (.iinc 3 (-1), 3) := by decide +kernel
theorem dX0_addInOrder_35 : decode cX0_addInOrder 35 = .ok (.goto (-25), 3) := by decide +kernel
theorem dX0_addInOrder_38 : decode cX0_addInOrder 38 = .ok (.aload_n 0, 1) := by decide +kernel
theorem dX0_addInOrder_39 : decode cX0_addInOrder 39 = .ok (.iload_n 3, 1) := by decide +kernel
theorem dX0_addInOrder_40 : decode cX0_addInOrder 40 = .ok (.iload_n 1, 1) := by decide +kernel
theorem dX0_addInOrder_41 : decode cX0_addInOrder 41 = .ok (.invokevirtual 63, 3) := by decide +kernel
theorem dX0_addInOrder_44 : decode cX0_addInOrder 44 = .ok (.return_, 1) := by decide +kernel
theorem dX0_markClass_0 : decode cX0_markClass 0 = .ok (.iload_n 0, 1) := by decide +kernel
theorem dX0_markClass_1 : decode cX0_markClass 1 = .ok (.sipush 768, 3) := by decide +kernel
theorem dX0_markClass_4 : decode cX0_markClass 4 = .ok (.if_icmp .lt 14, 3) := by decide +kernel
theorem dX0_markClass_7 : decode cX0_markClass 7 = .ok (.iload_n 0, 1) := by decide +kernel
theorem dX0_markClass_8 : decode cX0_markClass 8 = .ok (.sipush 783, 3) := by decide +kernel
theorem dX0_markClass_11 : decode cX0_markClass 11 = .ok (.if_icmp .gt 7, 3) := by decide +kernel
theorem dX0_markClass_14 : decode cX0_markClass 14 = .ok (.sipush 230, 3) := by decide +kernel
theorem dX0_markClass_17 : decode cX0_markClass 17 = .ok (.ireturn, 1) := by decide +kernel
theorem dX0_markClass_18 : decode cX0_markClass 18 = .ok (.iload_n 0, 1) := by decide +kernel
theorem dX0_markClass_19 : decode cX0_markClass 19 = .ok (.sipush 803, 3) := by decide +kernel
theorem dX0_markClass_22 : decode cX0_markClass 22 = .ok (.if_icmp .ne 7, 3) := by decide +kernel
theorem dX0_markClass_25 : decode cX0_markClass 25 = .ok (.sipush 220, 3) := by decide +kernel
theorem dX0_markClass_28 : decode cX0_markClass 28 = .ok (.ireturn, 1) := by decide +kernel
theorem dX0_markClass_29 : decode cX0_markClass 29 = .ok (.iload_n 0, 1) := by decide +kernel
theorem dX0_markClass_30 : decode cX0_markClass 30 = .ok (.sipush 807, 3) := by decide +kernel
theorem dX0_markClass_33 : decode cX0_markClass 33 = .ok (.if_icmp .eq 10, 3) := by decide +kernel
theorem dX0_markClass_36 : decode cX0_markClass 36 = .ok (.iload_n 0, 1) := by decide +kernel
theorem dX0_markClass_37 : decode cX0_markClass 37 = .ok (.sipush 808, 3) := by decide +kernel
theorem dX0_markClass_40 : decode cX0_markClass 40 = .ok (.if_icmp .ne 9, 3) := by decide +kernel
theorem dX0_markClass_43 : decode cX0_markClass 43 = .ok (.sipush 202, 3) := by decide +kernel
theorem dX0_markClass_46 : decode cX0_markClass 46 = .ok (.goto 4, 3) := by decide +kernel
theorem dX0_markClass_49 : decode cX0_markClass 49 = .ok (.iconst 0, 1) := by decide +kernel
theorem dX0_markClass_50 : decode cX0_markClass 50 = .ok (.ireturn, 1) := by decide +kernel
theorem dX0_small_0 : decode cX0_small 0 = .ok (.iload_n 0, 1) := by decide +kernel
theorem dX0_small_1 : decode cX0_small 1 = .ok (.sipush 256, 3) := by decide +kernel
theorem dX0_small_4 : decode cX0_small 4 = .ok (.if_icmp .ge 8, 3) := by decide +kernel
theorem dX0_small_7 : decode cX0_small 7 = .ok (.iload_n 0, 1) := by decide +kernel
theorem dX0_small_8 : decode cX0_small 8 = .ok (.invokestatic 67, 3) := by decide +kernel
theorem dX0_small_11 : decode cX0_small 11 = .ok (.ireturn, 1) := by decide +kernel
theorem dX0_small_12 : decode cX0_small 12 = .ok (.iload_n 0, 1) := by decide +kernel
theorem dX0_small_13 : decode cX0_small 13 = .ok (.sipush 384, 3) := by decide +kernel
theorem dX0_small_16 : decode cX0_small 16 = .ok (.if_icmp .ge 8, 3) := by decide +kernel
theorem dX0_small_19 : decode cX0_small 19 = .ok (.iload_n 0, 1) := by decide +kernel
theorem dX0_small_20 : decode cX0_small 20 = .ok (.invokestatic 70, 3) := by decide +kernel
theorem dX0_small_23 : decode cX0_small 23 = .ok (.ireturn, 1) := by decide +kernel
theorem dX0_small_24 : decode cX0_small 24 = .ok (.iload_n 0, 1) := by decide +kernel
theorem dX0_small_25 : decode cX0_small 25 = .ok (.sipush 962, 3) := by decide +kernel
theorem dX0_small_28 : decode cX0_small 28 = .ok (.if_icmp .ne 7, 3) := by decide +kernel
theorem dX0_small_31 : decode cX0_small 31 = .ok (.sipush 963, 3) := by decide +kernel
theorem dX0_small_34 : decode cX0_small 34 = .ok (.ireturn, 1) := by decide +kernel
theorem dX0_small_35 : decode cX0_small 35 = .ok (.iload_n 0, 1) := by decide +kernel
theorem dX0_small_36 : decode cX0_small 36 = .ok (.sipush 913, 3) := by decide +kernel
theorem dX0_small_39 : decode cX0_small 39 = .ok (.if_icmp .lt 21, 3) := by decide +kernel
theorem dX0_small_42 : decode cX0_small 42 = .ok (.iload_n 0, 1) := by decide +kernel
theorem dX0_small_43 : decode cX0_small 43 = .ok (.sipush 939, 3) := by decide +kernel
theorem dX0_small_46 : decode cX0_small 46 = .ok (.if_icmp .gt 14, 3) := by decide +kernel
theorem dX0_small_49 : decode cX0_small 49 = .ok (.iload_n 0, 1) := by decide +kernel
theorem dX0_small_50 : decode cX0_small 50 = .ok (.sipush 930, 3) := by decide +kernel
theorem dX0_small_53 : decode cX0_small 53 = .ok (.if_icmp .eq 7, 3) := by decide +kernel
theorem dX0_small_56 : decode cX0_small 56 = .ok (.iconst 1, 1) := by decide +kernel
theorem dX0_small_57 : decode cX0_small 57 = .ok (.goto 4, 3) := by decide +kernel
theorem dX0_small_60 : decode cX0_small 60 = .ok (.iconst 0, 1) := by decide +kernel
theorem dX0_small_61 : decode cX0_small 61 = .ok (.istore_n 1, 1) := by decide +kernel
theorem dX0_small_62 : decode cX0_small 62 = .ok (.iload_n 0, 1) := by decide +kernel
theorem dX0_small_63 : decode cX0_small 63 = .ok (.sipush 1040, 3) := by decide +kernel
theorem dX0_small_66 : decode cX0_small 66 = .ok (.if_icmp .lt 14, 3) := by decide +kernel
theorem dX0_small_69 : decode cX0_small 69 = .ok (.iload_n 0, 1) := by decide +kernel
theorem dX0_small_70 : decode cX0_small 70 = .ok (.sipush 1071, 3) := by decide +kernel
theorem dX0_small_73 : decode cX0_small 73 = .ok (.if_icmp .gt 7, 3) := by decide +kernel
theorem dX0_small_76 : decode cX0_small 76 = .ok (.iconst 1, 1) := by decide +kernel
theorem dX0_small_77 : decode cX0_small 77 = .ok (.goto 4, 3) := by decide +kernel
theorem dX0_small_80 : decode cX0_small 80 = .ok (.iconst 0, 1) := by decide +kernel
theorem dX0_small_81 : decode cX0_small 81 = .ok (.istore_n 2, 1) := by decide +kernel
theorem dX0_small_82 : decode cX0_small 82 = .ok (.iload_n 1, 1) := by decide +kernel
theorem dX0_small_83 : decode cX0_small 83 = .ok (.ifCond .ne 7, 3) := by decide +kernel
theorem dX0_small_86 : decode cX0_small 86 = .ok (.iload_n 2, 1) := by decide +kernel
theorem dX0_small_87 : decode cX0_small 87 = .ok (.ifCond .eq 8, 3) := by decide +kernel
theorem dX0_small_90 : decode cX0_small 90 = .ok (.iload_n 0, 1) := by decide +kernel
theorem dX0_small_91 : decode cX0_small 91 = .ok (.bipush 32, 2) := by decide +kernel
theorem dX0_small_93 : decode cX0_small 93 = .ok (.iadd, 1) := by decide +kernel
theorem dX0_small_94 : decode cX0_small 94 = .ok (.ireturn, 1) := by decide +kernel
theorem dX0_small_95 : decode cX0_small 95 = .ok (.iload_n 0, 1) := by decide +kernel
theorem dX0_small_96 : decode cX0_small 96 = .ok (.sipush 1024, 3) := by decide +kernel
theorem dX0_small_99 : decode cX0_small 99 = .ok (.if_icmp .lt 17, 3) := by decide +kernel
theorem dX0_small_102 : decode cX0_small 102 = .ok (.iload_n 0, 1) := by decide +kernel
theorem dX0_small_103 : decode cX0_small 103 = .ok (.sipush 1039, 3) := by decide +kernel
theorem dX0_small_106 : decode cX0_small 106 = .ok (.if_icmp .gt 10, 3) := by decide +kernel
theorem dX0_small_109 : decode cX0_small 109 = .ok (.iload_n 0, 1) := by decide +kernel
theorem dX0_small_110 : decode cX0_small 110 = .ok (.bipush 80, 2) := by decide +kernel
theorem dX0_small_112 : decode cX0_small 112 = .ok (.iadd, 1) := by decide +kernel
theorem dX0_small_113 : decode cX0_small 113 = .ok (.goto 4, 3) := by decide +kernel
theorem dX0_small_116 : decode cX0_small 116 = .ok (.iload_n 0, 1) := by decide +kernel
theorem dX0_small_117 : decode cX0_small 117 = .ok (.ireturn, 1) := by decide +kernel
theorem dX0_smallLatin_0 : decode cX0_smallLatin 0 = .ok (.iload_n 0, 1) := by decide +kernel
theorem dX0_smallLatin_1 : decode cX0_smallLatin 1 = .ok (.bipush 65, 2) := by decide +kernel
theorem dX0_smallLatin_3 : decode cX0_smallLatin 3 = .ok (.if_icmp .lt 9, 3) := by decide +kernel
theorem dX0_smallLatin_6 : decode cX0_smallLatin 6 = .ok (.iload_n 0, 1) := by decide +kernel
theorem dX0_smallLatin_7 : decode cX0_smallLatin 7 = .ok (.bipush 90, 2) := by decide +kernel
theorem dX0_smallLatin_9 : decode cX0_smallLatin 9 = .ok (.if_icmp .le 24, 3) := by decide +kernel
theorem dX0_smallLatin_12 : decode cX0_smallLatin 12 = .ok (.iload_n 0, 1) := by decide +kernel
theorem dX0_smallLatin_13 : decode cX0_smallLatin 13 = .ok (.sipush 192, 3) := by decide +kernel
theorem dX0_smallLatin_16 : decode cX0_smallLatin 16 = .ok (.if_icmp .lt 21, 3) := by decide +kernel
theorem dX0_smallLatin_19 : decode cX0_smallLatin 19 = .ok (.iload_n 0, 1) := by decide +kernel
theorem dX0_smallLatin_20 : decode cX0_smallLatin 20 = .ok (.sipush 222, 3) := by decide +kernel
theorem dX0_smallLatin_23 : decode cX0_smallLatin 23 = .ok (.if_icmp .gt 14, 3) := by decide +kernel
theorem dX0_smallLatin_26 : decode cX0_smallLatin 26 = .ok (.iload_n 0, 1) := by decide +kernel
theorem dX0_smallLatin_27 : decode cX0_smallLatin 27 = .ok (.sipush 215, 3) := by decide +kernel
theorem dX0_smallLatin_30 : decode cX0_smallLatin 30 = .ok (.if_icmp .eq 7, 3) := by decide +kernel
theorem dX0_smallLatin_33 : decode cX0_smallLatin 33 = .ok (.iconst 1, 1) := by decide +kernel
theorem dX0_smallLatin_34 : decode cX0_smallLatin 34 = .ok (.goto 4, 3) := by decide +kernel
theorem dX0_smallLatin_37 : decode cX0_smallLatin 37 = .ok (.iconst 0, 1) := by decide +kernel
theorem dX0_smallLatin_38 : decode cX0_smallLatin 38 = .ok (.istore_n 1, 1) := by decide +kernel
theorem dX0_smallLatin_39 : decode cX0_smallLatin 39 = .ok (.iload_n 1, 1) := by decide +kernel
theorem dX0_smallLatin_40 : decode cX0_smallLatin 40 = .ok (.ifCond .eq 8, 3) := by decide +kernel
theorem dX0_smallLatin_43 : decode cX0_smallLatin 43 = .ok (.iload_n 0, 1) := by decide +kernel
theorem dX0_smallLatin_44 : decode cX0_smallLatin 44 = .ok (.bipush 32, 2) := by decide +kernel
theorem dX0_smallLatin_46 : decode cX0_smallLatin 46 = .ok (.iadd, 1) := by decide +kernel
theorem dX0_smallLatin_47 : decode cX0_smallLatin 47 = .ok (.ireturn, 1) := by decide +kernel
theorem dX0_smallLatin_48 : decode cX0_smallLatin 48 = .ok (.iload_n 0, 1) := by decide +kernel
theorem dX0_smallLatin_49 : decode cX0_smallLatin 49 = .ok (.sipush 181, 3) := by decide +kernel
theorem dX0_smallLatin_52 : decode cX0_smallLatin 52 = .ok (.if_icmp .ne 9, 3) := by decide +kernel
theorem dX0_smallLatin_55 : decode cX0_smallLatin 55 = .ok (.sipush 956, 3) := by decide +kernel
theorem dX0_smallLatin_58 : decode cX0_smallLatin 58 = .ok (.goto 4, 3) := by decide +kernel
theorem dX0_smallLatin_61 : decode cX0_smallLatin 61 = .ok (.iload_n 0, 1) := by decide +kernel
theorem dX0_smallLatin_62 : decode cX0_smallLatin 62 = .ok (.ireturn, 1) := by decide +kernel
theorem dX0_smallLatinExtended_0 : decode cX0_smallLatinExtended 0 = .ok (.iload_n 0, 1) := by decide +kernel
theorem dX0_smallLatinExtended_1 : decode cX0_smallLatinExtended 1 = .ok (.sipush 376, 3) := by decide +kernel
theorem dX0_smallLatinExtended_4 : decode cX0_smallLatinExtended 4 = .ok (.if_icmp .ne 7, 3) := by decide +kernel
theorem dX0_smallLatinExtended_7 : decode cX0_smallLatinExtended 7 = .ok (.sipush 255, 3) := by decide +kernel
theorem dX0_smallLatinExtended_10 : decode cX0_smallLatinExtended 10 = .ok (.ireturn, 1) := by decide +kernel
theorem dX0_smallLatinExtended_11 : decode cX0_smallLatinExtended 11 = .ok (.iload_n 0, 1) := by decide +kernel
theorem dX0_smallLatinExtended_12 : decode cX0_smallLatinExtended 12 = .ok (.sipush 383, 3) := by decide +kernel
theorem dX0_smallLatinExtended_15 : decode cX0_smallLatinExtended 15 = .ok (.if_icmp .ne 6, 3) := by decide +kernel
theorem dX0_smallLatinExtended_18 : decode cX0_smallLatinExtended 18 = .ok (.bipush 115, 2) := by decide +kernel
theorem dX0_smallLatinExtended_20 : decode cX0_smallLatinExtended 20 = .ok (.ireturn, 1) := by decide +kernel
theorem dX0_smallLatinExtended_21 : decode cX0_smallLatinExtended 21 = .ok (.iload_n 0, 1) := by decide +kernel
theorem dX0_smallLatinExtended_22 : decode cX0_smallLatinExtended 22 = .ok (.iconst 2, 1) := by decide +kernel
theorem dX0_smallLatinExtended_23 : decode cX0_smallLatinExtended 23 = .ok (.irem, 1) := by decide +kernel
theorem dX0_smallLatinExtended_24 : decode cX0_smallLatinExtended 24 = .ok (.ifCond .ne 7, 3) := by decide +kernel
theorem dX0_smallLatinExtended_27 : decode cX0_smallLatinExtended 27 = .ok (.iconst 1, 1) := by decide +kernel
theorem dX0_smallLatinExtended_28 : decode cX0_smallLatinExtended 28 = .ok (.goto 4, 3) := by decide +kernel
theorem dX0_smallLatinExtended_31 : decode cX0_smallLatinExtended 31 = .ok (.iconst 0, 1) := by decide +kernel
theorem dX0_smallLatinExtended_32 : decode cX0_smallLatinExtended 32 = .ok (.istore_n 1, 1) := by decide +kernel
theorem dX0_smallLatinExtended_33 : decode cX0_smallLatinExtended 33 = .ok (.iload_n 1, 1) := by decide +kernel
theorem dX0_smallLatinExtended_34 : decode cX0_smallLatinExtended 34 = .ok (.ifCond .eq 32, 3) := by decide +kernel
theorem dX0_smallLatinExtended_37 : decode cX0_smallLatinExtended 37 = .ok (.iload_n 0, 1) := by decide +kernel
theorem dX0_smallLatinExtended_38 : decode cX0_smallLatinExtended 38 = .ok (.sipush 303, 3) := by decide +kernel
theorem dX0_smallLatinExtended_41 : decode cX0_smallLatinExtended 41 = .ok (.if_icmp .le 17, 3) := by decide +kernel
theorem dX0_smallLatinExtended_44 : decode cX0_smallLatinExtended 44 = .ok (.iload_n 0, 1) := by decide +kernel
theorem dX0_smallLatinExtended_45 : decode cX0_smallLatinExtended 45 = .ok (.sipush 330, 3) := by decide +kernel
theorem dX0_smallLatinExtended_48 : decode cX0_smallLatinExtended 48 = .ok (.if_icmp .lt 14, 3) := by decide +kernel
theorem dX0_smallLatinExtended_51 : decode cX0_smallLatinExtended 51 = .ok (.iload_n 0, 1) := by decide +kernel
theorem dX0_smallLatinExtended_52 : decode cX0_smallLatinExtended 52 = .ok (.sipush 375, 3) := by decide +kernel
theorem dX0_smallLatinExtended_55 : decode cX0_smallLatinExtended 55 = .ok (.if_icmp .gt 7, 3) := by decide +kernel
theorem dX0_smallLatinExtended_58 : decode cX0_smallLatinExtended 58 = .ok (.iconst 1, 1) := by decide +kernel
theorem dX0_smallLatinExtended_59 : decode cX0_smallLatinExtended 59 = .ok (.goto 40, 3) := by decide +kernel
theorem dX0_smallLatinExtended_62 : decode cX0_smallLatinExtended 62 = .ok (.iconst 0, 1) := by decide +kernel
theorem dX0_smallLatinExtended_63 : decode cX0_smallLatinExtended 63 = .ok (.goto 36, 3) := by decide +kernel
theorem dX0_smallLatinExtended_66 : decode cX0_smallLatinExtended 66 = .ok (.iload_n 0, 1) := by decide +kernel
theorem dX0_smallLatinExtended_67 : decode cX0_smallLatinExtended 67 = .ok (.sipush 313, 3) := by decide +kernel
theorem dX0_smallLatinExtended_70 : decode cX0_smallLatinExtended 70 = .ok (.if_icmp .lt 10, 3) := by decide +kernel
theorem dX0_smallLatinExtended_73 : decode cX0_smallLatinExtended 73 = .ok (.iload_n 0, 1) := by decide +kernel
theorem dX0_smallLatinExtended_74 : decode cX0_smallLatinExtended 74 = .ok (.sipush 328, 3) := by decide +kernel
theorem dX0_smallLatinExtended_77 : decode cX0_smallLatinExtended 77 = .ok (.if_icmp .le 17, 3) := by decide +kernel
theorem dX0_smallLatinExtended_80 : decode cX0_smallLatinExtended 80 = .ok (.iload_n 0, 1) := by decide +kernel
theorem dX0_smallLatinExtended_81 : decode cX0_smallLatinExtended 81 = .ok (.sipush 377, 3) := by decide +kernel
theorem dX0_smallLatinExtended_84 : decode cX0_smallLatinExtended 84 = .ok (.if_icmp .lt 14, 3) := by decide +kernel
theorem dX0_smallLatinExtended_87 : decode cX0_smallLatinExtended 87 = .ok (.iload_n 0, 1) := by decide +kernel
theorem dX0_smallLatinExtended_88 : decode cX0_smallLatinExtended 88 = .ok (.sipush 382, 3) := by decide +kernel
theorem dX0_smallLatinExtended_91 : decode cX0_smallLatinExtended 91 = .ok (.if_icmp .gt 7, 3) := by decide +kernel
theorem dX0_smallLatinExtended_94 : decode cX0_smallLatinExtended 94 = .ok (.iconst 1, 1) := by decide +kernel
theorem dX0_smallLatinExtended_95 : decode cX0_smallLatinExtended 95 = .ok (.goto 4, 3) := by decide +kernel
theorem dX0_smallLatinExtended_98 : decode cX0_smallLatinExtended 98 = .ok (.iconst 0, 1) := by decide +kernel
theorem dX0_smallLatinExtended_99 : decode cX0_smallLatinExtended 99 = .ok (.istore_n 2, 1) := by decide +kernel
theorem dX0_smallLatinExtended_100 : decode cX0_smallLatinExtended 100 = .ok (.iload_n 2, 1) := by decide +kernel
theorem dX0_smallLatinExtended_101 : decode cX0_smallLatinExtended 101 = .ok (.ifCond .eq 9, 3) := by decide +kernel
theorem dX0_smallLatinExtended_104 : decode cX0_smallLatinExtended 104 = .ok (.iload_n 0, 1) := by decide +kernel
theorem dX0_smallLatinExtended_105 : decode cX0_smallLatinExtended 105 = .ok (.iconst 1, 1) := by decide +kernel
theorem dX0_smallLatinExtended_106 : decode cX0_smallLatinExtended 106 = .ok (.iadd, 1) := by decide +kernel
theorem dX0_smallLatinExtended_107 : decode cX0_smallLatinExtended 107 = .ok (.goto 4, 3) := by decide +kernel
theorem dX0_smallLatinExtended_110 : decode cX0_smallLatinExtended 110 = .ok (.iload_n 0, 1) := by decide +kernel
theorem dX0_smallLatinExtended_111 : decode cX0_smallLatinExtended 111 = .ok (.ireturn, 1) := by decide +kernel
theorem dX1_init_0 : decode cX1_init 0 = .ok (.aload_n 0, 1) := by decide +kernel
theorem dX1_init_1 : decode cX1_init 1 = .ok (.invokespecial 3, 3) := by decide +kernel
theorem dX1_init_4 : decode cX1_init 4 = .ok (.aload_n 0, 1) := by decide +kernel
theorem dX1_init_5 : decode cX1_init 5 = .ok (.new 9, 3) := by decide +kernel
theorem dX1_init_8 : decode cX1_init 8 = .ok (.dup, 1) := by decide +kernel
theorem dX1_init_9 : decode cX1_init 9 = .ok (.bipush 60, 2) := by decide +kernel
theorem dX1_init_11 : decode cX1_init 11 = .ok (.invokespecial 11, 3) := by decide +kernel
theorem dX1_init_14 : decode cX1_init 14 = .ok (.putfield 14, 3) := by decide +kernel
theorem dX1_init_17 : decode cX1_init 17 = .ok (.aload_n 0, 1) := by decide +kernel
theorem dX1_init_18 : decode cX1_init 18 = .ok (.new 9, 3) := by decide +kernel
theorem dX1_init_21 : decode cX1_init 21 = .ok (.dup, 1) := by decide +kernel
theorem dX1_init_22 : decode cX1_init 22 = .ok (.bipush 60, 2) := by decide +kernel
theorem dX1_init_24 : decode cX1_init 24 = .ok (.invokespecial 11, 3) := by decide +kernel
theorem dX1_init_27 : decode cX1_init 27 = .ok (.putfield 20, 3) := by decide +kernel
theorem dX1_init_30 : decode cX1_init 30 = .ok (.aload_n 0, 1) := by decide +kernel
theorem dX1_init_31 : decode cX1_init 31 = .ok (.new 9, 3) := by decide +kernel
theorem dX1_init_34 : decode cX1_init 34 = .ok (.dup, 1) := by decide +kernel
theorem dX1_init_35 : decode cX1_init 35 = .ok (.bipush 40, 2) := by decide +kernel
theorem dX1_init_37 : decode cX1_init 37 = .ok (.invokespecial 11, 3) := by decide +kernel
theorem dX1_init_40 : decode cX1_init 40 = .ok (.putfield 23, 3) := by decide +kernel
theorem dX1_init_43 : decode cX1_init 43 = .ok (.aload_n 0, 1) := by decide +kernel
theorem dX1_init_44 : decode cX1_init 44 = .ok (.new 9, 3) := by decide +kernel
theorem dX1_init_47 : decode cX1_init 47 = .ok (.dup, 1) := by decide +kernel
theorem dX1_init_48 : decode cX1_init 48 = .ok (.bipush 40, 2) := by decide +kernel
theorem dX1_init_50 : decode cX1_init 50 = .ok (.invokespecial 11, 3) := by decide +kernel
theorem dX1_init_53 : decode cX1_init 53 = .ok (.putfield 26, 3) := by decide +kernel
theorem dX1_init_56 : decode cX1_init 56 = .ok (.return_, 1) := by decide +kernel
theorem dX1_begin_0 : decode cX1_begin 0 = .ok (.aload_n 0, 1) := by decide +kernel
theorem dX1_begin_1 : decode cX1_begin 1 = .ok (.getfield 14, 3) := by decide +kernel
theorem dX1_begin_4 : decode cX1_begin 4 = .ok (.invokevirtual 29, 3) := by decide +kernel
theorem dX1_begin_7 : decode cX1_begin 7 = .ok (.aload_n 0, 1) := by decide +kernel
theorem dX1_begin_8 : decode cX1_begin 8 = .ok (.getfield 20, 3) := by decide +kernel
theorem dX1_begin_11 : decode cX1_begin 11 = .ok (.invokevirtual 29, 3) := by decide +kernel
theorem dX1_begin_14 : decode cX1_begin 14 = .ok (.aload_n 0, 1) := by decide +kernel
theorem dX1_begin_15 : decode cX1_begin 15 = .ok (.getfield 23, 3) := by decide +kernel
theorem dX1_begin_18 : decode cX1_begin 18 = .ok (.invokevirtual 29, 3) := by decide +kernel
theorem dX1_begin_21 : decode cX1_begin 21 = .ok (.aload_n 0, 1) := by decide +kernel
theorem dX1_begin_22 : decode cX1_begin 22 = .ok (.getfield 26, 3) := by decide +kernel
theorem dX1_begin_25 : decode cX1_begin 25 = .ok (.invokevirtual 29, 3) := by decide +kernel
theorem dX1_begin_28 : decode cX1_begin 28 = .ok (.aload_n 0, 1) := by decide +kernel
theorem dX1_begin_29 : decode cX1_begin 29 = .ok (.iconst 1, 1) := by decide +kernel
theorem dX1_begin_30 : decode cX1_begin 30 = .ok (.putfield 32, 3) := by decide +kernel
theorem dX1_begin_33 : decode cX1_begin 33 = .ok (.aload_n 0, 1) := by decide +kernel
theorem dX1_begin_34 : decode cX1_begin 34 = .ok (.iload_n 1, 1) := by decide +kernel
theorem dX1_begin_35 : decode cX1_begin 35 = .ok (.putfield 36, 3) := by decide +kernel
theorem dX1_begin_38 : decode cX1_begin 38 = .ok (.aload_n 0, 1) := by decide +kernel
theorem dX1_begin_39 : decode cX1_begin 39 = .ok (.iconst (-1), 1) := by decide +kernel
theorem dX1_begin_40 : decode cX1_begin 40 = .ok (.putfield 39, 3) := by decide +kernel
theorem dX1_begin_43 : decode cX1_begin 43 = .ok (.return_, 1) := by decide +kernel
theorem dX1_takeName_0 : decode cX1_takeName 0 = .ok (.aload_n 0, 1) := by decide +kernel
theorem dX1_takeName_1 : decode cX1_takeName 1 = .ok (.getfield 14, 3) := by decide +kernel
theorem dX1_takeName_4 : decode cX1_takeName 4 = .ok (.aload_n 1, 1) := by decide +kernel
theorem dX1_takeName_5 : decode cX1_takeName 5 = .ok (.invokevirtual 43, 3) := by decide +kernel
theorem dX1_takeName_8 : decode cX1_takeName 8 = .ok (.aload_n 0, 1) := by decide +kernel
theorem dX1_takeName_9 : decode cX1_takeName 9 = .ok (.getfield 20, 3) := by decide +kernel
theorem dX1_takeName_12 : decode cX1_takeName 12 = .ok (.aload_n 2, 1) := by decide +kernel
theorem dX1_takeName_13 : decode cX1_takeName 13 = .ok (.invokevirtual 43, 3) := by decide +kernel
theorem dX1_takeName_16 : decode cX1_takeName 16 = .ok (.return_, 1) := by decide +kernel
theorem dX2_init_0 : decode cX2_init 0 = .ok (.aload_n 0, 1) := by decide +kernel
theorem dX2_init_1 : decode cX2_init 1 = .ok (.invokespecial 3, 3) := by decide +kernel
theorem dX2_init_4 : decode cX2_init 4 = .ok (.aload_n 0, 1) := by decide +kernel
theorem dX2_init_5 : decode cX2_init 5 = .ok (.iload_n 1, 1) := by decide +kernel
theorem dX2_init_6 : decode cX2_init 6 = .ok (.iconst 0, 1) := by decide +kernel
theorem dX2_init_7 : decode cX2_init 7 = .ok (.invokestatic 9, 3) := by decide +kernel
theorem dX2_init_10 : decode cX2_init 10 = .ok (.newarray .int, 2) := by decide +kernel
theorem dX2_init_12 : decode cX2_init 12 = .ok (.putfield 15, 3) := by decide +kernel
theorem dX2_init_15 : decode cX2_init 15 = .ok (.aload_n 0, 1) := by decide +kernel
theorem dX2_init_16 : decode cX2_init 16 = .ok (.iconst 0, 1) := by decide +kernel
theorem dX2_init_17 : decode cX2_init 17 = .ok (.putfield 21, 3) := by decide +kernel
theorem dX2_init_20 : decode cX2_init 20 = .ok (.return_, 1) := by decide +kernel
theorem dX2_size_0 : decode cX2_size 0 = .ok (.aload_n 0, 1) := by decide +kernel
theorem dX2_size_1 : decode cX2_size 1 = .ok (.getfield 21, 3) := by decide +kernel
theorem dX2_size_4 : decode cX2_size 4 = .ok (.ireturn, 1) := by decide +kernel
theorem dX2_at_0 : decode cX2_at 0 = .ok (.iload_n 1, 1) := by decide +kernel
theorem dX2_at_1 : decode cX2_at 1 = .ok (.ifCond .lt 11, 3) := by decide +kernel
theorem dX2_at_4 : decode cX2_at 4 = .ok (.iload_n 1, 1) := by decide +kernel
theorem dX2_at_5 : decode cX2_at 5 = .ok (.aload_n 0, 1) := by decide +kernel
theorem dX2_at_6 : decode cX2_at 6 = .ok (.getfield 21, 3) := by decide +kernel
theorem dX2_at_9 : decode cX2_at 9 = .ok (.if_icmp .lt 7, 3) := by decide +kernel
theorem dX2_at_12 : decode cX2_at 12 = .ok (.iconst (-1), 1) := by decide +kernel
theorem dX2_at_13 : decode cX2_at 13 = .ok (.goto 9, 3) := by decide +kernel
theorem dX2_at_16 : decode cX2_at 16 = .ok (.aload_n 0, 1) := by decide +kernel
theorem dX2_at_17 : decode cX2_at 17 = .ok (.getfield 15, 3) := by decide +kernel
theorem dX2_at_20 : decode cX2_at 20 = .ok (.iload_n 1, 1) := by decide +kernel
theorem dX2_at_21 : decode cX2_at 21 = .ok (.iaload, 1) := by decide +kernel
theorem dX2_at_22 : decode cX2_at 22 = .ok (.ireturn, 1) := by decide +kernel
theorem dX2_clear_0 : decode cX2_clear 0 = .ok (.aload_n 0, 1) := by decide +kernel
theorem dX2_clear_1 : decode cX2_clear 1 = .ok (.iconst 0, 1) := by decide +kernel
theorem dX2_clear_2 : decode cX2_clear 2 = .ok (.putfield 21, 3) := by decide +kernel
theorem dX2_clear_5 : decode cX2_clear 5 = .ok (.return_, 1) := by decide +kernel
theorem dX2_add_0 : decode cX2_add 0 = .ok (.aload_n 0, 1) := by decide +kernel
theorem dX2_add_1 : decode cX2_add 1 = .ok (.aload_n 0, 1) := by decide +kernel
theorem dX2_add_2 : decode cX2_add 2 = .ok (.getfield 21, 3) := by decide +kernel
theorem dX2_add_5 : decode cX2_add 5 = .ok (.iload_n 1, 1) := by decide +kernel
theorem dX2_add_6 : decode cX2_add 6 = .ok (.invokevirtual 25, 3) := by decide +kernel
theorem dX2_add_9 : decode cX2_add 9 = .ok (.return_, 1) := by decide +kernel
theorem dX2_insert_0 : decode cX2_insert 0 = .ok (.iload_n 1, 1) := by decide +kernel
theorem dX2_insert_1 : decode cX2_insert 1 = .ok (.ifCond .lt 23, 3) := by decide +kernel
theorem dX2_insert_4 : decode cX2_insert 4 = .ok (.iload_n 1, 1) := by decide +kernel
theorem dX2_insert_5 : decode cX2_insert 5 = .ok (.aload_n 0, 1) := by decide +kernel
theorem dX2_insert_6 : decode cX2_insert 6 = .ok (.getfield 21, 3) := by decide +kernel
theorem dX2_insert_9 : decode cX2_insert 9 = .ok (.if_icmp .gt 15, 3) := by decide +kernel
theorem dX2_insert_12 : decode cX2_insert 12 = .ok (.aload_n 0, 1) := by decide +kernel
theorem dX2_insert_13 : decode cX2_insert 13 = .ok (.getfield 21, 3) := by decide +kernel
theorem dX2_insert_16 : decode cX2_insert 16 = .ok (.aload_n 0, 1) := by decide +kernel
theorem dX2_insert_17 : decode cX2_insert 17 = .ok (.getfield 15, 3) := by decide +kernel
theorem dX2_insert_20 : decode cX2_insert 20 = .ok (.arraylength, 1) := by decide +kernel
theorem dX2_insert_21 : decode cX2_insert 21 = .ok (.if_icmp .lt 4, 3) := by decide +kernel
theorem dX2_insert_24 : decode cX2_insert 24 = .ok (.return_, 1) := by decide +kernel
theorem dX2_insert_25 : decode cX2_insert 25 = .ok (.aload_n 0, 1) := by decide +kernel
theorem dX2_insert_26 : decode cX2_insert 26 = .ok (.getfield 21, 3) := by decide +kernel
theorem dX2_insert_29 : decode cX2_insert 29 = .ok (.istore_n 3, 1) := by decide +kernel
theorem dX2_insert_30 : decode cX2_insert 30 = .ok (.iload_n 3, 1) := by decide +kernel
theorem dX2_insert_31 : decode cX2_insert 31 = .ok (.iload_n 1, 1) := by decide +kernel
theorem dX2_insert_32 : decode cX2_insert 32 = .ok (.if_icmp .le 23, 3) := by decide +kernel
theorem dX2_insert_35 : decode cX2_insert 35 = .ok (.aload_n 0, 1) := by decide +kernel
theorem dX2_insert_36 : decode cX2_insert 36 = .ok (.getfield 15, 3) := by decide +kernel
theorem dX2_insert_39 : decode cX2_insert 39 = .ok (.iload_n 3, 1) := by decide +kernel
theorem dX2_insert_40 : decode cX2_insert 40 = .ok (.aload_n 0, 1) := by decide +kernel
theorem dX2_insert_41 : decode cX2_insert 41 = .ok (.getfield 15, 3) := by decide +kernel
theorem dX2_insert_44 : decode cX2_insert 44 = .ok (.iload_n 3, 1) := by decide +kernel
theorem dX2_insert_45 : decode cX2_insert 45 = .ok (.iconst 1, 1) := by decide +kernel
theorem dX2_insert_46 : decode cX2_insert 46 = .ok (.isub, 1) := by decide +kernel
theorem dX2_insert_47 : decode cX2_insert 47 = .ok (.iaload, 1) := by decide +kernel
theorem dX2_insert_48 : decode cX2_insert 48 = .ok (.iastore, 1) := by decide +kernel
theorem dX2_insert_49 : decode cX2_insert 49 = .ok (.iinc 3 (-1), 3) := by decide +kernel
theorem dX2_insert_52 : decode cX2_insert 52 = .ok (.goto (-22), 3) := by decide +kernel
theorem dX2_insert_55 : decode cX2_insert 55 = .ok (.aload_n 0, 1) := by decide +kernel
theorem dX2_insert_56 : decode cX2_insert 56 = .ok (.getfield 15, 3) := by decide +kernel
theorem dX2_insert_59 : decode cX2_insert 59 = .ok (.iload_n 1, 1) := by decide +kernel
theorem dX2_insert_60 : decode cX2_insert 60 = .ok (.iload_n 2, 1) := by decide +kernel
theorem dX2_insert_61 : decode cX2_insert 61 = .ok (.iastore, 1) := by decide +kernel
theorem dX2_insert_62 : decode cX2_insert 62 = .ok (.aload_n 0, 1) := by decide +kernel
theorem dX2_insert_63 : decode cX2_insert 63 = .ok (.dup, 1) := by decide +kernel
theorem dX2_insert_64 : decode cX2_insert 64 = .ok (.getfield 21, 3) := by decide +kernel
theorem dX2_insert_67 : decode cX2_insert 67 = .ok (.iconst 1, 1) := by decide +kernel
theorem dX2_insert_68 : decode cX2_insert 68 = .ok (.iadd, 1) := by decide +kernel
theorem dX2_insert_69 : decode cX2_insert 69 = .ok (.putfield 21, 3) := by decide +kernel
theorem dX2_insert_72 : decode cX2_insert 72 = .ok (.return_, 1) := by decide +kernel
theorem dX2_takeOut_0 : decode cX2_takeOut 0 = .ok (.iconst 0, 1) := by decide +kernel
theorem dX2_takeOut_1 : decode cX2_takeOut 1 = .ok (.istore_n 2, 1) := by decide +kernel
theorem dX2_takeOut_2 : decode cX2_takeOut 2 = .ok (.iconst 0, 1) := by decide +kernel
theorem dX2_takeOut_3 : decode cX2_takeOut 3 = .ok (.istore_n 3, 1) := by decide +kernel
theorem dX2_takeOut_4 : decode cX2_takeOut 4 = .ok (.iload_n 3, 1) := by decide +kernel
theorem dX2_takeOut_5 : decode cX2_takeOut 5 = .ok (.aload_n 0, 1) := by decide +kernel
theorem dX2_takeOut_6 : decode cX2_takeOut 6 = .ok (.getfield 21, 3) := by decide +kernel
theorem dX2_takeOut_9 : decode cX2_takeOut 9 = .ok (.if_icmp .ge 34, 3) := by decide +kernel
theorem dX2_takeOut_12 : decode cX2_takeOut 12 = .ok (.aload_n 0, 1) := by decide +kernel
theorem dX2_takeOut_13 : decode cX2_takeOut 13 = .ok (.getfield 15, 3) := by decide +kernel
theorem dX2_takeOut_16 : decode cX2_takeOut 16 = .ok (.iload_n 3, 1) := by decide +kernel
theorem dX2_takeOut_17 : decode cX2_takeOut 17 = .ok (.iaload, 1) := by decide +kernel
theorem dX2_takeOut_18 : decode cX2_takeOut 18 = .ok (.iload_n 1, 1) := by decide +kernel
theorem dX2_takeOut_19 : decode cX2_takeOut 19 = .ok (.if_icmp .eq 18, 3) := by decide +kernel
theorem dX2_takeOut_22 : decode cX2_takeOut 22 = .ok (.aload_n 0, 1) := by decide +kernel
theorem dX2_takeOut_23 : decode cX2_takeOut 23 = .ok (.getfield 15, 3) := by decide +kernel
theorem dX2_takeOut_26 : decode cX2_takeOut 26 = .ok (.iload_n 2, 1) := by decide +kernel
theorem dX2_takeOut_27 : decode cX2_takeOut 27 = .ok (.aload_n 0, 1) := by decide +kernel
theorem dX2_takeOut_28 : decode cX2_takeOut 28 = .ok (.getfield 15, 3) := by decide +kernel
theorem dX2_takeOut_31 : decode cX2_takeOut 31 = .ok (.iload_n 3, 1) := by decide +kernel
theorem dX2_takeOut_32 : decode cX2_takeOut 32 = .ok (.iaload, 1) := by decide +kernel
theorem dX2_takeOut_33 : decode cX2_takeOut 33 = .ok (.iastore, 1) := by decide +kernel
theorem dX2_takeOut_34 : decode cX2_takeOut 34 = .ok (.iinc 2 1, 3) := by decide +kernel
theorem dX2_takeOut_37 : decode cX2_takeOut 37 = .ok (.iinc 3 1, 3) := by decide +kernel
theorem dX2_takeOut_40 : decode cX2_takeOut 40 = .ok (.goto (-36), 3) := by decide +kernel
theorem dX2_takeOut_43 : decode cX2_takeOut 43 = .ok (.aload_n 0, 1) := by decide +kernel
theorem dX2_takeOut_44 : decode cX2_takeOut 44 = .ok (.iload_n 2, 1) := by decide +kernel
theorem dX2_takeOut_45 : decode cX2_takeOut 45 = .ok (.putfield 21, 3) := by decide +kernel
theorem dX2_takeOut_48 : decode cX2_takeOut 48 = .ok (.return_, 1) := by decide +kernel
theorem dX2_copyFrom_0 : decode cX2_copyFrom 0 = .ok (.aload_n 0, 1) := by decide +kernel
theorem dX2_copyFrom_1 : decode cX2_copyFrom 1 = .ok (.aload_n 1, 1) := by decide +kernel
theorem dX2_copyFrom_2 : decode cX2_copyFrom 2 = .ok (.getfield 21, 3) := by decide +kernel
theorem dX2_copyFrom_5 : decode cX2_copyFrom 5 = .ok (.aload_n 0, 1) := by decide +kernel
theorem dX2_copyFrom_6 : decode cX2_copyFrom 6 = .ok (.getfield 15, 3) := by decide +kernel
theorem dX2_copyFrom_9 : decode cX2_copyFrom 9 = .ok (.arraylength, 1) := by decide +kernel
theorem dX2_copyFrom_10 : decode cX2_copyFrom 10 = .ok (.invokestatic 29, 3) := by decide +kernel
theorem dX2_copyFrom_13 : decode cX2_copyFrom 13 = .ok (.putfield 21, 3) := by decide +kernel
theorem dX2_copyFrom_16 : decode cX2_copyFrom 16 = .ok (.iconst 0, 1) := by decide +kernel
theorem dX2_copyFrom_17 : decode cX2_copyFrom 17 = .ok (.istore_n 2, 1) := by decide +kernel
theorem dX2_copyFrom_18 : decode cX2_copyFrom 18 = .ok (.iload_n 2, 1) := by decide +kernel
theorem dX2_copyFrom_19 : decode cX2_copyFrom 19 = .ok (.aload_n 0, 1) := by decide +kernel
theorem dX2_copyFrom_20 : decode cX2_copyFrom 20 = .ok (.getfield 21, 3) := by decide +kernel
theorem dX2_copyFrom_23 : decode cX2_copyFrom 23 = .ok (.if_icmp .ge 21, 3) := by decide +kernel
theorem dX2_copyFrom_26 : decode cX2_copyFrom 26 = .ok (.aload_n 0, 1) := by decide +kernel
theorem dX2_copyFrom_27 : decode cX2_copyFrom 27 = .ok (.getfield 15, 3) := by decide +kernel
theorem dX2_copyFrom_30 : decode cX2_copyFrom 30 = .ok (.iload_n 2, 1) := by decide +kernel
theorem dX2_copyFrom_31 : decode cX2_copyFrom 31 = .ok (.aload_n 1, 1) := by decide +kernel
theorem dX2_copyFrom_32 : decode cX2_copyFrom 32 = .ok (.getfield 15, 3) := by decide +kernel
theorem dX2_copyFrom_35 : decode cX2_copyFrom 35 = .ok (.iload_n 2, 1) := by decide +kernel
theorem dX2_copyFrom_36 : decode cX2_copyFrom 36 = .ok (.iaload, 1) := by decide +kernel
theorem dX2_copyFrom_37 : decode cX2_copyFrom 37 = .ok (.iastore, 1) := by decide +kernel
theorem dX2_copyFrom_38 : decode cX2_copyFrom 38 = .ok (.iinc 2 1, 3) := by decide +kernel
theorem dX2_copyFrom_41 : decode cX2_copyFrom 41 = .ok (.goto (-23), 3) := by decide +kernel
theorem dX2_copyFrom_44 : decode cX2_copyFrom 44 = .ok (.return_, 1) := by decide +kernel
theorem dX2_compareWith_0 : decode cX2_compareWith 0 = .ok (.aload_n 0, 1) := by decide +kernel
theorem dX2_compareWith_1 : decode cX2_compareWith 1 = .ok (.getfield 21, 3) := by decide +kernel
theorem dX2_compareWith_4 : decode cX2_compareWith 4 = .ok (.aload_n 1, 1) := by decide +kernel
theorem dX2_compareWith_5 : decode cX2_compareWith 5 = .ok (.getfield 21, 3) := by decide +kernel
theorem dX2_compareWith_8 : decode cX2_compareWith 8 = .ok (.invokestatic 29, 3) := by decide +kernel
theorem dX2_compareWith_11 : decode cX2_compareWith 11 = .ok (.istore_n 2, 1) := by decide +kernel
theorem dX2_compareWith_12 : decode cX2_compareWith 12 = .ok (.iconst 0, 1) := by decide +kernel
theorem dX2_compareWith_13 : decode cX2_compareWith 13 = .ok (.istore_n 3, 1) := by decide +kernel
theorem dX2_compareWith_14 : decode cX2_compareWith 14 = .ok (.iload_n 3, 1) := by decide +kernel
theorem dX2_compareWith_15 : decode cX2_compareWith 15 = .ok (.iload_n 2, 1) := by decide +kernel
theorem dX2_compareWith_16 : decode cX2_compareWith 16 = .ok (.if_icmp .ge 40, 3) := by decide +kernel
theorem dX2_compareWith_19 : decode cX2_compareWith 19 = .ok (.aload_n 0, 1) := by decide +kernel
theorem dX2_compareWith_20 : decode cX2_compareWith 20 = .ok (.getfield 15, 3) := by decide +kernel
theorem dX2_compareWith_23 : decode cX2_compareWith 23 = .ok (.iload_n 3, 1) := by decide +kernel
theorem dX2_compareWith_24 : decode cX2_compareWith 24 = .ok (.iaload, 1) := by decide +kernel
theorem dX2_compareWith_25 : decode cX2_compareWith 25 = .ok (.aload_n 1, 1) := by decide +kernel
theorem dX2_compareWith_26 : decode cX2_compareWith 26 = .ok (.getfield 15, 3) := by decide +kernel
theorem dX2_compareWith_29 : decode cX2_compareWith 29 = .ok (.iload_n 3, 1) := by decide +kernel
theorem dX2_compareWith_30 : decode cX2_compareWith 30 = .ok (.iaload, 1) := by decide +kernel
theorem dX2_compareWith_31 : decode cX2_compareWith 31 = .ok (.if_icmp .eq 19, 3) := by decide +kernel
theorem dX2_compareWith_34 : decode cX2_compareWith 34 = .ok (.aload_n 0, 1) := by decide +kernel
theorem dX2_compareWith_35 : decode cX2_compareWith 35 = .ok (.getfield 15, 3) := by decide +kernel
theorem dX2_compareWith_38 : decode cX2_compareWith 38 = .ok (.iload_n 3, 1) := by decide +kernel
theorem dX2_compareWith_39 : decode cX2_compareWith 39 = .ok (.iaload, 1) := by decide +kernel
theorem dX2_compareWith_40 : decode cX2_compareWith 40 = .ok (.aload_n 1, 1) := by decide +kernel
theorem dX2_compareWith_41 : decode cX2_compareWith 41 = .ok (.getfield 15, 3) := by decide +kernel
theorem dX2_compareWith_44 : decode cX2_compareWith 44 = .ok (.iload_n 3, 1) := by decide +kernel
theorem dX2_compareWith_45 : decode cX2_compareWith 45 = .ok (.iaload, 1) := by decide +kernel
theorem dX2_compareWith_46 : decode cX2_compareWith 46 = .ok (.invokestatic 32, 3) := by decide +kernel
theorem dX2_compareWith_49 : decode cX2_compareWith 49 = .ok (.ireturn, 1) := by decide +kernel
theorem dX2_compareWith_50 : decode cX2_compareWith 50 = .ok (.iinc 3 1, 3) := by decide +kernel
theorem dX2_compareWith_53 : decode cX2_compareWith 53 = .ok (.goto (-39), 3) := by decide +kernel
theorem dX2_compareWith_56 : decode cX2_compareWith 56 = .ok (.aload_n 0, 1) := by decide +kernel
theorem dX2_compareWith_57 : decode cX2_compareWith 57 = .ok (.getfield 21, 3) := by decide +kernel
theorem dX2_compareWith_60 : decode cX2_compareWith 60 = .ok (.aload_n 1, 1) := by decide +kernel
theorem dX2_compareWith_61 : decode cX2_compareWith 61 = .ok (.getfield 21, 3) := by decide +kernel
theorem dX2_compareWith_64 : decode cX2_compareWith 64 = .ok (.invokestatic 32, 3) := by decide +kernel
theorem dX2_compareWith_67 : decode cX2_compareWith 67 = .ok (.ireturn, 1) := by decide +kernel
theorem dX3_wrongPlace_0 : decode cX3_wrongPlace 0 = .ok (.iload_n 1, 1) := by decide +kernel
theorem dX3_wrongPlace_1 : decode cX3_wrongPlace 1 = .ok (.istore_n 3, 1) := by decide +kernel
theorem dX3_wrongPlace_2 : decode cX3_wrongPlace 2 = .ok (.iload_n 1, 1) := by decide +kernel
theorem dX3_wrongPlace_3 : decode cX3_wrongPlace 3 = .ok (.istore 4, 2) := by decide +kernel
theorem dX3_wrongPlace_5 : decode cX3_wrongPlace 5 = .ok (.iload 4, 2) := by decide +kernel
theorem dX3_wrongPlace_7 : decode cX3_wrongPlace 7 = .ok (.iload_n 2, 1) := by decide +kernel
theorem dX3_wrongPlace_8 : decode cX3_wrongPlace 8 = .ok (.if_icmp .ge 41, 3) := by decide +kernel
theorem dX3_wrongPlace_11 : decode cX3_wrongPlace 11 = .ok (.iload 4, 2) := by decide +kernel
theorem dX3_wrongPlace_13 : decode cX3_wrongPlace 13 = .ok (.iload_n 3, 1) := by decide +kernel
theorem dX3_wrongPlace_14 : decode cX3_wrongPlace 14 = .ok (.if_icmp .ne 29, 3) := by decide +kernel
theorem dX3_wrongPlace_17 : decode cX3_wrongPlace 17 = .ok (.aload_n 0, 1) := by decide +kernel
theorem dX3_wrongPlace_18 : decode cX3_wrongPlace 18 = .ok (.iload 4, 2) := by decide +kernel
theorem dX3_wrongPlace_20 : decode cX3_wrongPlace 20 = .ok (.iload_n 2, 1) := by decide +kernel
theorem dX3_wrongPlace_21 : decode cX3_wrongPlace 21 = .ok (.invokestatic 9, 3) := by decide +kernel
theorem dX3_wrongPlace_24 : decode cX3_wrongPlace 24 = .ok (.istore 5, 2) := by decide +kernel
theorem dX3_wrongPlace_26 : decode cX3_wrongPlace 26 = .ok (.iload 5, 2) := by decide +kernel
theorem dX3_wrongPlace_28 : decode cX3_wrongPlace 28 = .ok (.iconst (-1), 1) := by decide +kernel
theorem dX3_wrongPlace_29 : decode cX3_wrongPlace 29 = .ok (.if_icmp .ne 6, 3) := by decide +kernel
theorem dX3_wrongPlace_32 : decode cX3_wrongPlace 32 = .ok (.iload 4, 2) := by decide +kernel
theorem dX3_wrongPlace_34 : decode cX3_wrongPlace 34 = .ok (.ireturn, 1) := by decide +kernel
theorem dX3_wrongPlace_35 : decode cX3_wrongPlace 35 = .ok (.iload_n 3, 1) := by decide +kernel
theorem dX3_wrongPlace_36 : decode cX3_wrongPlace 36 = .ok (.iload 5, 2) := by decide +kernel
theorem dX3_wrongPlace_38 : decode cX3_wrongPlace 38 = .ok (.invokestatic 15, 3) := by decide +kernel
theorem dX3_wrongPlace_41 : decode cX3_wrongPlace 41 = .ok (.iadd, 1) := by decide +kernel
theorem dX3_wrongPlace_42 : decode cX3_wrongPlace 42 = .ok (.istore_n 3, 1) := by decide +kernel
theorem dX3_wrongPlace_43 : decode cX3_wrongPlace 43 = .ok (.iinc 4 1, 3) := by decide +kernel
theorem dX3_wrongPlace_46 : decode cX3_wrongPlace 46 = .ok (.goto (-41), 3) := by decide +kernel
theorem dX3_wrongPlace_49 : decode cX3_wrongPlace 49 = .ok (.iconst (-1), 1) := by decide +kernel
theorem dX3_wrongPlace_50 : decode cX3_wrongPlace 50 = .ok (.ireturn, 1) := by decide +kernel
theorem dX3_pointAt_0 : decode cX3_pointAt 0 = .ok (.aload_n 0, 1) := by decide +kernel
theorem dX3_pointAt_1 : decode cX3_pointAt 1 = .ok (.iload_n 1, 1) := by decide +kernel
theorem dX3_pointAt_2 : decode cX3_pointAt 2 = .ok (.invokevirtual 19, 3) := by decide +kernel
theorem dX3_pointAt_5 : decode cX3_pointAt 5 = .ok (.istore_n 3, 1) := by decide +kernel
theorem dX3_pointAt_6 : decode cX3_pointAt 6 = .ok (.iload_n 3, 1) := by decide +kernel
theorem dX3_pointAt_7 : decode cX3_pointAt 7 = .ok (.invokestatic 24, 3) := by decide +kernel
theorem dX3_pointAt_10 : decode cX3_pointAt 10 = .ok (.istore 4, 2) := by decide +kernel
theorem dX3_pointAt_12 : decode cX3_pointAt 12 = .ok (.iload 4, 2) := by decide +kernel
theorem dX3_pointAt_14 : decode cX3_pointAt 14 = .ok (.ifCond .lt 11, 3) := by decide +kernel
theorem dX3_pointAt_17 : decode cX3_pointAt 17 = .ok (.iload_n 1, 1) := by decide +kernel
theorem dX3_pointAt_18 : decode cX3_pointAt 18 = .ok (.iload 4, 2) := by decide +kernel
theorem dX3_pointAt_20 : decode cX3_pointAt 20 = .ok (.iadd, 1) := by decide +kernel
theorem dX3_pointAt_21 : decode cX3_pointAt 21 = .ok (.iload_n 2, 1) := by decide +kernel
theorem dX3_pointAt_22 : decode cX3_pointAt 22 = .ok (.if_icmp .lt 5, 3) := by decide +kernel
theorem dX3_pointAt_25 : decode cX3_pointAt 25 = .ok (.iconst (-1), 1) := by decide +kernel
theorem dX3_pointAt_26 : decode cX3_pointAt 26 = .ok (.ireturn, 1) := by decide +kernel
theorem dX3_pointAt_27 : decode cX3_pointAt 27 = .ok (.iload 4, 2) := by decide +kernel
theorem dX3_pointAt_29 : decode cX3_pointAt 29 = .ok (.ifCond .ne 7, 3) := by decide +kernel
theorem dX3_pointAt_32 : decode cX3_pointAt 32 = .ok (.iload_n 3, 1) := by decide +kernel
theorem dX3_pointAt_33 : decode cX3_pointAt 33 = .ok (.goto 10, 3) := by decide +kernel
theorem dX3_pointAt_36 : decode cX3_pointAt 36 = .ok (.iload_n 3, 1) := by decide +kernel
theorem dX3_pointAt_37 : decode cX3_pointAt 37 = .ok (.bipush 63, 2) := by decide +kernel
theorem dX3_pointAt_39 : decode cX3_pointAt 39 = .ok (.iload 4, 2) := by decide +kernel
theorem dX3_pointAt_41 : decode cX3_pointAt 41 = .ok (.ishr, 1) := by decide +kernel
theorem dX3_pointAt_42 : decode cX3_pointAt 42 = .ok (.iand, 1) := by decide +kernel
theorem dX3_pointAt_43 : decode cX3_pointAt 43 = .ok (.istore 5, 2) := by decide +kernel
theorem dX3_pointAt_45 : decode cX3_pointAt 45 = .ok (.iconst 1, 1) := by decide +kernel
theorem dX3_pointAt_46 : decode cX3_pointAt 46 = .ok (.istore 6, 2) := by decide +kernel
theorem dX3_pointAt_48 : decode cX3_pointAt 48 = .ok (.iload 6, 2) := by decide +kernel
theorem dX3_pointAt_50 : decode cX3_pointAt 50 = .ok (.iload 4, 2) := by decide +kernel
theorem dX3_pointAt_52 : decode cX3_pointAt 52 = .ok (.if_icmp .gt 50, 3) := by decide +kernel
theorem dX3_pointAt_55 : decode cX3_pointAt 55 = .ok (.aload_n 0, 1) := by decide +kernel
theorem dX3_pointAt_56 : decode cX3_pointAt 56 = .ok (.iload_n 1, 1) := by decide +kernel
theorem dX3_pointAt_57 : decode cX3_pointAt 57 = .ok (.iload 6, 2) := by decide +kernel
theorem dX3_pointAt_59 : decode cX3_pointAt 59 = .ok (.iadd, 1) := by decide +kernel
theorem dX3_pointAt_60 : decode cX3_pointAt 60 = .ok (.invokevirtual 19, 3) := by decide +kernel
theorem dX3_pointAt_63 : decode cX3_pointAt 63 = .ok (.istore 7, 2) := by decide +kernel
theorem dX3_pointAt_65 : decode cX3_pointAt 65 = .ok (.iload 7, 2) := by decide +kernel
theorem dX3_pointAt_67 : decode cX3_pointAt 67 = .ok (.sipush 128, 3) := by decide +kernel
theorem dX3_pointAt_70 : decode cX3_pointAt 70 = .ok (.if_icmp .lt 11, 3) := by decide +kernel
theorem dX3_pointAt_73 : decode cX3_pointAt 73 = .ok (.iload 7, 2) := by decide +kernel
theorem dX3_pointAt_75 : decode cX3_pointAt 75 = .ok (.sipush 191, 3) := by decide +kernel
theorem dX3_pointAt_78 : decode cX3_pointAt 78 = .ok (.if_icmp .le 5, 3) := by decide +kernel
theorem dX3_pointAt_81 : decode cX3_pointAt 81 = .ok (.iconst (-1), 1) := by decide +kernel
theorem dX3_pointAt_82 : decode cX3_pointAt 82 = .ok (.ireturn, 1) := by decide +kernel
theorem dX3_pointAt_83 : decode cX3_pointAt 83 = .ok (.iload 5, 2) := by decide +kernel
theorem dX3_pointAt_85 : decode cX3_pointAt 85 = .ok (.bipush 6, 2) := by decide +kernel
theorem dX3_pointAt_87 : decode cX3_pointAt 87 = .ok (.ishl, 1) := by decide +kernel
theorem dX3_pointAt_88 : decode cX3_pointAt 88 = .ok (.iload 7, 2) := by decide +kernel
theorem dX3_pointAt_90 : decode cX3_pointAt 90 = .ok (.bipush 63, 2) := by decide +kernel
theorem dX3_pointAt_92 : decode cX3_pointAt 92 = .ok (.iand, 1) := by decide +kernel
theorem dX3_pointAt_93 : decode cX3_pointAt 93 = .ok (.ior, 1) := by decide +kernel
theorem dX3_pointAt_94 : decode cX3_pointAt 94 = .ok (.istore 5, 2) := by decide +kernel
theorem dX3_pointAt_96 : decode cX3_pointAt 96 = .ok (.iinc 6 1, 3) := by decide +kernel
theorem dX3_pointAt_99 : decode cX3_pointAt 99 = .ok (.goto (-51), 3) := by decide +kernel
theorem dX3_pointAt_102 : decode cX3_pointAt 102 = .ok (.iload 5, 2) := by decide +kernel
theorem dX3_pointAt_104 : decode cX3_pointAt 104 = .ok (.ldc 27, 2) := by decide +kernel
theorem dX3_pointAt_106 : decode cX3_pointAt 106 = .ok (.if_icmp .lt 14, 3) := by decide +kernel
theorem dX3_pointAt_109 : decode cX3_pointAt 109 = .ok (.iload 5, 2) := by decide +kernel
theorem dX3_pointAt_111 : decode cX3_pointAt 111 = .ok (.ldc 28, 2) := by decide +kernel
theorem dX3_pointAt_113 : decode cX3_pointAt 113 = .ok (.if_icmp .gt 7, 3) := by decide +kernel
theorem dX3_pointAt_116 : decode cX3_pointAt 116 = .ok (.iconst 1, 1) := by decide +kernel
theorem dX3_pointAt_117 : decode cX3_pointAt 117 = .ok (.goto 4, 3) := by decide +kernel
theorem dX3_pointAt_120 : decode cX3_pointAt 120 = .ok (.iconst 0, 1) := by decide +kernel
theorem dX3_pointAt_121 : decode cX3_pointAt 121 = .ok (.istore 6, 2) := by decide +kernel
theorem dX3_pointAt_123 : decode cX3_pointAt 123 = .ok (.iload 6, 2) := by decide +kernel
theorem dX3_pointAt_125 : decode cX3_pointAt 125 = .ok (.ifCond .ne 22, 3) := by decide +kernel
theorem dX3_pointAt_128 : decode cX3_pointAt 128 = .ok (.iload 5, 2) := by decide +kernel
theorem dX3_pointAt_130 : decode cX3_pointAt 130 = .ok (.ldc 29, 2) := by decide +kernel
theorem dX3_pointAt_132 : decode cX3_pointAt 132 = .ok (.if_icmp .gt 15, 3) := by decide +kernel
theorem dX3_pointAt_135 : decode cX3_pointAt 135 = .ok (.iload 5, 2) := by decide +kernel
theorem dX3_pointAt_137 : decode cX3_pointAt 137 = .ok (.invokestatic 15, 3) := by decide +kernel
theorem dX3_pointAt_140 : decode cX3_pointAt 140 = .ok (.iload 4, 2) := by decide +kernel
theorem dX3_pointAt_142 : decode cX3_pointAt 142 = .ok (.iconst 1, 1) := by decide +kernel
theorem dX3_pointAt_143 : decode cX3_pointAt 143 = .ok (.iadd, 1) := by decide +kernel
theorem dX3_pointAt_144 : decode cX3_pointAt 144 = .ok (.if_icmp .eq 5, 3) := by decide +kernel
theorem dX3_pointAt_147 : decode cX3_pointAt 147 = .ok (.iconst (-1), 1) := by decide +kernel
theorem dX3_pointAt_148 : decode cX3_pointAt 148 = .ok (.ireturn, 1) := by decide +kernel
theorem dX3_pointAt_149 : decode cX3_pointAt 149 = .ok (.iload 5, 2) := by decide +kernel
theorem dX3_pointAt_151 : decode cX3_pointAt 151 = .ok (.ireturn, 1) := by decide +kernel
theorem dX3_octetsOf_0 : decode cX3_octetsOf 0 = .ok (.iload_n 0, 1) := by decide +kernel
theorem dX3_octetsOf_1 : decode cX3_octetsOf 1 = .ok (.sipush 128, 3) := by decide +kernel
theorem dX3_octetsOf_4 : decode cX3_octetsOf 4 = .ok (.if_icmp .ge 5, 3) := by decide +kernel
theorem dX3_octetsOf_7 : decode cX3_octetsOf 7 = .ok (.iconst 1, 1) := by decide +kernel
theorem dX3_octetsOf_8 : decode cX3_octetsOf 8 = .ok (.ireturn, 1) := by decide +kernel
theorem dX3_octetsOf_9 : decode cX3_octetsOf 9 = .ok (.iload_n 0, 1) := by decide +kernel
theorem dX3_octetsOf_10 : decode cX3_octetsOf 10 = .ok (.sipush 2048, 3) := by decide +kernel
theorem dX3_octetsOf_13 : decode cX3_octetsOf 13 = .ok (.if_icmp .ge 5, 3) := by decide +kernel
theorem dX3_octetsOf_16 : decode cX3_octetsOf 16 = .ok (.iconst 2, 1) := by decide +kernel
theorem dX3_octetsOf_17 : decode cX3_octetsOf 17 = .ok (.ireturn, 1) := by decide +kernel
theorem dX3_octetsOf_18 : decode cX3_octetsOf 18 = .ok (.iload_n 0, 1) := by decide +kernel
theorem dX3_octetsOf_19 : decode cX3_octetsOf 19 = .ok (.ldc 30, 2) := by decide +kernel
theorem dX3_octetsOf_21 : decode cX3_octetsOf 21 = .ok (.if_icmp .ge 7, 3) := by decide +kernel
theorem dX3_octetsOf_24 : decode cX3_octetsOf 24 = .ok (.iconst 3, 1) := by decide +kernel
theorem dX3_octetsOf_25 : decode cX3_octetsOf 25 = .ok (.goto 4, 3) := by decide +kernel
theorem dX3_octetsOf_28 : decode cX3_octetsOf 28 = .ok (.iconst 4, 1) := by decide +kernel
theorem dX3_octetsOf_29 : decode cX3_octetsOf 29 = .ok (.ireturn, 1) := by decide +kernel
theorem dX3_octetsMore_0 : decode cX3_octetsMore 0 = .ok (.iload_n 0, 1) := by decide +kernel
theorem dX3_octetsMore_1 : decode cX3_octetsMore 1 = .ok (.ifCond .lt 11, 3) := by decide +kernel
theorem dX3_octetsMore_4 : decode cX3_octetsMore 4 = .ok (.iload_n 0, 1) := by decide +kernel
theorem dX3_octetsMore_5 : decode cX3_octetsMore 5 = .ok (.bipush 127, 2) := by decide +kernel
theorem dX3_octetsMore_7 : decode cX3_octetsMore 7 = .ok (.if_icmp .gt 5, 3) := by decide +kernel
theorem dX3_octetsMore_10 : decode cX3_octetsMore 10 = .ok (.iconst 0, 1) := by decide +kernel
theorem dX3_octetsMore_11 : decode cX3_octetsMore 11 = .ok (.ireturn, 1) := by decide +kernel
theorem dX3_octetsMore_12 : decode cX3_octetsMore 12 = .ok (.iload_n 0, 1) := by decide +kernel
theorem dX3_octetsMore_13 : decode cX3_octetsMore 13 = .ok (.sipush 194, 3) := by decide +kernel
theorem dX3_octetsMore_16 : decode cX3_octetsMore 16 = .ok (.if_icmp .lt 12, 3) := by decide +kernel
theorem dX3_octetsMore_19 : decode cX3_octetsMore 19 = .ok (.iload_n 0, 1) := by decide +kernel
theorem dX3_octetsMore_20 : decode cX3_octetsMore 20 = .ok (.sipush 223, 3) := by decide +kernel
theorem dX3_octetsMore_23 : decode cX3_octetsMore 23 = .ok (.if_icmp .gt 5, 3) := by decide +kernel
theorem dX3_octetsMore_26 : decode cX3_octetsMore 26 = .ok (.iconst 1, 1) := by decide +kernel
theorem dX3_octetsMore_27 : decode cX3_octetsMore 27 = .ok (.ireturn, 1) := by decide +kernel
theorem dX3_octetsMore_28 : decode cX3_octetsMore 28 = .ok (.iload_n 0, 1) := by decide +kernel
theorem dX3_octetsMore_29 : decode cX3_octetsMore 29 = .ok (.sipush 224, 3) := by decide +kernel
theorem dX3_octetsMore_32 : decode cX3_octetsMore 32 = .ok (.if_icmp .lt 12, 3) := by decide +kernel
theorem dX3_octetsMore_35 : decode cX3_octetsMore 35 = .ok (.iload_n 0, 1) := by decide +kernel
theorem dX3_octetsMore_36 : decode cX3_octetsMore 36 = .ok (.sipush 239, 3) := by decide +kernel
theorem dX3_octetsMore_39 : decode cX3_octetsMore 39 = .ok (.if_icmp .gt 5, 3) := by decide +kernel
theorem dX3_octetsMore_42 : decode cX3_octetsMore 42 = .ok (.iconst 2, 1) := by decide +kernel
theorem dX3_octetsMore_43 : decode cX3_octetsMore 43 = .ok (.ireturn, 1) := by decide +kernel
theorem dX3_octetsMore_44 : decode cX3_octetsMore 44 = .ok (.iload_n 0, 1) := by decide +kernel
theorem dX3_octetsMore_45 : decode cX3_octetsMore 45 = .ok (.sipush 240, 3) := by decide +kernel
theorem dX3_octetsMore_48 : decode cX3_octetsMore 48 = .ok (.if_icmp .lt 14, 3) := by decide +kernel
theorem dX3_octetsMore_51 : decode cX3_octetsMore 51 = .ok (.iload_n 0, 1) := by decide +kernel
theorem dX3_octetsMore_52 : decode cX3_octetsMore 52 = .ok (.sipush 244, 3) := by decide +kernel
theorem dX3_octetsMore_55 : decode cX3_octetsMore 55 = .ok (.if_icmp .gt 7, 3) := by decide +kernel
theorem dX3_octetsMore_58 : decode cX3_octetsMore 58 = .ok (.iconst 3, 1) := by decide +kernel
theorem dX3_octetsMore_59 : decode cX3_octetsMore 59 = .ok (.goto 4, 3) := by decide +kernel
theorem dX3_octetsMore_62 : decode cX3_octetsMore 62 = .ok (.iconst (-1), 1) := by decide +kernel
theorem dX3_octetsMore_63 : decode cX3_octetsMore 63 = .ok (.ireturn, 1) := by decide +kernel
theorem dX3_isDots_0 : decode cX3_isDots 0 = .ok (.iload_n 2, 1) := by decide +kernel
theorem dX3_isDots_1 : decode cX3_isDots 1 = .ok (.iload_n 1, 1) := by decide +kernel
theorem dX3_isDots_2 : decode cX3_isDots 2 = .ok (.isub, 1) := by decide +kernel
theorem dX3_isDots_3 : decode cX3_isDots 3 = .ok (.istore_n 3, 1) := by decide +kernel
theorem dX3_isDots_4 : decode cX3_isDots 4 = .ok (.iload_n 3, 1) := by decide +kernel
theorem dX3_isDots_5 : decode cX3_isDots 5 = .ok (.iconst 1, 1) := by decide +kernel
theorem dX3_isDots_6 : decode cX3_isDots 6 = .ok (.if_icmp .eq 8, 3) := by decide +kernel
theorem dX3_isDots_9 : decode cX3_isDots 9 = .ok (.iload_n 3, 1) := by decide +kernel
theorem dX3_isDots_10 : decode cX3_isDots 10 = .ok (.iconst 2, 1) := by decide +kernel
theorem dX3_isDots_11 : decode cX3_isDots 11 = .ok (.if_icmp .ne 29, 3) := by decide +kernel
theorem dX3_isDots_14 : decode cX3_isDots 14 = .ok (.aload_n 0, 1) := by decide +kernel
theorem dX3_isDots_15 : decode cX3_isDots 15 = .ok (.iload_n 1, 1) := by decide +kernel
theorem dX3_isDots_16 : decode cX3_isDots 16 = .ok (.invokevirtual 19, 3) := by decide +kernel
theorem dX3_isDots_19 : decode cX3_isDots 19 = .ok (.bipush 46, 2) := by decide +kernel
theorem dX3_isDots_21 : decode cX3_isDots 21 = .ok (.if_icmp .ne 19, 3) := by decide +kernel
theorem dX3_isDots_24 : decode cX3_isDots 24 = .ok (.aload_n 0, 1) := by decide +kernel
theorem dX3_isDots_25 : decode cX3_isDots 25 = .ok (.iload_n 2, 1) := by decide +kernel
theorem dX3_isDots_26 : decode cX3_isDots 26 = .ok (.iconst 1, 1) := by decide +kernel
theorem dX3_isDots_27 : decode cX3_isDots 27 = .ok (.isub, 1) := by decide +kernel
theorem dX3_isDots_28 : decode cX3_isDots 28 = .ok (.invokevirtual 19, 3) := by decide +kernel
theorem dX3_isDots_31 : decode cX3_isDots 31 = .ok (.bipush 46, 2) := by decide +kernel
theorem dX3_isDots_33 : decode cX3_isDots 33 = .ok (.if_icmp .ne 7, 3) := by decide +kernel
theorem dX3_isDots_36 : decode cX3_isDots 36 = .ok (.iconst 1, 1) := by decide +kernel
theorem dX3_isDots_37 : decode cX3_isDots 37 = .ok (.goto 4, 3) := by decide +kernel
theorem dX3_isDots_40 : decode cX3_isDots 40 = .ok (.iconst 0, 1) := by decide +kernel
theorem dX3_isDots_41 : decode cX3_isDots 41 = .ok (.ireturn, 1) := by decide +kernel
