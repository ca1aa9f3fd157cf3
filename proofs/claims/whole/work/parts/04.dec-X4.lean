theorem dX4_init_0 : decode cX4_init 0 = .ok (.aload_n 0, 1) := by decide +kernel
theorem dX4_init_1 : decode cX4_init 1 = .ok (.invokespecial 1, 3) := by decide +kernel
theorem dX4_init_4 : decode cX4_init 4 = .ok (.aload_n 0, 1) := by decide +kernel
theorem dX4_init_5 : decode cX4_init 5 = .ok (.new 7, 3) := by decide +kernel
theorem dX4_init_8 : decode cX4_init 8 = .ok (.dup, 1) := by decide +kernel
theorem dX4_init_9 : decode cX4_init 9 = .ok (.sipush 200, 3) := by decide +kernel
theorem dX4_init_12 : decode cX4_init 12 = .ok (.invokespecial 11, 3) := by decide +kernel
theorem dX4_init_15 : decode cX4_init 15 = .ok (.putfield 14, 3) := by decide +kernel
theorem dX4_init_18 : decode cX4_init 18 = .ok (.aload_n 0, 1) := by decide +kernel
theorem dX4_init_19 : decode cX4_init 19 = .ok (.new 7, 3) := by decide +kernel
theorem dX4_init_22 : decode cX4_init 22 = .ok (.dup, 1) := by decide +kernel
theorem dX4_init_23 : decode cX4_init 23 = .ok (.sipush 200, 3) := by decide +kernel
theorem dX4_init_26 : decode cX4_init 26 = .ok (.invokespecial 11, 3) := by decide +kernel
theorem dX4_init_29 : decode cX4_init 29 = .ok (.putfield 18, 3) := by decide +kernel
theorem dX4_init_32 : decode cX4_init 32 = .ok (.aload_n 0, 1) := by decide +kernel
theorem dX4_init_33 : decode cX4_init 33 = .ok (.new 7, 3) := by decide +kernel
theorem dX4_init_36 : decode cX4_init 36 = .ok (.dup, 1) := by decide +kernel
theorem dX4_init_37 : decode cX4_init 37 = .ok (.bipush 60, 2) := by decide +kernel
theorem dX4_init_39 : decode cX4_init 39 = .ok (.invokespecial 11, 3) := by decide +kernel
theorem dX4_init_42 : decode cX4_init 42 = .ok (.putfield 21, 3) := by decide +kernel
theorem dX4_init_45 : decode cX4_init 45 = .ok (.aload_n 0, 1) := by decide +kernel
theorem dX4_init_46 : decode cX4_init 46 = .ok (.sipush 200, 3) := by decide +kernel
theorem dX4_init_49 : decode cX4_init 49 = .ok (.anewarray 24, 3) := by decide +kernel
theorem dX4_init_52 : decode cX4_init 52 = .ok (.putfield 26, 3) := by decide +kernel
theorem dX4_init_55 : decode cX4_init 55 = .ok (.new 24, 3) := by decide +kernel
theorem dX4_init_58 : decode cX4_init 58 = .ok (.dup, 1) := by decide +kernel
theorem dX4_init_59 : decode cX4_init 59 = .ok (.invokespecial 30, 3) := by decide +kernel
theorem dX4_init_62 : decode cX4_init 62 = .ok (.astore_n 1, 1) := by decide +kernel
theorem dX4_init_63 : decode cX4_init 63 = .ok (.aload_n 1, 1) := by decide +kernel
theorem dX4_init_64 : decode cX4_init 64 = .ok (.iconst 1, 1) := by decide +kernel
theorem dX4_init_65 : decode cX4_init 65 = .ok (.invokevirtual 31, 3) := by decide +kernel
theorem dX4_init_68 : decode cX4_init 68 = .ok (.aload_n 0, 1) := by decide +kernel
theorem dX4_init_69 : decode cX4_init 69 = .ok (.getfield 26, 3) := by decide +kernel
theorem dX4_init_72 : decode cX4_init 72 = .ok (.iconst 0, 1) := by decide +kernel
theorem dX4_init_73 : decode cX4_init 73 = .ok (.aload_n 1, 1) := by decide +kernel
theorem dX4_init_74 : decode cX4_init 74 = .ok (.aastore, 1) := by decide +kernel
theorem dX4_init_75 : decode cX4_init 75 = .ok (.aload_n 0, 1) := by decide +kernel
theorem dX4_init_76 : decode cX4_init 76 = .ok (.iconst 1, 1) := by decide +kernel
theorem dX4_init_77 : decode cX4_init 77 = .ok (.putfield 35, 3) := by decide +kernel
theorem dX4_init_80 : decode cX4_init 80 = .ok (.return_, 1) := by decide +kernel
theorem dX4_feed_0 : decode cX4_feed 0 = .ok (.iload_n 1, 1) := by decide +kernel
theorem dX4_feed_1 : decode cX4_feed 1 = .ok (.iconst 1, 1) := by decide +kernel
theorem dX4_feed_2 : decode cX4_feed 2 = .ok (.if_icmp .lt 9, 3) := by decide +kernel
theorem dX4_feed_5 : decode cX4_feed 5 = .ok (.iload_n 1, 1) := by decide +kernel
theorem dX4_feed_6 : decode cX4_feed 6 = .ok (.bipush 8, 2) := by decide +kernel
theorem dX4_feed_8 : decode cX4_feed 8 = .ok (.if_icmp .le 13, 3) := by decide +kernel
theorem dX4_feed_11 : decode cX4_feed 11 = .ok (.new 39, 3) := by decide +kernel
theorem dX4_feed_14 : decode cX4_feed 14 = .ok (.dup, 1) := by decide +kernel
theorem dX4_feed_15 : decode cX4_feed 15 = .ok (.ldc 41, 2) := by decide +kernel
theorem dX4_feed_17 : decode cX4_feed 17 = .ok (.invokespecial 43, 3) := by decide +kernel
theorem dX4_feed_20 : decode cX4_feed 20 = .ok (.athrow, 1) := by decide +kernel
theorem dX4_feed_21 : decode cX4_feed 21 = .ok (.aload_n 0, 1) := by decide +kernel
theorem dX4_feed_22 : decode cX4_feed 22 = .ok (.getfield 14, 3) := by decide +kernel
theorem dX4_feed_25 : decode cX4_feed 25 = .ok (.invokevirtual 46, 3) := by decide +kernel
theorem dX4_feed_28 : decode cX4_feed 28 = .ok (.iload_n 1, 1) := by decide +kernel
theorem dX4_feed_29 : decode cX4_feed 29 = .ok (.iadd, 1) := by decide +kernel
theorem dX4_feed_30 : decode cX4_feed 30 = .ok (.sipush 200, 3) := by decide +kernel
theorem dX4_feed_33 : decode cX4_feed 33 = .ok (.if_icmp .le 13, 3) := by decide +kernel
theorem dX4_feed_36 : decode cX4_feed 36 = .ok (.new 39, 3) := by decide +kernel
theorem dX4_feed_39 : decode cX4_feed 39 = .ok (.dup, 1) := by decide +kernel
theorem dX4_feed_40 : decode cX4_feed 40 = .ok (.ldc 50, 2) := by decide +kernel
theorem dX4_feed_42 : decode cX4_feed 42 = .ok (.invokespecial 43, 3) := by decide +kernel
theorem dX4_feed_45 : decode cX4_feed 45 = .ok (.athrow, 1) := by decide +kernel
theorem dX4_feed_46 : decode cX4_feed 46 = .ok (.iconst 0, 1) := by decide +kernel
theorem dX4_feed_47 : decode cX4_feed 47 = .ok (.istore 4, 2) := by decide +kernel
theorem dX4_feed_49 : decode cX4_feed 49 = .ok (.iload 4, 2) := by decide +kernel
theorem dX4_feed_51 : decode cX4_feed 51 = .ok (.iload_n 1, 1) := by decide +kernel
theorem dX4_feed_52 : decode cX4_feed 52 = .ok (.if_icmp .ge 28, 3) := by decide +kernel
theorem dX4_feed_55 : decode cX4_feed 55 = .ok (.aload_n 0, 1) := by decide +kernel
theorem dX4_feed_56 : decode cX4_feed 56 = .ok (.getfield 14, 3) := by decide +kernel
theorem dX4_feed_59 : decode cX4_feed 59 = .ok (.lload_n 2, 1) := by decide +kernel
theorem dX4_feed_60 : decode cX4_feed 60 = .ok (.bipush 8, 2) := by decide +kernel
theorem dX4_feed_62 : decode cX4_feed 62 = .ok (.iload 4, 2) := by decide +kernel
theorem dX4_feed_64 : decode cX4_feed 64 = .ok (.imul, 1) := by decide +kernel
theorem dX4_feed_65 : decode cX4_feed 65 = .ok (.lushr, 1) := by decide +kernel
theorem dX4_feed_66 : decode cX4_feed 66 = .ok (.l2i, 1) := by decide +kernel
theorem dX4_feed_67 : decode cX4_feed 67 = .ok (.sipush 255, 3) := by decide +kernel
theorem dX4_feed_70 : decode cX4_feed 70 = .ok (.iand, 1) := by decide +kernel
theorem dX4_feed_71 : decode cX4_feed 71 = .ok (.invokevirtual 52, 3) := by decide +kernel
theorem dX4_feed_74 : decode cX4_feed 74 = .ok (.iinc 4 1, 3) := by decide +kernel
theorem dX4_feed_77 : decode cX4_feed 77 = .ok (.goto (-28), 3) := by decide +kernel
theorem dX4_feed_80 : decode cX4_feed 80 = .ok (.aload_n 0, 1) := by decide +kernel
theorem dX4_feed_81 : decode cX4_feed 81 = .ok (.getfield 14, 3) := by decide +kernel
theorem dX4_feed_84 : decode cX4_feed 84 = .ok (.invokevirtual 46, 3) := by decide +kernel
theorem dX4_feed_87 : decode cX4_feed 87 = .ok (.ireturn, 1) := by decide +kernel
theorem dX4_check_0 : decode cX4_check 0 = .ok (.aload_n 0, 1) := by decide +kernel
theorem dX4_check_1 : decode cX4_check 1 = .ok (.getfield 14, 3) := by decide +kernel
theorem dX4_check_4 : decode cX4_check 4 = .ok (.iconst 0, 1) := by decide +kernel
theorem dX4_check_5 : decode cX4_check 5 = .ok (.aload_n 0, 1) := by decide +kernel
theorem dX4_check_6 : decode cX4_check 6 = .ok (.getfield 14, 3) := by decide +kernel
theorem dX4_check_9 : decode cX4_check 9 = .ok (.invokevirtual 46, 3) := by decide +kernel
theorem dX4_check_12 : decode cX4_check 12 = .ok (.invokestatic 55, 3) := by decide +kernel
theorem dX4_check_15 : decode cX4_check 15 = .ok (.istore_n 1, 1) := by decide +kernel
theorem dX4_check_16 : decode cX4_check 16 = .ok (.aload_n 0, 1) := by decide +kernel
theorem dX4_check_17 : decode cX4_check 17 = .ok (.getfield 14, 3) := by decide +kernel
theorem dX4_check_20 : decode cX4_check 20 = .ok (.invokevirtual 61, 3) := by decide +kernel
theorem dX4_check_23 : decode cX4_check 23 = .ok (.iload_n 1, 1) := by decide +kernel
theorem dX4_check_24 : decode cX4_check 24 = .ok (.ireturn, 1) := by decide +kernel
theorem dX4_fold_0 : decode cX4_fold 0 = .ok (.bipush (-2), 2) := by decide +kernel
theorem dX4_fold_2 : decode cX4_fold 2 = .ok (.istore_n 1, 1) := by decide +kernel
theorem dX4_fold_3 : decode cX4_fold 3 = .ok (.aload_n 0, 1) := by decide +kernel
theorem dX4_fold_4 : decode cX4_fold 4 = .ok (.getfield 14, 3) := by decide +kernel
theorem dX4_fold_7 : decode cX4_fold 7 = .ok (.iconst 0, 1) := by decide +kernel
theorem dX4_fold_8 : decode cX4_fold 8 = .ok (.aload_n 0, 1) := by decide +kernel
theorem dX4_fold_9 : decode cX4_fold 9 = .ok (.getfield 14, 3) := by decide +kernel
theorem dX4_fold_12 : decode cX4_fold 12 = .ok (.invokevirtual 46, 3) := by decide +kernel
theorem dX4_fold_15 : decode cX4_fold 15 = .ok (.invokestatic 55, 3) := by decide +kernel
theorem dX4_fold_18 : decode cX4_fold 18 = .ok (.iconst (-1), 1) := by decide +kernel
theorem dX4_fold_19 : decode cX4_fold 19 = .ok (.if_icmp .ne 30, 3) := by decide +kernel
theorem dX4_fold_22 : decode cX4_fold 22 = .ok (.aload_n 0, 1) := by decide +kernel
theorem dX4_fold_23 : decode cX4_fold 23 = .ok (.getfield 18, 3) := by decide +kernel
theorem dX4_fold_26 : decode cX4_fold 26 = .ok (.aload_n 0, 1) := by decide +kernel
theorem dX4_fold_27 : decode cX4_fold 27 = .ok (.getfield 14, 3) := by decide +kernel
theorem dX4_fold_30 : decode cX4_fold 30 = .ok (.iconst 0, 1) := by decide +kernel
theorem dX4_fold_31 : decode cX4_fold 31 = .ok (.aload_n 0, 1) := by decide +kernel
theorem dX4_fold_32 : decode cX4_fold 32 = .ok (.getfield 14, 3) := by decide +kernel
theorem dX4_fold_35 : decode cX4_fold 35 = .ok (.invokevirtual 46, 3) := by decide +kernel
theorem dX4_fold_38 : decode cX4_fold 38 = .ok (.invokestatic 64, 3) := by decide +kernel
theorem dX4_fold_41 : decode cX4_fold 41 = .ok (.aload_n 0, 1) := by decide +kernel
theorem dX4_fold_42 : decode cX4_fold 42 = .ok (.getfield 18, 3) := by decide +kernel
theorem dX4_fold_45 : decode cX4_fold 45 = .ok (.invokevirtual 46, 3) := by decide +kernel
theorem dX4_fold_48 : decode cX4_fold 48 = .ok (.istore_n 1, 1) := by decide +kernel
theorem dX4_fold_49 : decode cX4_fold 49 = .ok (.aload_n 0, 1) := by decide +kernel
theorem dX4_fold_50 : decode cX4_fold 50 = .ok (.getfield 14, 3) := by decide +kernel
theorem dX4_fold_53 : decode cX4_fold 53 = .ok (.invokevirtual 61, 3) := by decide +kernel
theorem dX4_fold_56 : decode cX4_fold 56 = .ok (.iload_n 1, 1) := by decide +kernel
theorem dX4_fold_57 : decode cX4_fold 57 = .ok (.ireturn, 1) := by decide +kernel
theorem dX4_folded_0 : decode cX4_folded 0 = .ok (.aload_n 0, 1) := by decide +kernel
theorem dX4_folded_1 : decode cX4_folded 1 = .ok (.getfield 18, 3) := by decide +kernel
theorem dX4_folded_4 : decode cX4_folded 4 = .ok (.iload_n 1, 1) := by decide +kernel
theorem dX4_folded_5 : decode cX4_folded 5 = .ok (.invokevirtual 70, 3) := by decide +kernel
theorem dX4_folded_8 : decode cX4_folded 8 = .ok (.ireturn, 1) := by decide +kernel
theorem dX4_put_0 : decode cX4_put 0 = .ok (.aload_n 0, 1) := by decide +kernel
theorem dX4_put_1 : decode cX4_put 1 = .ok (.iload_n 1, 1) := by decide +kernel
theorem dX4_put_2 : decode cX4_put 2 = .ok (.iload_n 2, 1) := by decide +kernel
theorem dX4_put_3 : decode cX4_put 3 = .ok (.invokevirtual 74, 3) := by decide +kernel
theorem dX4_put_6 : decode cX4_put 6 = .ok (.istore_n 3, 1) := by decide +kernel
theorem dX4_put_7 : decode cX4_put 7 = .ok (.aload_n 0, 1) := by decide +kernel
theorem dX4_put_8 : decode cX4_put 8 = .ok (.getfield 14, 3) := by decide +kernel
theorem dX4_put_11 : decode cX4_put 11 = .ok (.invokevirtual 61, 3) := by decide +kernel
theorem dX4_put_14 : decode cX4_put 14 = .ok (.iload_n 3, 1) := by decide +kernel
theorem dX4_put_15 : decode cX4_put 15 = .ok (.ireturn, 1) := by decide +kernel
theorem dX4_find_0 : decode cX4_find 0 = .ok (.aload_n 0, 1) := by decide +kernel
theorem dX4_find_1 : decode cX4_find 1 = .ok (.iload_n 1, 1) := by decide +kernel
theorem dX4_find_2 : decode cX4_find 2 = .ok (.invokevirtual 78, 3) := by decide +kernel
theorem dX4_find_5 : decode cX4_find 5 = .ok (.istore_n 2, 1) := by decide +kernel
theorem dX4_find_6 : decode cX4_find 6 = .ok (.aload_n 0, 1) := by decide +kernel
theorem dX4_find_7 : decode cX4_find 7 = .ok (.getfield 14, 3) := by decide +kernel
theorem dX4_find_10 : decode cX4_find 10 = .ok (.invokevirtual 61, 3) := by decide +kernel
theorem dX4_find_13 : decode cX4_find 13 = .ok (.iload_n 2, 1) := by decide +kernel
theorem dX4_find_14 : decode cX4_find 14 = .ok (.ireturn, 1) := by decide +kernel
theorem dX4_walk_0 : decode cX4_walk 0 = .ok (.aload_n 0, 1) := by decide +kernel
theorem dX4_walk_1 : decode cX4_walk 1 = .ok (.iload_n 1, 1) := by decide +kernel
theorem dX4_walk_2 : decode cX4_walk 2 = .ok (.invokevirtual 81, 3) := by decide +kernel
theorem dX4_walk_5 : decode cX4_walk 5 = .ok (.istore_n 2, 1) := by decide +kernel
theorem dX4_walk_6 : decode cX4_walk 6 = .ok (.aload_n 0, 1) := by decide +kernel
theorem dX4_walk_7 : decode cX4_walk 7 = .ok (.getfield 14, 3) := by decide +kernel
theorem dX4_walk_10 : decode cX4_walk 10 = .ok (.invokevirtual 61, 3) := by decide +kernel
theorem dX4_walk_13 : decode cX4_walk 13 = .ok (.iload_n 2, 1) := by decide +kernel
theorem dX4_walk_14 : decode cX4_walk 14 = .ok (.ireturn, 1) := by decide +kernel
theorem dX4_move_0 : decode cX4_move 0 = .ok (.aload_n 0, 1) := by decide +kernel
theorem dX4_move_1 : decode cX4_move 1 = .ok (.iload_n 1, 1) := by decide +kernel
theorem dX4_move_2 : decode cX4_move 2 = .ok (.iload_n 2, 1) := by decide +kernel
theorem dX4_move_3 : decode cX4_move 3 = .ok (.invokevirtual 84, 3) := by decide +kernel
theorem dX4_move_6 : decode cX4_move 6 = .ok (.istore_n 3, 1) := by decide +kernel
theorem dX4_move_7 : decode cX4_move 7 = .ok (.aload_n 0, 1) := by decide +kernel
theorem dX4_move_8 : decode cX4_move 8 = .ok (.getfield 14, 3) := by decide +kernel
theorem dX4_move_11 : decode cX4_move 11 = .ok (.invokevirtual 61, 3) := by decide +kernel
theorem dX4_move_14 : decode cX4_move 14 = .ok (.iload_n 3, 1) := by decide +kernel
theorem dX4_move_15 : decode cX4_move 15 = .ok (.ireturn, 1) := by decide +kernel
theorem dX4_remove_0 : decode cX4_remove 0 = .ok (.aload_n 0, 1) := by decide +kernel
theorem dX4_remove_1 : decode cX4_remove 1 = .ok (.iload_n 1, 1) := by decide +kernel
theorem dX4_remove_2 : decode cX4_remove 2 = .ok (.invokevirtual 88, 3) := by decide +kernel
theorem dX4_remove_5 : decode cX4_remove 5 = .ok (.astore_n 2, 1) := by decide +kernel
theorem dX4_remove_6 : decode cX4_remove 6 = .ok (.aload_n 2, 1) := by decide +kernel
theorem dX4_remove_7 : decode cX4_remove 7 = .ok (.ifnull 7, 3) := by decide +kernel
theorem dX4_remove_10 : decode cX4_remove 10 = .ok (.iload_n 1, 1) := by decide +kernel
theorem dX4_remove_11 : decode cX4_remove 11 = .ok (.ifCond .ne 6, 3) := by decide +kernel
theorem dX4_remove_14 : decode cX4_remove 14 = .ok (.bipush (-5), 2) := by decide +kernel
theorem dX4_remove_16 : decode cX4_remove 16 = .ok (.ireturn, 1) := by decide +kernel
theorem dX4_remove_17 : decode cX4_remove 17 = .ok (.aload_n 2, 1) := by decide +kernel
theorem dX4_remove_18 : decode cX4_remove 18 = .ok (.getfield 92, 3) := by decide +kernel
theorem dX4_remove_21 : decode cX4_remove 21 = .ok (.invokevirtual 46, 3) := by decide +kernel
theorem dX4_remove_24 : decode cX4_remove 24 = .ok (.ifCond .le 6, 3) := by decide +kernel
theorem dX4_remove_27 : decode cX4_remove 27 = .ok (.bipush (-6), 2) := by decide +kernel
theorem dX4_remove_29 : decode cX4_remove 29 = .ok (.ireturn, 1) := by decide +kernel
theorem dX4_remove_30 : decode cX4_remove 30 = .ok (.aload_n 0, 1) := by decide +kernel
theorem dX4_remove_31 : decode cX4_remove 31 = .ok (.iload_n 1, 1) := by decide +kernel
theorem dX4_remove_32 : decode cX4_remove 32 = .ok (.aload_n 2, 1) := by decide +kernel
theorem dX4_remove_33 : decode cX4_remove 33 = .ok (.getfield 95, 3) := by decide +kernel
theorem dX4_remove_36 : decode cX4_remove 36 = .ok (.invokevirtual 98, 3) := by decide +kernel
theorem dX4_remove_39 : decode cX4_remove 39 = .ok (.aload_n 2, 1) := by decide +kernel
theorem dX4_remove_40 : decode cX4_remove 40 = .ok (.iconst 0, 1) := by decide +kernel
theorem dX4_remove_41 : decode cX4_remove 41 = .ok (.putfield 102, 3) := by decide +kernel
theorem dX4_remove_44 : decode cX4_remove 44 = .ok (.aload_n 0, 1) := by decide +kernel
theorem dX4_remove_45 : decode cX4_remove 45 = .ok (.dup, 1) := by decide +kernel
theorem dX4_remove_46 : decode cX4_remove 46 = .ok (.getfield 35, 3) := by decide +kernel
theorem dX4_remove_49 : decode cX4_remove 49 = .ok (.iconst 1, 1) := by decide +kernel
theorem dX4_remove_50 : decode cX4_remove 50 = .ok (.isub, 1) := by decide +kernel
theorem dX4_remove_51 : decode cX4_remove 51 = .ok (.putfield 35, 3) := by decide +kernel
theorem dX4_remove_54 : decode cX4_remove 54 = .ok (.aload_n 2, 1) := by decide +kernel
theorem dX4_remove_55 : decode cX4_remove 55 = .ok (.getfield 95, 3) := by decide +kernel
theorem dX4_remove_58 : decode cX4_remove 58 = .ok (.ireturn, 1) := by decide +kernel
theorem dX4_about_0 : decode cX4_about 0 = .ok (.iload_n 2, 1) := by decide +kernel
theorem dX4_about_1 : decode cX4_about 1 = .ok (.ifCond .lt 8, 3) := by decide +kernel
theorem dX4_about_4 : decode cX4_about 4 = .ok (.iload_n 2, 1) := by decide +kernel
theorem dX4_about_5 : decode cX4_about 5 = .ok (.iconst 5, 1) := by decide +kernel
theorem dX4_about_6 : decode cX4_about 6 = .ok (.if_icmp .le 13, 3) := by decide +kernel
theorem dX4_about_9 : decode cX4_about 9 = .ok (.new 39, 3) := by decide +kernel
theorem dX4_about_12 : decode cX4_about 12 = .ok (.dup, 1) := by decide +kernel
theorem dX4_about_13 : decode cX4_about 13 = .ok (.ldc 106, 2) := by decide +kernel
theorem dX4_about_15 : decode cX4_about 15 = .ok (.invokespecial 43, 3) := by decide +kernel
theorem dX4_about_18 : decode cX4_about 18 = .ok (.athrow, 1) := by decide +kernel
theorem dX4_about_19 : decode cX4_about 19 = .ok (.aload_n 0, 1) := by decide +kernel
theorem dX4_about_20 : decode cX4_about 20 = .ok (.iload_n 1, 1) := by decide +kernel
theorem dX4_about_21 : decode cX4_about 21 = .ok (.invokevirtual 88, 3) := by decide +kernel
theorem dX4_about_24 : decode cX4_about 24 = .ok (.astore_n 3, 1) := by decide +kernel
theorem dX4_about_25 : decode cX4_about 25 = .ok (.aload_n 3, 1) := by decide +kernel
theorem dX4_about_26 : decode cX4_about 26 = .ok (.ifnonnull 6, 3) := by decide +kernel
theorem dX4_about_29 : decode cX4_about 29 = .ok (.bipush (-5), 2) := by decide +kernel
theorem dX4_about_31 : decode cX4_about 31 = .ok (.ireturn, 1) := by decide +kernel
theorem dX4_about_32 : decode cX4_about 32 = .ok (.iload_n 2, 1) := by decide +kernel
theorem dX4_about_33 : decode cX4_about 33 = .ok (.tableswitch 77 0 4 #[35, 48, 53, 61, 69], 35) := by decide +kernel
theorem dX4_about_68 : decode cX4_about 68 = .ok (.aload_n 3, 1) := by decide +kernel
theorem dX4_about_69 : decode cX4_about 69 = .ok (.getfield 108, 3) := by decide +kernel
theorem dX4_about_72 : decode cX4_about 72 = .ok (.ifCond .eq 7, 3) := by decide +kernel
theorem dX4_about_75 : decode cX4_about 75 = .ok (.iconst 1, 1) := by decide +kernel
theorem dX4_about_76 : decode cX4_about 76 = .ok (.goto 4, 3) := by decide +kernel
theorem dX4_about_79 : decode cX4_about 79 = .ok (.iconst 0, 1) := by decide +kernel
theorem dX4_about_80 : decode cX4_about 80 = .ok (.ireturn, 1) := by decide +kernel
theorem dX4_about_81 : decode cX4_about 81 = .ok (.aload_n 3, 1) := by decide +kernel
theorem dX4_about_82 : decode cX4_about 82 = .ok (.getfield 95, 3) := by decide +kernel
theorem dX4_about_85 : decode cX4_about 85 = .ok (.ireturn, 1) := by decide +kernel
theorem dX4_about_86 : decode cX4_about 86 = .ok (.aload_n 3, 1) := by decide +kernel
theorem dX4_about_87 : decode cX4_about 87 = .ok (.getfield 92, 3) := by decide +kernel
theorem dX4_about_90 : decode cX4_about 90 = .ok (.invokevirtual 46, 3) := by decide +kernel
theorem dX4_about_93 : decode cX4_about 93 = .ok (.ireturn, 1) := by decide +kernel
theorem dX4_about_94 : decode cX4_about 94 = .ok (.aload_n 3, 1) := by decide +kernel
theorem dX4_about_95 : decode cX4_about 95 = .ok (.getfield 111, 3) := by decide +kernel
theorem dX4_about_98 : decode cX4_about 98 = .ok (.invokevirtual 46, 3) := by decide +kernel
theorem dX4_about_101 : decode cX4_about 101 = .ok (.ireturn, 1) := by decide +kernel
theorem dX4_about_102 : decode cX4_about 102 = .ok (.aload_n 3, 1) := by decide +kernel
theorem dX4_about_103 : decode cX4_about 103 = .ok (.getfield 114, 3) := by decide +kernel
theorem dX4_about_106 : decode cX4_about 106 = .ok (.invokevirtual 46, 3) := by decide +kernel
theorem dX4_about_109 : decode cX4_about 109 = .ok (.ireturn, 1) := by decide +kernel
theorem dX4_about_110 : decode cX4_about 110 = .ok (.aload_n 0, 1) := by decide +kernel
theorem dX4_about_111 : decode cX4_about 111 = .ok (.iload_n 1, 1) := by decide +kernel
theorem dX4_about_112 : decode cX4_about 112 = .ok (.invokevirtual 117, 3) := by decide +kernel
theorem dX4_about_115 : decode cX4_about 115 = .ok (.ireturn, 1) := by decide +kernel
theorem dX4_entry_0 : decode cX4_entry 0 = .ok (.aload_n 0, 1) := by decide +kernel
theorem dX4_entry_1 : decode cX4_entry 1 = .ok (.iload_n 1, 1) := by decide +kernel
theorem dX4_entry_2 : decode cX4_entry 2 = .ok (.invokevirtual 120, 3) := by decide +kernel
theorem dX4_entry_5 : decode cX4_entry 5 = .ok (.astore_n 3, 1) := by decide +kernel
theorem dX4_entry_6 : decode cX4_entry 6 = .ok (.aload_n 3, 1) := by decide +kernel
theorem dX4_entry_7 : decode cX4_entry 7 = .ok (.ifnonnull 8, 3) := by decide +kernel
theorem dX4_entry_10 : decode cX4_entry 10 = .ok (.bipush (-5), 2) := by decide +kernel
theorem dX4_entry_12 : decode cX4_entry 12 = .ok (.goto 11, 3) := by decide +kernel
theorem dX4_entry_15 : decode cX4_entry 15 = .ok (.aload_n 3, 1) := by decide +kernel
theorem dX4_entry_16 : decode cX4_entry 16 = .ok (.getfield 92, 3) := by decide +kernel
theorem dX4_entry_19 : decode cX4_entry 19 = .ok (.iload_n 2, 1) := by decide +kernel
theorem dX4_entry_20 : decode cX4_entry 20 = .ok (.invokevirtual 70, 3) := by decide +kernel
theorem dX4_entry_23 : decode cX4_entry 23 = .ok (.ireturn, 1) := by decide +kernel
theorem dX4_sorted_0 : decode cX4_sorted 0 = .ok (.aload_n 0, 1) := by decide +kernel
theorem dX4_sorted_1 : decode cX4_sorted 1 = .ok (.iload_n 1, 1) := by decide +kernel
theorem dX4_sorted_2 : decode cX4_sorted 2 = .ok (.invokevirtual 120, 3) := by decide +kernel
theorem dX4_sorted_5 : decode cX4_sorted 5 = .ok (.astore_n 3, 1) := by decide +kernel
theorem dX4_sorted_6 : decode cX4_sorted 6 = .ok (.aload_n 3, 1) := by decide +kernel
theorem dX4_sorted_7 : decode cX4_sorted 7 = .ok (.ifnonnull 8, 3) := by decide +kernel
theorem dX4_sorted_10 : decode cX4_sorted 10 = .ok (.bipush (-5), 2) := by decide +kernel
theorem dX4_sorted_12 : decode cX4_sorted 12 = .ok (.goto 11, 3) := by decide +kernel
theorem dX4_sorted_15 : decode cX4_sorted 15 = .ok (.aload_n 3, 1) := by decide +kernel
theorem dX4_sorted_16 : decode cX4_sorted 16 = .ok (.getfield 123, 3) := by decide +kernel
theorem dX4_sorted_19 : decode cX4_sorted 19 = .ok (.iload_n 2, 1) := by decide +kernel
theorem dX4_sorted_20 : decode cX4_sorted 20 = .ok (.invokevirtual 70, 3) := by decide +kernel
theorem dX4_sorted_23 : decode cX4_sorted 23 = .ok (.ireturn, 1) := by decide +kernel
theorem dX4_letter_0 : decode cX4_letter 0 = .ok (.iload_n 2, 1) := by decide +kernel
theorem dX4_letter_1 : decode cX4_letter 1 = .ok (.ifCond .eq 18, 3) := by decide +kernel
theorem dX4_letter_4 : decode cX4_letter 4 = .ok (.iload_n 2, 1) := by decide +kernel
theorem dX4_letter_5 : decode cX4_letter 5 = .ok (.iconst 1, 1) := by decide +kernel
theorem dX4_letter_6 : decode cX4_letter 6 = .ok (.if_icmp .eq 13, 3) := by decide +kernel
theorem dX4_letter_9 : decode cX4_letter 9 = .ok (.new 39, 3) := by decide +kernel
theorem dX4_letter_12 : decode cX4_letter 12 = .ok (.dup, 1) := by decide +kernel
theorem dX4_letter_13 : decode cX4_letter 13 = .ok (.ldc 126, 2) := by decide +kernel
theorem dX4_letter_15 : decode cX4_letter 15 = .ok (.invokespecial 43, 3) := by decide +kernel
theorem dX4_letter_18 : decode cX4_letter 18 = .ok (.athrow, 1) := by decide +kernel
theorem dX4_letter_19 : decode cX4_letter 19 = .ok (.aload_n 0, 1) := by decide +kernel
theorem dX4_letter_20 : decode cX4_letter 20 = .ok (.iload_n 1, 1) := by decide +kernel
theorem dX4_letter_21 : decode cX4_letter 21 = .ok (.invokevirtual 88, 3) := by decide +kernel
theorem dX4_letter_24 : decode cX4_letter 24 = .ok (.astore 4, 2) := by decide +kernel
theorem dX4_letter_26 : decode cX4_letter 26 = .ok (.aload 4, 2) := by decide +kernel
theorem dX4_letter_28 : decode cX4_letter 28 = .ok (.ifnonnull 6, 3) := by decide +kernel
theorem dX4_letter_31 : decode cX4_letter 31 = .ok (.bipush (-5), 2) := by decide +kernel
theorem dX4_letter_33 : decode cX4_letter 33 = .ok (.ireturn, 1) := by decide +kernel
theorem dX4_letter_34 : decode cX4_letter 34 = .ok (.iload_n 2, 1) := by decide +kernel
theorem dX4_letter_35 : decode cX4_letter 35 = .ok (.ifCond .ne 15, 3) := by decide +kernel
theorem dX4_letter_38 : decode cX4_letter 38 = .ok (.aload 4, 2) := by decide +kernel
theorem dX4_letter_40 : decode cX4_letter 40 = .ok (.getfield 111, 3) := by decide +kernel
theorem dX4_letter_43 : decode cX4_letter 43 = .ok (.iload_n 3, 1) := by decide +kernel
theorem dX4_letter_44 : decode cX4_letter 44 = .ok (.invokevirtual 70, 3) := by decide +kernel
theorem dX4_letter_47 : decode cX4_letter 47 = .ok (.goto 12, 3) := by decide +kernel
theorem dX4_letter_50 : decode cX4_letter 50 = .ok (.aload 4, 2) := by decide +kernel
theorem dX4_letter_52 : decode cX4_letter 52 = .ok (.getfield 114, 3) := by decide +kernel
theorem dX4_letter_55 : decode cX4_letter 55 = .ok (.iload_n 3, 1) := by decide +kernel
theorem dX4_letter_56 : decode cX4_letter 56 = .ok (.invokevirtual 70, 3) := by decide +kernel
theorem dX4_letter_59 : decode cX4_letter 59 = .ok (.ireturn, 1) := by decide +kernel
theorem dX4_nodes_0 : decode cX4_nodes 0 = .ok (.aload_n 0, 1) := by decide +kernel
theorem dX4_nodes_1 : decode cX4_nodes 1 = .ok (.getfield 35, 3) := by decide +kernel
theorem dX4_nodes_4 : decode cX4_nodes 4 = .ok (.ireturn, 1) := by decide +kernel
theorem dX4_putFromTape_0 : decode cX4_putFromTape 0 = .ok (.aload_n 0, 1) := by decide +kernel
theorem dX4_putFromTape_1 : decode cX4_putFromTape 1 = .ok (.iload_n 1, 1) := by decide +kernel
theorem dX4_putFromTape_2 : decode cX4_putFromTape 2 = .ok (.invokevirtual 120, 3) := by decide +kernel
theorem dX4_putFromTape_5 : decode cX4_putFromTape 5 = .ok (.astore_n 3, 1) := by decide +kernel
theorem dX4_putFromTape_6 : decode cX4_putFromTape 6 = .ok (.aload_n 3, 1) := by decide +kernel
theorem dX4_putFromTape_7 : decode cX4_putFromTape 7 = .ok (.ifnonnull 6, 3) := by decide +kernel
theorem dX4_putFromTape_10 : decode cX4_putFromTape 10 = .ok (.bipush (-5), 2) := by decide +kernel
theorem dX4_putFromTape_12 : decode cX4_putFromTape 12 = .ok (.ireturn, 1) := by decide +kernel
theorem dX4_putFromTape_13 : decode cX4_putFromTape 13 = .ok (.aload_n 0, 1) := by decide +kernel
theorem dX4_putFromTape_14 : decode cX4_putFromTape 14 = .ok (.iconst 0, 1) := by decide +kernel
theorem dX4_putFromTape_15 : decode cX4_putFromTape 15 = .ok (.aload_n 0, 1) := by decide +kernel
theorem dX4_putFromTape_16 : decode cX4_putFromTape 16 = .ok (.getfield 14, 3) := by decide +kernel
theorem dX4_putFromTape_19 : decode cX4_putFromTape 19 = .ok (.invokevirtual 46, 3) := by decide +kernel
theorem dX4_putFromTape_22 : decode cX4_putFromTape 22 = .ok (.invokevirtual 128, 3) := by decide +kernel
theorem dX4_putFromTape_25 : decode cX4_putFromTape 25 = .ok (.ifCond .ne 6, 3) := by decide +kernel
theorem dX4_putFromTape_28 : decode cX4_putFromTape 28 = .ok (.bipush (-2), 2) := by decide +kernel
theorem dX4_putFromTape_30 : decode cX4_putFromTape 30 = .ok (.ireturn, 1) := by decide +kernel
theorem dX4_putFromTape_31 : decode cX4_putFromTape 31 = .ok (.aload_n 0, 1) := by decide +kernel
theorem dX4_putFromTape_32 : decode cX4_putFromTape 32 = .ok (.aload_n 3, 1) := by decide +kernel
theorem dX4_putFromTape_33 : decode cX4_putFromTape 33 = .ok (.invokevirtual 132, 3) := by decide +kernel
theorem dX4_putFromTape_36 : decode cX4_putFromTape 36 = .ok (.iconst (-1), 1) := by decide +kernel
theorem dX4_putFromTape_37 : decode cX4_putFromTape 37 = .ok (.if_icmp .eq 6, 3) := by decide +kernel
theorem dX4_putFromTape_40 : decode cX4_putFromTape 40 = .ok (.bipush (-3), 2) := by decide +kernel
theorem dX4_putFromTape_42 : decode cX4_putFromTape 42 = .ok (.ireturn, 1) := by decide +kernel
theorem dX4_putFromTape_43 : decode cX4_putFromTape 43 = .ok (.aload_n 0, 1) := by decide +kernel
theorem dX4_putFromTape_44 : decode cX4_putFromTape 44 = .ok (.invokevirtual 136, 3) := by decide +kernel
theorem dX4_putFromTape_47 : decode cX4_putFromTape 47 = .ok (.istore 4, 2) := by decide +kernel
theorem dX4_putFromTape_49 : decode cX4_putFromTape 49 = .ok (.iload 4, 2) := by decide +kernel
theorem dX4_putFromTape_51 : decode cX4_putFromTape 51 = .ok (.iconst (-1), 1) := by decide +kernel
theorem dX4_putFromTape_52 : decode cX4_putFromTape 52 = .ok (.if_icmp .eq 15, 3) := by decide +kernel
theorem dX4_putFromTape_55 : decode cX4_putFromTape 55 = .ok (.aload_n 3, 1) := by decide +kernel
theorem dX4_putFromTape_56 : decode cX4_putFromTape 56 = .ok (.getfield 92, 3) := by decide +kernel
theorem dX4_putFromTape_59 : decode cX4_putFromTape 59 = .ok (.invokevirtual 46, 3) := by decide +kernel
theorem dX4_putFromTape_62 : decode cX4_putFromTape 62 = .ok (.bipush 40, 2) := by decide +kernel
theorem dX4_putFromTape_64 : decode cX4_putFromTape 64 = .ok (.if_icmp .lt 6, 3) := by decide +kernel
theorem dX4_putFromTape_67 : decode cX4_putFromTape 67 = .ok (.bipush (-4), 2) := by decide +kernel
theorem dX4_putFromTape_69 : decode cX4_putFromTape 69 = .ok (.ireturn, 1) := by decide +kernel
theorem dX4_putFromTape_70 : decode cX4_putFromTape 70 = .ok (.aload_n 0, 1) := by decide +kernel
theorem dX4_putFromTape_71 : decode cX4_putFromTape 71 = .ok (.getfield 26, 3) := by decide +kernel
theorem dX4_putFromTape_74 : decode cX4_putFromTape 74 = .ok (.iload 4, 2) := by decide +kernel
theorem dX4_putFromTape_76 : decode cX4_putFromTape 76 = .ok (.aaload, 1) := by decide +kernel
theorem dX4_putFromTape_77 : decode cX4_putFromTape 77 = .ok (.astore 5, 2) := by decide +kernel
theorem dX4_putFromTape_79 : decode cX4_putFromTape 79 = .ok (.aload 5, 2) := by decide +kernel
theorem dX4_putFromTape_81 : decode cX4_putFromTape 81 = .ok (.ifnonnull 21, 3) := by decide +kernel
theorem dX4_putFromTape_84 : decode cX4_putFromTape 84 = .ok (.new 24, 3) := by decide +kernel
theorem dX4_putFromTape_87 : decode cX4_putFromTape 87 = .ok (.dup, 1) := by decide +kernel
theorem dX4_putFromTape_88 : decode cX4_putFromTape 88 = .ok (.invokespecial 30, 3) := by decide +kernel
theorem dX4_putFromTape_91 : decode cX4_putFromTape 91 = .ok (.astore 5, 2) := by decide +kernel
theorem dX4_putFromTape_93 : decode cX4_putFromTape 93 = .ok (.aload_n 0, 1) := by decide +kernel
theorem dX4_putFromTape_94 : decode cX4_putFromTape 94 = .ok (.getfield 26, 3) := by decide +kernel
theorem dX4_putFromTape_97 : decode cX4_putFromTape 97 = .ok (.iload 4, 2) := by decide +kernel
theorem dX4_putFromTape_99 : decode cX4_putFromTape 99 = .ok (.aload 5, 2) := by decide +kernel
theorem dX4_putFromTape_101 : decode cX4_putFromTape 101 = .ok (.aastore, 1) := by decide +kernel
theorem dX4_putFromTape_102 : decode cX4_putFromTape 102 = .ok (.aload 5, 2) := by decide +kernel
theorem dX4_putFromTape_104 : decode cX4_putFromTape 104 = .ok (.iload_n 2, 1) := by decide +kernel
theorem dX4_putFromTape_105 : decode cX4_putFromTape 105 = .ok (.invokevirtual 31, 3) := by decide +kernel
theorem dX4_putFromTape_108 : decode cX4_putFromTape 108 = .ok (.aload 5, 2) := by decide +kernel
theorem dX4_putFromTape_110 : decode cX4_putFromTape 110 = .ok (.aload_n 0, 1) := by decide +kernel
theorem dX4_putFromTape_111 : decode cX4_putFromTape 111 = .ok (.getfield 14, 3) := by decide +kernel
theorem dX4_putFromTape_114 : decode cX4_putFromTape 114 = .ok (.aload_n 0, 1) := by decide +kernel
theorem dX4_putFromTape_115 : decode cX4_putFromTape 115 = .ok (.getfield 21, 3) := by decide +kernel
theorem dX4_putFromTape_118 : decode cX4_putFromTape 118 = .ok (.invokevirtual 139, 3) := by decide +kernel
theorem dX4_putFromTape_121 : decode cX4_putFromTape 121 = .ok (.aload_n 0, 1) := by decide +kernel
theorem dX4_putFromTape_122 : decode cX4_putFromTape 122 = .ok (.iload 4, 2) := by decide +kernel
theorem dX4_putFromTape_124 : decode cX4_putFromTape 124 = .ok (.aload 5, 2) := by decide +kernel
theorem dX4_putFromTape_126 : decode cX4_putFromTape 126 = .ok (.iload_n 1, 1) := by decide +kernel
theorem dX4_putFromTape_127 : decode cX4_putFromTape 127 = .ok (.aload_n 3, 1) := by decide +kernel
theorem dX4_putFromTape_128 : decode cX4_putFromTape 128 = .ok (.invokevirtual 143, 3) := by decide +kernel
theorem dX4_putFromTape_131 : decode cX4_putFromTape 131 = .ok (.aload_n 0, 1) := by decide +kernel
theorem dX4_putFromTape_132 : decode cX4_putFromTape 132 = .ok (.dup, 1) := by decide +kernel
theorem dX4_putFromTape_133 : decode cX4_putFromTape 133 = .ok (.getfield 35, 3) := by decide +kernel
theorem dX4_putFromTape_136 : decode cX4_putFromTape 136 = .ok (.iconst 1, 1) := by decide +kernel
theorem dX4_putFromTape_137 : decode cX4_putFromTape 137 = .ok (.iadd, 1) := by decide +kernel
theorem dX4_putFromTape_138 : decode cX4_putFromTape 138 = .ok (.putfield 35, 3) := by decide +kernel
theorem dX4_putFromTape_141 : decode cX4_putFromTape 141 = .ok (.iload 4, 2) := by decide +kernel
theorem dX4_putFromTape_143 : decode cX4_putFromTape 143 = .ok (.ireturn, 1) := by decide +kernel
theorem dX4_findFromTape_0 : decode cX4_findFromTape 0 = .ok (.aload_n 0, 1) := by decide +kernel
theorem dX4_findFromTape_1 : decode cX4_findFromTape 1 = .ok (.iload_n 1, 1) := by decide +kernel
theorem dX4_findFromTape_2 : decode cX4_findFromTape 2 = .ok (.invokevirtual 120, 3) := by decide +kernel
theorem dX4_findFromTape_5 : decode cX4_findFromTape 5 = .ok (.astore_n 2, 1) := by decide +kernel
theorem dX4_findFromTape_6 : decode cX4_findFromTape 6 = .ok (.aload_n 2, 1) := by decide +kernel
theorem dX4_findFromTape_7 : decode cX4_findFromTape 7 = .ok (.ifnonnull 6, 3) := by decide +kernel
theorem dX4_findFromTape_10 : decode cX4_findFromTape 10 = .ok (.bipush (-5), 2) := by decide +kernel
theorem dX4_findFromTape_12 : decode cX4_findFromTape 12 = .ok (.ireturn, 1) := by decide +kernel
theorem dX4_findFromTape_13 : decode cX4_findFromTape 13 = .ok (.aload_n 0, 1) := by decide +kernel
theorem dX4_findFromTape_14 : decode cX4_findFromTape 14 = .ok (.iconst 0, 1) := by decide +kernel
theorem dX4_findFromTape_15 : decode cX4_findFromTape 15 = .ok (.aload_n 0, 1) := by decide +kernel
theorem dX4_findFromTape_16 : decode cX4_findFromTape 16 = .ok (.getfield 14, 3) := by decide +kernel
theorem dX4_findFromTape_19 : decode cX4_findFromTape 19 = .ok (.invokevirtual 46, 3) := by decide +kernel
theorem dX4_findFromTape_22 : decode cX4_findFromTape 22 = .ok (.invokevirtual 128, 3) := by decide +kernel
theorem dX4_findFromTape_25 : decode cX4_findFromTape 25 = .ok (.ifCond .eq 11, 3) := by decide +kernel
theorem dX4_findFromTape_28 : decode cX4_findFromTape 28 = .ok (.aload_n 0, 1) := by decide +kernel
theorem dX4_findFromTape_29 : decode cX4_findFromTape 29 = .ok (.aload_n 2, 1) := by decide +kernel
theorem dX4_findFromTape_30 : decode cX4_findFromTape 30 = .ok (.invokevirtual 132, 3) := by decide +kernel
theorem dX4_findFromTape_33 : decode cX4_findFromTape 33 = .ok (.goto 5, 3) := by decide +kernel
theorem dX4_findFromTape_36 : decode cX4_findFromTape 36 = .ok (.bipush (-2), 2) := by decide +kernel
theorem dX4_findFromTape_38 : decode cX4_findFromTape 38 = .ok (.ireturn, 1) := by decide +kernel
theorem dX4_walkFromTape_0 : decode cX4_walkFromTape 0 = .ok (.aload_n 0, 1) := by decide +kernel
theorem dX4_walkFromTape_1 : decode cX4_walkFromTape 1 = .ok (.iload_n 1, 1) := by decide +kernel
theorem dX4_walkFromTape_2 : decode cX4_walkFromTape 2 = .ok (.invokevirtual 88, 3) := by decide +kernel
theorem dX4_walkFromTape_5 : decode cX4_walkFromTape 5 = .ok (.ifnonnull 6, 3) := by decide +kernel
theorem dX4_walkFromTape_8 : decode cX4_walkFromTape 8 = .ok (.bipush (-5), 2) := by decide +kernel
theorem dX4_walkFromTape_10 : decode cX4_walkFromTape 10 = .ok (.ireturn, 1) := by decide +kernel
theorem dX4_walkFromTape_11 : decode cX4_walkFromTape 11 = .ok (.aload_n 0, 1) := by decide +kernel
theorem dX4_walkFromTape_12 : decode cX4_walkFromTape 12 = .ok (.getfield 14, 3) := by decide +kernel
theorem dX4_walkFromTape_15 : decode cX4_walkFromTape 15 = .ok (.iconst 0, 1) := by decide +kernel
theorem dX4_walkFromTape_16 : decode cX4_walkFromTape 16 = .ok (.invokevirtual 70, 3) := by decide +kernel
theorem dX4_walkFromTape_19 : decode cX4_walkFromTape 19 = .ok (.bipush 47, 2) := by decide +kernel
theorem dX4_walkFromTape_21 : decode cX4_walkFromTape 21 = .ok (.if_icmp .ne 7, 3) := by decide +kernel
theorem dX4_walkFromTape_24 : decode cX4_walkFromTape 24 = .ok (.iconst 0, 1) := by decide +kernel
theorem dX4_walkFromTape_25 : decode cX4_walkFromTape 25 = .ok (.goto 4, 3) := by decide +kernel
theorem dX4_walkFromTape_28 : decode cX4_walkFromTape 28 = .ok (.iload_n 1, 1) := by decide +kernel
theorem dX4_walkFromTape_29 : decode cX4_walkFromTape 29 = .ok (.istore_n 2, 1) := by decide +kernel
theorem dX4_walkFromTape_30 : decode cX4_walkFromTape 30 = .ok (.iconst 0, 1) := by decide +kernel
theorem dX4_walkFromTape_31 : decode cX4_walkFromTape 31 = .ok (.istore_n 3, 1) := by decide +kernel
theorem dX4_walkFromTape_32 : decode cX4_walkFromTape 32 = .ok (.iconst 0, 1) := by decide +kernel
theorem dX4_walkFromTape_33 : decode cX4_walkFromTape 33 = .ok (.istore 4, 2) := by decide +kernel
theorem dX4_walkFromTape_35 : decode cX4_walkFromTape 35 = .ok (.iload 4, 2) := by decide +kernel
theorem dX4_walkFromTape_37 : decode cX4_walkFromTape 37 = .ok (.aload_n 0, 1) := by decide +kernel
theorem dX4_walkFromTape_38 : decode cX4_walkFromTape 38 = .ok (.getfield 14, 3) := by decide +kernel
theorem dX4_walkFromTape_41 : decode cX4_walkFromTape 41 = .ok (.invokevirtual 46, 3) := by decide +kernel
theorem dX4_walkFromTape_44 : decode cX4_walkFromTape 44 = .ok (.if_icmp .gt 78, 3) := by decide +kernel
theorem dX4_walkFromTape_47 : decode cX4_walkFromTape 47 = .ok (.iload 4, 2) := by decide +kernel
theorem dX4_walkFromTape_49 : decode cX4_walkFromTape 49 = .ok (.aload_n 0, 1) := by decide +kernel
theorem dX4_walkFromTape_50 : decode cX4_walkFromTape 50 = .ok (.getfield 14, 3) := by decide +kernel
theorem dX4_walkFromTape_53 : decode cX4_walkFromTape 53 = .ok (.invokevirtual 46, 3) := by decide +kernel
theorem dX4_walkFromTape_56 : decode cX4_walkFromTape 56 = .ok (.if_icmp .eq 17, 3) := by decide +kernel
theorem dX4_walkFromTape_59 : decode cX4_walkFromTape 59 = .ok (.aload_n 0, 1) := by decide +kernel
theorem dX4_walkFromTape_60 : decode cX4_walkFromTape 60 = .ok (.getfield 14, 3) := by decide +kernel
theorem dX4_walkFromTape_63 : decode cX4_walkFromTape 63 = .ok (.iload 4, 2) := by decide +kernel
theorem dX4_walkFromTape_65 : decode cX4_walkFromTape 65 = .ok (.invokevirtual 70, 3) := by decide +kernel
theorem dX4_walkFromTape_68 : decode cX4_walkFromTape 68 = .ok (.bipush 47, 2) := by decide +kernel
theorem dX4_walkFromTape_70 : decode cX4_walkFromTape 70 = .ok (.if_icmp .ne 7, 3) := by decide +kernel
theorem dX4_walkFromTape_73 : decode cX4_walkFromTape 73 = .ok (.iconst 1, 1) := by decide +kernel
theorem dX4_walkFromTape_74 : decode cX4_walkFromTape 74 = .ok (.goto 4, 3) := by decide +kernel
theorem dX4_walkFromTape_77 : decode cX4_walkFromTape 77 = .ok (.iconst 0, 1) := by decide +kernel
theorem dX4_walkFromTape_78 : decode cX4_walkFromTape 78 = .ok (.istore 5, 2) := by decide +kernel
theorem dX4_walkFromTape_80 : decode cX4_walkFromTape 80 = .ok (.iload 5, 2) := by decide +kernel
theorem dX4_walkFromTape_82 : decode cX4_walkFromTape 82 = .ok (.ifCond .eq 24, 3) := by decide +kernel
theorem dX4_walkFromTape_85 : decode cX4_walkFromTape 85 = .ok (.iload 4, 2) := by decide +kernel
theorem dX4_walkFromTape_87 : decode cX4_walkFromTape 87 = .ok (.iload_n 3, 1) := by decide +kernel
theorem dX4_walkFromTape_88 : decode cX4_walkFromTape 88 = .ok (.if_icmp .le 18, 3) := by decide +kernel
theorem dX4_walkFromTape_91 : decode cX4_walkFromTape 91 = .ok (.aload_n 0, 1) := by decide +kernel
theorem dX4_walkFromTape_92 : decode cX4_walkFromTape 92 = .ok (.iload_n 2, 1) := by decide +kernel
theorem dX4_walkFromTape_93 : decode cX4_walkFromTape 93 = .ok (.iload_n 3, 1) := by decide +kernel
theorem dX4_walkFromTape_94 : decode cX4_walkFromTape 94 = .ok (.iload 4, 2) := by decide +kernel
theorem dX4_walkFromTape_96 : decode cX4_walkFromTape 96 = .ok (.invokevirtual 147, 3) := by decide +kernel
theorem dX4_walkFromTape_99 : decode cX4_walkFromTape 99 = .ok (.istore_n 2, 1) := by decide +kernel
theorem dX4_walkFromTape_100 : decode cX4_walkFromTape 100 = .ok (.iload_n 2, 1) := by decide +kernel
theorem dX4_walkFromTape_101 : decode cX4_walkFromTape 101 = .ok (.ifCond .ge 5, 3) := by decide +kernel
theorem dX4_walkFromTape_104 : decode cX4_walkFromTape 104 = .ok (.iload_n 2, 1) := by decide +kernel
theorem dX4_walkFromTape_105 : decode cX4_walkFromTape 105 = .ok (.ireturn, 1) := by decide +kernel
theorem dX4_walkFromTape_106 : decode cX4_walkFromTape 106 = .ok (.iload 5, 2) := by decide +kernel
theorem dX4_walkFromTape_108 : decode cX4_walkFromTape 108 = .ok (.ifCond .eq 8, 3) := by decide +kernel
theorem dX4_walkFromTape_111 : decode cX4_walkFromTape 111 = .ok (.iload 4, 2) := by decide +kernel
theorem dX4_walkFromTape_113 : decode cX4_walkFromTape 113 = .ok (.iconst 1, 1) := by decide +kernel
theorem dX4_walkFromTape_114 : decode cX4_walkFromTape 114 = .ok (.iadd, 1) := by decide +kernel
theorem dX4_walkFromTape_115 : decode cX4_walkFromTape 115 = .ok (.istore_n 3, 1) := by decide +kernel
theorem dX4_walkFromTape_116 : decode cX4_walkFromTape 116 = .ok (.iinc 4 1, 3) := by decide +kernel
theorem dX4_walkFromTape_119 : decode cX4_walkFromTape 119 = .ok (.goto (-84), 3) := by decide +kernel
theorem dX4_walkFromTape_122 : decode cX4_walkFromTape 122 = .ok (.iload_n 2, 1) := by decide +kernel
theorem dX4_walkFromTape_123 : decode cX4_walkFromTape 123 = .ok (.ireturn, 1) := by decide +kernel
theorem dX4_stepFrom_0 : decode cX4_stepFrom 0 = .ok (.aload_n 0, 1) := by decide +kernel
theorem dX4_stepFrom_1 : decode cX4_stepFrom 1 = .ok (.iload_n 1, 1) := by decide +kernel
theorem dX4_stepFrom_2 : decode cX4_stepFrom 2 = .ok (.invokevirtual 88, 3) := by decide +kernel
theorem dX4_stepFrom_5 : decode cX4_stepFrom 5 = .ok (.astore 4, 2) := by decide +kernel
theorem dX4_stepFrom_7 : decode cX4_stepFrom 7 = .ok (.aload 4, 2) := by decide +kernel
theorem dX4_stepFrom_9 : decode cX4_stepFrom 9 = .ok (.ifnonnull 6, 3) := by decide +kernel
theorem dX4_stepFrom_12 : decode cX4_stepFrom 12 = .ok (.bipush (-5), 2) := by decide +kernel
theorem dX4_stepFrom_14 : decode cX4_stepFrom 14 = .ok (.ireturn, 1) := by decide +kernel
theorem dX4_stepFrom_15 : decode cX4_stepFrom 15 = .ok (.aload_n 0, 1) := by decide +kernel
theorem dX4_stepFrom_16 : decode cX4_stepFrom 16 = .ok (.getfield 14, 3) := by decide +kernel
theorem dX4_stepFrom_19 : decode cX4_stepFrom 19 = .ok (.iload_n 2, 1) := by decide +kernel
theorem dX4_stepFrom_20 : decode cX4_stepFrom 20 = .ok (.iload_n 3, 1) := by decide +kernel
theorem dX4_stepFrom_21 : decode cX4_stepFrom 21 = .ok (.invokestatic 151, 3) := by decide +kernel
theorem dX4_stepFrom_24 : decode cX4_stepFrom 24 = .ok (.istore 5, 2) := by decide +kernel
theorem dX4_stepFrom_26 : decode cX4_stepFrom 26 = .ok (.iload 5, 2) := by decide +kernel
theorem dX4_stepFrom_28 : decode cX4_stepFrom 28 = .ok (.ifCond .ne 15, 3) := by decide +kernel
theorem dX4_stepFrom_31 : decode cX4_stepFrom 31 = .ok (.aload_n 0, 1) := by decide +kernel
theorem dX4_stepFrom_32 : decode cX4_stepFrom 32 = .ok (.iload_n 2, 1) := by decide +kernel
theorem dX4_stepFrom_33 : decode cX4_stepFrom 33 = .ok (.iload_n 3, 1) := by decide +kernel
theorem dX4_stepFrom_34 : decode cX4_stepFrom 34 = .ok (.invokevirtual 128, 3) := by decide +kernel
theorem dX4_stepFrom_37 : decode cX4_stepFrom 37 = .ok (.ifCond .ne 6, 3) := by decide +kernel
theorem dX4_stepFrom_40 : decode cX4_stepFrom 40 = .ok (.bipush (-2), 2) := by decide +kernel
theorem dX4_stepFrom_42 : decode cX4_stepFrom 42 = .ok (.ireturn, 1) := by decide +kernel
theorem dX4_stepFrom_43 : decode cX4_stepFrom 43 = .ok (.aload 4, 2) := by decide +kernel
theorem dX4_stepFrom_45 : decode cX4_stepFrom 45 = .ok (.getfield 108, 3) := by decide +kernel
theorem dX4_stepFrom_48 : decode cX4_stepFrom 48 = .ok (.ifCond .ne 5, 3) := by decide +kernel
theorem dX4_stepFrom_51 : decode cX4_stepFrom 51 = .ok (.iconst (-1), 1) := by decide +kernel
theorem dX4_stepFrom_52 : decode cX4_stepFrom 52 = .ok (.ireturn, 1) := by decide +kernel
theorem dX4_stepFrom_53 : decode cX4_stepFrom 53 = .ok (.iload 5, 2) := by decide +kernel
theorem dX4_stepFrom_55 : decode cX4_stepFrom 55 = .ok (.ifCond .ne 10, 3) := by decide +kernel
theorem dX4_stepFrom_58 : decode cX4_stepFrom 58 = .ok (.aload_n 0, 1) := by decide +kernel
theorem dX4_stepFrom_59 : decode cX4_stepFrom 59 = .ok (.aload 4, 2) := by decide +kernel
theorem dX4_stepFrom_61 : decode cX4_stepFrom 61 = .ok (.invokevirtual 132, 3) := by decide +kernel
theorem dX4_stepFrom_64 : decode cX4_stepFrom 64 = .ok (.ireturn, 1) := by decide +kernel
theorem dX4_stepFrom_65 : decode cX4_stepFrom 65 = .ok (.iload_n 3, 1) := by decide +kernel
theorem dX4_stepFrom_66 : decode cX4_stepFrom 66 = .ok (.iload_n 2, 1) := by decide +kernel
theorem dX4_stepFrom_67 : decode cX4_stepFrom 67 = .ok (.isub, 1) := by decide +kernel
theorem dX4_stepFrom_68 : decode cX4_stepFrom 68 = .ok (.iconst 1, 1) := by decide +kernel
theorem dX4_stepFrom_69 : decode cX4_stepFrom 69 = .ok (.if_icmp .eq 7, 3) := by decide +kernel
theorem dX4_stepFrom_72 : decode cX4_stepFrom 72 = .ok (.iload_n 1, 1) := by decide +kernel
theorem dX4_stepFrom_73 : decode cX4_stepFrom 73 = .ok (.ifCond .ne 7, 3) := by decide +kernel
theorem dX4_stepFrom_76 : decode cX4_stepFrom 76 = .ok (.iload_n 1, 1) := by decide +kernel
theorem dX4_stepFrom_77 : decode cX4_stepFrom 77 = .ok (.goto 8, 3) := by decide +kernel
theorem dX4_stepFrom_80 : decode cX4_stepFrom 80 = .ok (.aload 4, 2) := by decide +kernel
theorem dX4_stepFrom_82 : decode cX4_stepFrom 82 = .ok (.getfield 95, 3) := by decide +kernel
theorem dX4_stepFrom_85 : decode cX4_stepFrom 85 = .ok (.ireturn, 1) := by decide +kernel
theorem dX4_moveFromTape_0 : decode cX4_moveFromTape 0 = .ok (.aload_n 0, 1) := by decide +kernel
theorem dX4_moveFromTape_1 : decode cX4_moveFromTape 1 = .ok (.iload_n 1, 1) := by decide +kernel
theorem dX4_moveFromTape_2 : decode cX4_moveFromTape 2 = .ok (.invokevirtual 88, 3) := by decide +kernel
theorem dX4_moveFromTape_5 : decode cX4_moveFromTape 5 = .ok (.astore_n 3, 1) := by decide +kernel
theorem dX4_moveFromTape_6 : decode cX4_moveFromTape 6 = .ok (.aload_n 0, 1) := by decide +kernel
theorem dX4_moveFromTape_7 : decode cX4_moveFromTape 7 = .ok (.iload_n 2, 1) := by decide +kernel
theorem dX4_moveFromTape_8 : decode cX4_moveFromTape 8 = .ok (.invokevirtual 120, 3) := by decide +kernel
theorem dX4_moveFromTape_11 : decode cX4_moveFromTape 11 = .ok (.astore 4, 2) := by decide +kernel
theorem dX4_moveFromTape_13 : decode cX4_moveFromTape 13 = .ok (.aload_n 3, 1) := by decide +kernel
theorem dX4_moveFromTape_14 : decode cX4_moveFromTape 14 = .ok (.ifnull 12, 3) := by decide +kernel
theorem dX4_moveFromTape_17 : decode cX4_moveFromTape 17 = .ok (.iload_n 1, 1) := by decide +kernel
theorem dX4_moveFromTape_18 : decode cX4_moveFromTape 18 = .ok (.ifCond .eq 8, 3) := by decide +kernel
theorem dX4_moveFromTape_21 : decode cX4_moveFromTape 21 = .ok (.aload 4, 2) := by decide +kernel
theorem dX4_moveFromTape_23 : decode cX4_moveFromTape 23 = .ok (.ifnonnull 6, 3) := by decide +kernel
theorem dX4_moveFromTape_26 : decode cX4_moveFromTape 26 = .ok (.bipush (-5), 2) := by decide +kernel
theorem dX4_moveFromTape_28 : decode cX4_moveFromTape 28 = .ok (.ireturn, 1) := by decide +kernel
theorem dX4_moveFromTape_29 : decode cX4_moveFromTape 29 = .ok (.aload_n 0, 1) := by decide +kernel
theorem dX4_moveFromTape_30 : decode cX4_moveFromTape 30 = .ok (.getfield 14, 3) := by decide +kernel
theorem dX4_moveFromTape_33 : decode cX4_moveFromTape 33 = .ok (.invokevirtual 46, 3) := by decide +kernel
theorem dX4_moveFromTape_36 : decode cX4_moveFromTape 36 = .ok (.ifCond .le 7, 3) := by decide +kernel
theorem dX4_moveFromTape_39 : decode cX4_moveFromTape 39 = .ok (.iconst 1, 1) := by decide +kernel
theorem dX4_moveFromTape_40 : decode cX4_moveFromTape 40 = .ok (.goto 4, 3) := by decide +kernel
theorem dX4_moveFromTape_43 : decode cX4_moveFromTape 43 = .ok (.iconst 0, 1) := by decide +kernel
theorem dX4_moveFromTape_44 : decode cX4_moveFromTape 44 = .ok (.istore 5, 2) := by decide +kernel
theorem dX4_moveFromTape_46 : decode cX4_moveFromTape 46 = .ok (.iload 5, 2) := by decide +kernel
theorem dX4_moveFromTape_48 : decode cX4_moveFromTape 48 = .ok (.ifCond .ne 17, 3) := by decide +kernel
theorem dX4_moveFromTape_51 : decode cX4_moveFromTape 51 = .ok (.aload_n 0, 1) := by decide +kernel
theorem dX4_moveFromTape_52 : decode cX4_moveFromTape 52 = .ok (.getfield 21, 3) := by decide +kernel
theorem dX4_moveFromTape_55 : decode cX4_moveFromTape 55 = .ok (.aload_n 3, 1) := by decide +kernel
theorem dX4_moveFromTape_56 : decode cX4_moveFromTape 56 = .ok (.getfield 114, 3) := by decide +kernel
theorem dX4_moveFromTape_59 : decode cX4_moveFromTape 59 = .ok (.invokevirtual 155, 3) := by decide +kernel
theorem dX4_moveFromTape_62 : decode cX4_moveFromTape 62 = .ok (.goto 21, 3) := by decide +kernel
theorem dX4_moveFromTape_65 : decode cX4_moveFromTape 65 = .ok (.aload_n 0, 1) := by decide +kernel
theorem dX4_moveFromTape_66 : decode cX4_moveFromTape 66 = .ok (.iconst 0, 1) := by decide +kernel
theorem dX4_moveFromTape_67 : decode cX4_moveFromTape 67 = .ok (.aload_n 0, 1) := by decide +kernel
theorem dX4_moveFromTape_68 : decode cX4_moveFromTape 68 = .ok (.getfield 14, 3) := by decide +kernel
theorem dX4_moveFromTape_71 : decode cX4_moveFromTape 71 = .ok (.invokevirtual 46, 3) := by decide +kernel
theorem dX4_moveFromTape_74 : decode cX4_moveFromTape 74 = .ok (.invokevirtual 128, 3) := by decide +kernel
theorem dX4_moveFromTape_77 : decode cX4_moveFromTape 77 = .ok (.ifCond .ne 6, 3) := by decide +kernel
theorem dX4_moveFromTape_80 : decode cX4_moveFromTape 80 = .ok (.bipush (-2), 2) := by decide +kernel
theorem dX4_moveFromTape_82 : decode cX4_moveFromTape 82 = .ok (.ireturn, 1) := by decide +kernel
theorem dX4_moveFromTape_83 : decode cX4_moveFromTape 83 = .ok (.aload_n 0, 1) := by decide +kernel
theorem dX4_moveFromTape_84 : decode cX4_moveFromTape 84 = .ok (.aload 4, 2) := by decide +kernel
theorem dX4_moveFromTape_86 : decode cX4_moveFromTape 86 = .ok (.invokevirtual 132, 3) := by decide +kernel
theorem dX4_moveFromTape_89 : decode cX4_moveFromTape 89 = .ok (.istore 6, 2) := by decide +kernel
theorem dX4_moveFromTape_91 : decode cX4_moveFromTape 91 = .ok (.iload 6, 2) := by decide +kernel
theorem dX4_moveFromTape_93 : decode cX4_moveFromTape 93 = .ok (.iconst (-1), 1) := by decide +kernel
theorem dX4_moveFromTape_94 : decode cX4_moveFromTape 94 = .ok (.if_icmp .eq 12, 3) := by decide +kernel
theorem dX4_moveFromTape_97 : decode cX4_moveFromTape 97 = .ok (.iload 6, 2) := by decide +kernel
theorem dX4_moveFromTape_99 : decode cX4_moveFromTape 99 = .ok (.iload_n 1, 1) := by decide +kernel
theorem dX4_moveFromTape_100 : decode cX4_moveFromTape 100 = .ok (.if_icmp .eq 6, 3) := by decide +kernel
theorem dX4_moveFromTape_103 : decode cX4_moveFromTape 103 = .ok (.bipush (-3), 2) := by decide +kernel
theorem dX4_moveFromTape_105 : decode cX4_moveFromTape 105 = .ok (.ireturn, 1) := by decide +kernel
theorem dX4_moveFromTape_106 : decode cX4_moveFromTape 106 = .ok (.aload_n 0, 1) := by decide +kernel
theorem dX4_moveFromTape_107 : decode cX4_moveFromTape 107 = .ok (.iload_n 2, 1) := by decide +kernel
theorem dX4_moveFromTape_108 : decode cX4_moveFromTape 108 = .ok (.iload_n 1, 1) := by decide +kernel
theorem dX4_moveFromTape_109 : decode cX4_moveFromTape 109 = .ok (.invokevirtual 159, 3) := by decide +kernel
theorem dX4_moveFromTape_112 : decode cX4_moveFromTape 112 = .ok (.ifCond .eq 6, 3) := by decide +kernel
theorem dX4_moveFromTape_115 : decode cX4_moveFromTape 115 = .ok (.bipush (-6), 2) := by decide +kernel
theorem dX4_moveFromTape_117 : decode cX4_moveFromTape 117 = .ok (.ireturn, 1) := by decide +kernel
theorem dX4_moveFromTape_118 : decode cX4_moveFromTape 118 = .ok (.aload_n 3, 1) := by decide +kernel
theorem dX4_moveFromTape_119 : decode cX4_moveFromTape 119 = .ok (.getfield 95, 3) := by decide +kernel
theorem dX4_moveFromTape_122 : decode cX4_moveFromTape 122 = .ok (.istore 7, 2) := by decide +kernel
theorem dX4_moveFromTape_124 : decode cX4_moveFromTape 124 = .ok (.iload 7, 2) := by decide +kernel
theorem dX4_moveFromTape_126 : decode cX4_moveFromTape 126 = .ok (.iload_n 2, 1) := by decide +kernel
theorem dX4_moveFromTape_127 : decode cX4_moveFromTape 127 = .ok (.if_icmp .eq 19, 3) := by decide +kernel
theorem dX4_moveFromTape_130 : decode cX4_moveFromTape 130 = .ok (.aload 4, 2) := by decide +kernel
theorem dX4_moveFromTape_132 : decode cX4_moveFromTape 132 = .ok (.getfield 92, 3) := by decide +kernel
theorem dX4_moveFromTape_135 : decode cX4_moveFromTape 135 = .ok (.invokevirtual 46, 3) := by decide +kernel
theorem dX4_moveFromTape_138 : decode cX4_moveFromTape 138 = .ok (.bipush 40, 2) := by decide +kernel
theorem dX4_moveFromTape_140 : decode cX4_moveFromTape 140 = .ok (.if_icmp .lt 6, 3) := by decide +kernel
theorem dX4_moveFromTape_143 : decode cX4_moveFromTape 143 = .ok (.bipush (-4), 2) := by decide +kernel
theorem dX4_moveFromTape_145 : decode cX4_moveFromTape 145 = .ok (.ireturn, 1) := by decide +kernel
theorem dX4_moveFromTape_146 : decode cX4_moveFromTape 146 = .ok (.aload_n 0, 1) := by decide +kernel
theorem dX4_moveFromTape_147 : decode cX4_moveFromTape 147 = .ok (.iload_n 1, 1) := by decide +kernel
theorem dX4_moveFromTape_148 : decode cX4_moveFromTape 148 = .ok (.iload 7, 2) := by decide +kernel
theorem dX4_moveFromTape_150 : decode cX4_moveFromTape 150 = .ok (.invokevirtual 98, 3) := by decide +kernel
theorem dX4_moveFromTape_153 : decode cX4_moveFromTape 153 = .ok (.iload 5, 2) := by decide +kernel
theorem dX4_moveFromTape_155 : decode cX4_moveFromTape 155 = .ok (.ifCond .eq 15, 3) := by decide +kernel
theorem dX4_moveFromTape_158 : decode cX4_moveFromTape 158 = .ok (.aload_n 3, 1) := by decide +kernel
theorem dX4_moveFromTape_159 : decode cX4_moveFromTape 159 = .ok (.aload_n 0, 1) := by decide +kernel
theorem dX4_moveFromTape_160 : decode cX4_moveFromTape 160 = .ok (.getfield 14, 3) := by decide +kernel
theorem dX4_moveFromTape_163 : decode cX4_moveFromTape 163 = .ok (.aload_n 0, 1) := by decide +kernel
theorem dX4_moveFromTape_164 : decode cX4_moveFromTape 164 = .ok (.getfield 21, 3) := by decide +kernel
theorem dX4_moveFromTape_167 : decode cX4_moveFromTape 167 = .ok (.invokevirtual 139, 3) := by decide +kernel
theorem dX4_moveFromTape_170 : decode cX4_moveFromTape 170 = .ok (.aload_n 0, 1) := by decide +kernel
theorem dX4_moveFromTape_171 : decode cX4_moveFromTape 171 = .ok (.iload_n 1, 1) := by decide +kernel
theorem dX4_moveFromTape_172 : decode cX4_moveFromTape 172 = .ok (.aload_n 3, 1) := by decide +kernel
theorem dX4_moveFromTape_173 : decode cX4_moveFromTape 173 = .ok (.iload_n 2, 1) := by decide +kernel
theorem dX4_moveFromTape_174 : decode cX4_moveFromTape 174 = .ok (.aload 4, 2) := by decide +kernel
theorem dX4_moveFromTape_176 : decode cX4_moveFromTape 176 = .ok (.invokevirtual 143, 3) := by decide +kernel
theorem dX4_moveFromTape_179 : decode cX4_moveFromTape 179 = .ok (.iload 7, 2) := by decide +kernel
theorem dX4_moveFromTape_181 : decode cX4_moveFromTape 181 = .ok (.ireturn, 1) := by decide +kernel
theorem dX4_nodeAt_0 : decode cX4_nodeAt 0 = .ok (.iload_n 1, 1) := by decide +kernel
theorem dX4_nodeAt_1 : decode cX4_nodeAt 1 = .ok (.ifCond .lt 12, 3) := by decide +kernel
theorem dX4_nodeAt_4 : decode cX4_nodeAt 4 = .ok (.iload_n 1, 1) := by decide +kernel
theorem dX4_nodeAt_5 : decode cX4_nodeAt 5 = .ok (.aload_n 0, 1) := by decide +kernel
theorem dX4_nodeAt_6 : decode cX4_nodeAt 6 = .ok (.getfield 26, 3) := by decide +kernel
theorem dX4_nodeAt_9 : decode cX4_nodeAt 9 = .ok (.arraylength, 1) := by decide +kernel
theorem dX4_nodeAt_10 : decode cX4_nodeAt 10 = .ok (.if_icmp .lt 5, 3) := by decide +kernel
theorem dX4_nodeAt_13 : decode cX4_nodeAt 13 = .ok (.aconst_null, 1) := by decide +kernel
theorem dX4_nodeAt_14 : decode cX4_nodeAt 14 = .ok (.areturn, 1) := by decide +kernel
theorem dX4_nodeAt_15 : decode cX4_nodeAt 15 = .ok (.aload_n 0, 1) := by decide +kernel
theorem dX4_nodeAt_16 : decode cX4_nodeAt 16 = .ok (.getfield 26, 3) := by decide +kernel
theorem dX4_nodeAt_19 : decode cX4_nodeAt 19 = .ok (.iload_n 1, 1) := by decide +kernel
theorem dX4_nodeAt_20 : decode cX4_nodeAt 20 = .ok (.aaload, 1) := by decide +kernel
theorem dX4_nodeAt_21 : decode cX4_nodeAt 21 = .ok (.astore_n 2, 1) := by decide +kernel
theorem dX4_nodeAt_22 : decode cX4_nodeAt 22 = .ok (.aload_n 2, 1) := by decide +kernel
theorem dX4_nodeAt_23 : decode cX4_nodeAt 23 = .ok (.ifnull 14, 3) := by decide +kernel
theorem dX4_nodeAt_26 : decode cX4_nodeAt 26 = .ok (.aload_n 2, 1) := by decide +kernel
theorem dX4_nodeAt_27 : decode cX4_nodeAt 27 = .ok (.getfield 102, 3) := by decide +kernel
theorem dX4_nodeAt_30 : decode cX4_nodeAt 30 = .ok (.ifCond .eq 7, 3) := by decide +kernel
theorem dX4_nodeAt_33 : decode cX4_nodeAt 33 = .ok (.aload_n 2, 1) := by decide +kernel
theorem dX4_nodeAt_34 : decode cX4_nodeAt 34 = .ok (.goto 4, 3) := by decide +kernel
theorem dX4_nodeAt_37 : decode cX4_nodeAt 37 = .ok (.aconst_null, 1) := by decide +kernel
theorem dX4_nodeAt_38 : decode cX4_nodeAt 38 = .ok (.areturn, 1) := by decide +kernel
theorem dX4_directoryAt_0 : decode cX4_directoryAt 0 = .ok (.aload_n 0, 1) := by decide +kernel
theorem dX4_directoryAt_1 : decode cX4_directoryAt 1 = .ok (.iload_n 1, 1) := by decide +kernel
theorem dX4_directoryAt_2 : decode cX4_directoryAt 2 = .ok (.invokevirtual 88, 3) := by decide +kernel
theorem dX4_directoryAt_5 : decode cX4_directoryAt 5 = .ok (.astore_n 2, 1) := by decide +kernel
theorem dX4_directoryAt_6 : decode cX4_directoryAt 6 = .ok (.aload_n 2, 1) := by decide +kernel
theorem dX4_directoryAt_7 : decode cX4_directoryAt 7 = .ok (.ifnull 14, 3) := by decide +kernel
theorem dX4_directoryAt_10 : decode cX4_directoryAt 10 = .ok (.aload_n 2, 1) := by decide +kernel
theorem dX4_directoryAt_11 : decode cX4_directoryAt 11 = .ok (.getfield 108, 3) := by decide +kernel
theorem dX4_directoryAt_14 : decode cX4_directoryAt 14 = .ok (.ifCond .eq 7, 3) := by decide +kernel
theorem dX4_directoryAt_17 : decode cX4_directoryAt 17 = .ok (.aload_n 2, 1) := by decide +kernel
theorem dX4_directoryAt_18 : decode cX4_directoryAt 18 = .ok (.goto 4, 3) := by decide +kernel
theorem dX4_directoryAt_21 : decode cX4_directoryAt 21 = .ok (.aconst_null, 1) := by decide +kernel
theorem dX4_directoryAt_22 : decode cX4_directoryAt 22 = .ok (.areturn, 1) := by decide +kernel
theorem dX4_freeNumber_0 : decode cX4_freeNumber 0 = .ok (.iconst 0, 1) := by decide +kernel
theorem dX4_freeNumber_1 : decode cX4_freeNumber 1 = .ok (.istore_n 1, 1) := by decide +kernel
theorem dX4_freeNumber_2 : decode cX4_freeNumber 2 = .ok (.iload_n 1, 1) := by decide +kernel
theorem dX4_freeNumber_3 : decode cX4_freeNumber 3 = .ok (.aload_n 0, 1) := by decide +kernel
theorem dX4_freeNumber_4 : decode cX4_freeNumber 4 = .ok (.getfield 26, 3) := by decide +kernel
theorem dX4_freeNumber_7 : decode cX4_freeNumber 7 = .ok (.arraylength, 1) := by decide +kernel
theorem dX4_freeNumber_8 : decode cX4_freeNumber 8 = .ok (.if_icmp .ge 19, 3) := by decide +kernel
theorem dX4_freeNumber_11 : decode cX4_freeNumber 11 = .ok (.aload_n 0, 1) := by decide +kernel
theorem dX4_freeNumber_12 : decode cX4_freeNumber 12 = .ok (.iload_n 1, 1) := by decide +kernel
theorem dX4_freeNumber_13 : decode cX4_freeNumber 13 = .ok (.invokevirtual 88, 3) := by decide +kernel
theorem dX4_freeNumber_16 : decode cX4_freeNumber 16 = .ok (.ifnonnull 5, 3) := by decide +kernel
theorem dX4_freeNumber_19 : decode cX4_freeNumber 19 = .ok (.iload_n 1, 1) := by decide +kernel
theorem dX4_freeNumber_20 : decode cX4_freeNumber 20 = .ok (.ireturn, 1) := by decide +kernel
theorem dX4_freeNumber_21 : decode cX4_freeNumber 21 = .ok (.iinc 1 1, 3) := by decide +kernel
theorem dX4_freeNumber_24 : decode cX4_freeNumber 24 = .ok (.goto (-22), 3) := by decide +kernel
theorem dX4_freeNumber_27 : decode cX4_freeNumber 27 = .ok (.iconst (-1), 1) := by decide +kernel
theorem dX4_freeNumber_28 : decode cX4_freeNumber 28 = .ok (.ireturn, 1) := by decide +kernel
theorem dX4_askForName_0 : decode cX4_askForName 0 = .ok (.iload_n 2, 1) := by decide +kernel
theorem dX4_askForName_1 : decode cX4_askForName 1 = .ok (.iload_n 1, 1) := by decide +kernel
theorem dX4_askForName_2 : decode cX4_askForName 2 = .ok (.isub, 1) := by decide +kernel
theorem dX4_askForName_3 : decode cX4_askForName 3 = .ok (.istore_n 3, 1) := by decide +kernel
theorem dX4_askForName_4 : decode cX4_askForName 4 = .ok (.iload_n 3, 1) := by decide +kernel
theorem dX4_askForName_5 : decode cX4_askForName 5 = .ok (.iconst 1, 1) := by decide +kernel
theorem dX4_askForName_6 : decode cX4_askForName 6 = .ok (.if_icmp .lt 21, 3) := by decide +kernel
theorem dX4_askForName_9 : decode cX4_askForName 9 = .ok (.iload_n 3, 1) := by decide +kernel
theorem dX4_askForName_10 : decode cX4_askForName 10 = .ok (.bipush 60, 2) := by decide +kernel
theorem dX4_askForName_12 : decode cX4_askForName 12 = .ok (.if_icmp .gt 15, 3) := by decide +kernel
theorem dX4_askForName_15 : decode cX4_askForName 15 = .ok (.aload_n 0, 1) := by decide +kernel
theorem dX4_askForName_16 : decode cX4_askForName 16 = .ok (.getfield 14, 3) := by decide +kernel
theorem dX4_askForName_19 : decode cX4_askForName 19 = .ok (.iload_n 1, 1) := by decide +kernel
theorem dX4_askForName_20 : decode cX4_askForName 20 = .ok (.iload_n 2, 1) := by decide +kernel
theorem dX4_askForName_21 : decode cX4_askForName 21 = .ok (.invokestatic 151, 3) := by decide +kernel
theorem dX4_askForName_24 : decode cX4_askForName 24 = .ok (.ifCond .eq 5, 3) := by decide +kernel
theorem dX4_askForName_27 : decode cX4_askForName 27 = .ok (.iconst 0, 1) := by decide +kernel
theorem dX4_askForName_28 : decode cX4_askForName 28 = .ok (.ireturn, 1) := by decide +kernel
theorem dX4_askForName_29 : decode cX4_askForName 29 = .ok (.iload_n 1, 1) := by decide +kernel
theorem dX4_askForName_30 : decode cX4_askForName 30 = .ok (.istore 4, 2) := by decide +kernel
theorem dX4_askForName_32 : decode cX4_askForName 32 = .ok (.iload 4, 2) := by decide +kernel
theorem dX4_askForName_34 : decode cX4_askForName 34 = .ok (.iload_n 2, 1) := by decide +kernel
theorem dX4_askForName_35 : decode cX4_askForName 35 = .ok (.if_icmp .ge 34, 3) := by decide +kernel
theorem dX4_askForName_38 : decode cX4_askForName 38 = .ok (.aload_n 0, 1) := by decide +kernel
theorem dX4_askForName_39 : decode cX4_askForName 39 = .ok (.getfield 14, 3) := by decide +kernel
theorem dX4_askForName_42 : decode cX4_askForName 42 = .ok (.iload 4, 2) := by decide +kernel
theorem dX4_askForName_44 : decode cX4_askForName 44 = .ok (.invokevirtual 70, 3) := by decide +kernel
theorem dX4_askForName_47 : decode cX4_askForName 47 = .ok (.istore 5, 2) := by decide +kernel
theorem dX4_askForName_49 : decode cX4_askForName 49 = .ok (.iload 5, 2) := by decide +kernel
theorem dX4_askForName_51 : decode cX4_askForName 51 = .ok (.ifCond .eq 10, 3) := by decide +kernel
theorem dX4_askForName_54 : decode cX4_askForName 54 = .ok (.iload 5, 2) := by decide +kernel
theorem dX4_askForName_56 : decode cX4_askForName 56 = .ok (.bipush 47, 2) := by decide +kernel
theorem dX4_askForName_58 : decode cX4_askForName 58 = .ok (.if_icmp .ne 5, 3) := by decide +kernel
theorem dX4_askForName_61 : decode cX4_askForName 61 = .ok (.iconst 0, 1) := by decide +kernel
theorem dX4_askForName_62 : decode cX4_askForName 62 = .ok (.ireturn, 1) := by decide +kernel
theorem dX4_askForName_63 : decode cX4_askForName 63 = .ok (.iinc 4 1, 3) := by decide +kernel
theorem dX4_askForName_66 : decode cX4_askForName 66 = .ok (.goto (-34), 3) := by decide +kernel
theorem dX4_askForName_69 : decode cX4_askForName 69 = .ok (.aload_n 0, 1) := by decide +kernel
theorem dX4_askForName_70 : decode cX4_askForName 70 = .ok (.getfield 14, 3) := by decide +kernel
theorem dX4_askForName_73 : decode cX4_askForName 73 = .ok (.iload_n 1, 1) := by decide +kernel
theorem dX4_askForName_74 : decode cX4_askForName 74 = .ok (.iload_n 2, 1) := by decide +kernel
theorem dX4_askForName_75 : decode cX4_askForName 75 = .ok (.invokestatic 55, 3) := by decide +kernel
theorem dX4_askForName_78 : decode cX4_askForName 78 = .ok (.iconst (-1), 1) := by decide +kernel
theorem dX4_askForName_79 : decode cX4_askForName 79 = .ok (.if_icmp .eq 5, 3) := by decide +kernel
theorem dX4_askForName_82 : decode cX4_askForName 82 = .ok (.iconst 0, 1) := by decide +kernel
theorem dX4_askForName_83 : decode cX4_askForName 83 = .ok (.ireturn, 1) := by decide +kernel
theorem dX4_askForName_84 : decode cX4_askForName 84 = .ok (.aload_n 0, 1) := by decide +kernel
theorem dX4_askForName_85 : decode cX4_askForName 85 = .ok (.getfield 21, 3) := by decide +kernel
theorem dX4_askForName_88 : decode cX4_askForName 88 = .ok (.aload_n 0, 1) := by decide +kernel
theorem dX4_askForName_89 : decode cX4_askForName 89 = .ok (.getfield 14, 3) := by decide +kernel
theorem dX4_askForName_92 : decode cX4_askForName 92 = .ok (.iload_n 1, 1) := by decide +kernel
theorem dX4_askForName_93 : decode cX4_askForName 93 = .ok (.iload_n 2, 1) := by decide +kernel
theorem dX4_askForName_94 : decode cX4_askForName 94 = .ok (.invokestatic 64, 3) := by decide +kernel
theorem dX4_askForName_97 : decode cX4_askForName 97 = .ok (.iconst 1, 1) := by decide +kernel
theorem dX4_askForName_98 : decode cX4_askForName 98 = .ok (.ireturn, 1) := by decide +kernel
theorem dX4_entryAsked_0 : decode cX4_entryAsked 0 = .ok (.iconst 0, 1) := by decide +kernel
theorem dX4_entryAsked_1 : decode cX4_entryAsked 1 = .ok (.istore_n 2, 1) := by decide +kernel
theorem dX4_entryAsked_2 : decode cX4_entryAsked 2 = .ok (.iload_n 2, 1) := by decide +kernel
theorem dX4_entryAsked_3 : decode cX4_entryAsked 3 = .ok (.aload_n 1, 1) := by decide +kernel
theorem dX4_entryAsked_4 : decode cX4_entryAsked 4 = .ok (.getfield 92, 3) := by decide +kernel
theorem dX4_entryAsked_7 : decode cX4_entryAsked 7 = .ok (.invokevirtual 46, 3) := by decide +kernel
theorem dX4_entryAsked_10 : decode cX4_entryAsked 10 = .ok (.if_icmp .ge 47, 3) := by decide +kernel
theorem dX4_entryAsked_13 : decode cX4_entryAsked 13 = .ok (.aload_n 1, 1) := by decide +kernel
theorem dX4_entryAsked_14 : decode cX4_entryAsked 14 = .ok (.getfield 92, 3) := by decide +kernel
theorem dX4_entryAsked_17 : decode cX4_entryAsked 17 = .ok (.iload_n 2, 1) := by decide +kernel
theorem dX4_entryAsked_18 : decode cX4_entryAsked 18 = .ok (.invokevirtual 70, 3) := by decide +kernel
theorem dX4_entryAsked_21 : decode cX4_entryAsked 21 = .ok (.istore_n 3, 1) := by decide +kernel
theorem dX4_entryAsked_22 : decode cX4_entryAsked 22 = .ok (.aload_n 0, 1) := by decide +kernel
theorem dX4_entryAsked_23 : decode cX4_entryAsked 23 = .ok (.iload_n 3, 1) := by decide +kernel
theorem dX4_entryAsked_24 : decode cX4_entryAsked 24 = .ok (.invokevirtual 88, 3) := by decide +kernel
theorem dX4_entryAsked_27 : decode cX4_entryAsked 27 = .ok (.astore 4, 2) := by decide +kernel
theorem dX4_entryAsked_29 : decode cX4_entryAsked 29 = .ok (.aload 4, 2) := by decide +kernel
theorem dX4_entryAsked_31 : decode cX4_entryAsked 31 = .ok (.ifnull 20, 3) := by decide +kernel
theorem dX4_entryAsked_34 : decode cX4_entryAsked 34 = .ok (.aload 4, 2) := by decide +kernel
theorem dX4_entryAsked_36 : decode cX4_entryAsked 36 = .ok (.getfield 114, 3) := by decide +kernel
theorem dX4_entryAsked_39 : decode cX4_entryAsked 39 = .ok (.aload_n 0, 1) := by decide +kernel
theorem dX4_entryAsked_40 : decode cX4_entryAsked 40 = .ok (.getfield 21, 3) := by decide +kernel
theorem dX4_entryAsked_43 : decode cX4_entryAsked 43 = .ok (.invokevirtual 162, 3) := by decide +kernel
theorem dX4_entryAsked_46 : decode cX4_entryAsked 46 = .ok (.ifCond .ne 5, 3) := by decide +kernel
theorem dX4_entryAsked_49 : decode cX4_entryAsked 49 = .ok (.iload_n 3, 1) := by decide +kernel
theorem dX4_entryAsked_50 : decode cX4_entryAsked 50 = .ok (.ireturn, 1) := by decide +kernel
theorem dX4_entryAsked_51 : decode cX4_entryAsked 51 = .ok (.iinc 2 1, 3) := by decide +kernel
theorem dX4_entryAsked_54 : decode cX4_entryAsked 54 = .ok (.goto (-52), 3) := by decide +kernel
theorem dX4_entryAsked_57 : decode cX4_entryAsked 57 = .ok (.iconst (-1), 1) := by decide +kernel
theorem dX4_entryAsked_58 : decode cX4_entryAsked 58 = .ok (.ireturn, 1) := by decide +kernel
theorem dX4_attach_0 : decode cX4_attach 0 = .ok (.aload_n 2, 1) := by decide +kernel
theorem dX4_attach_1 : decode cX4_attach 1 = .ok (.iload_n 3, 1) := by decide +kernel
theorem dX4_attach_2 : decode cX4_attach 2 = .ok (.putfield 95, 3) := by decide +kernel
theorem dX4_attach_5 : decode cX4_attach 5 = .ok (.aload 4, 2) := by decide +kernel
theorem dX4_attach_7 : decode cX4_attach 7 = .ok (.getfield 92, 3) := by decide +kernel
theorem dX4_attach_10 : decode cX4_attach 10 = .ok (.iload_n 1, 1) := by decide +kernel
theorem dX4_attach_11 : decode cX4_attach 11 = .ok (.invokevirtual 52, 3) := by decide +kernel
theorem dX4_attach_14 : decode cX4_attach 14 = .ok (.aload 4, 2) := by decide +kernel
theorem dX4_attach_16 : decode cX4_attach 16 = .ok (.getfield 123, 3) := by decide +kernel
theorem dX4_attach_19 : decode cX4_attach 19 = .ok (.aload_n 0, 1) := by decide +kernel
theorem dX4_attach_20 : decode cX4_attach 20 = .ok (.aload 4, 2) := by decide +kernel
theorem dX4_attach_22 : decode cX4_attach 22 = .ok (.invokevirtual 166, 3) := by decide +kernel
theorem dX4_attach_25 : decode cX4_attach 25 = .ok (.iload_n 1, 1) := by decide +kernel
theorem dX4_attach_26 : decode cX4_attach 26 = .ok (.invokevirtual 169, 3) := by decide +kernel
theorem dX4_attach_29 : decode cX4_attach 29 = .ok (.return_, 1) := by decide +kernel
theorem dX4_placeByName_0 : decode cX4_placeByName 0 = .ok (.aload_n 1, 1) := by decide +kernel
theorem dX4_placeByName_1 : decode cX4_placeByName 1 = .ok (.getfield 123, 3) := by decide +kernel
theorem dX4_placeByName_4 : decode cX4_placeByName 4 = .ok (.invokevirtual 46, 3) := by decide +kernel
theorem dX4_placeByName_7 : decode cX4_placeByName 7 = .ok (.istore_n 2, 1) := by decide +kernel
theorem dX4_placeByName_8 : decode cX4_placeByName 8 = .ok (.iconst 0, 1) := by decide +kernel
theorem dX4_placeByName_9 : decode cX4_placeByName 9 = .ok (.istore_n 3, 1) := by decide +kernel
theorem dX4_placeByName_10 : decode cX4_placeByName 10 = .ok (.iload_n 3, 1) := by decide +kernel
theorem dX4_placeByName_11 : decode cX4_placeByName 11 = .ok (.iload_n 2, 1) := by decide +kernel
theorem dX4_placeByName_12 : decode cX4_placeByName 12 = .ok (.if_icmp .ge 45, 3) := by decide +kernel
theorem dX4_placeByName_15 : decode cX4_placeByName 15 = .ok (.aload_n 0, 1) := by decide +kernel
theorem dX4_placeByName_16 : decode cX4_placeByName 16 = .ok (.aload_n 1, 1) := by decide +kernel
theorem dX4_placeByName_17 : decode cX4_placeByName 17 = .ok (.getfield 123, 3) := by decide +kernel
theorem dX4_placeByName_20 : decode cX4_placeByName 20 = .ok (.iload_n 3, 1) := by decide +kernel
theorem dX4_placeByName_21 : decode cX4_placeByName 21 = .ok (.invokevirtual 70, 3) := by decide +kernel
theorem dX4_placeByName_24 : decode cX4_placeByName 24 = .ok (.invokevirtual 88, 3) := by decide +kernel
theorem dX4_placeByName_27 : decode cX4_placeByName 27 = .ok (.astore 4, 2) := by decide +kernel
theorem dX4_placeByName_29 : decode cX4_placeByName 29 = .ok (.aload 4, 2) := by decide +kernel
theorem dX4_placeByName_31 : decode cX4_placeByName 31 = .ok (.ifnull 20, 3) := by decide +kernel
theorem dX4_placeByName_34 : decode cX4_placeByName 34 = .ok (.aload 4, 2) := by decide +kernel
theorem dX4_placeByName_36 : decode cX4_placeByName 36 = .ok (.getfield 114, 3) := by decide +kernel
theorem dX4_placeByName_39 : decode cX4_placeByName 39 = .ok (.aload_n 0, 1) := by decide +kernel
theorem dX4_placeByName_40 : decode cX4_placeByName 40 = .ok (.getfield 21, 3) := by decide +kernel
theorem dX4_placeByName_43 : decode cX4_placeByName 43 = .ok (.invokevirtual 162, 3) := by decide +kernel
theorem dX4_placeByName_46 : decode cX4_placeByName 46 = .ok (.ifCond .le 5, 3) := by decide +kernel
theorem dX4_placeByName_49 : decode cX4_placeByName 49 = .ok (.iload_n 3, 1) := by decide +kernel
theorem dX4_placeByName_50 : decode cX4_placeByName 50 = .ok (.ireturn, 1) := by decide +kernel
theorem dX4_placeByName_51 : decode cX4_placeByName 51 = .ok (.iinc 3 1, 3) := by decide +kernel
theorem dX4_placeByName_54 : decode cX4_placeByName 54 = .ok (.goto (-44), 3) := by decide +kernel
theorem dX4_placeByName_57 : decode cX4_placeByName 57 = .ok (.iload_n 2, 1) := by decide +kernel
theorem dX4_placeByName_58 : decode cX4_placeByName 58 = .ok (.ireturn, 1) := by decide +kernel
theorem dX4_detach_0 : decode cX4_detach 0 = .ok (.aload_n 0, 1) := by decide +kernel
theorem dX4_detach_1 : decode cX4_detach 1 = .ok (.iload_n 2, 1) := by decide +kernel
theorem dX4_detach_2 : decode cX4_detach 2 = .ok (.invokevirtual 88, 3) := by decide +kernel
theorem dX4_detach_5 : decode cX4_detach 5 = .ok (.astore_n 3, 1) := by decide +kernel
theorem dX4_detach_6 : decode cX4_detach 6 = .ok (.aload_n 3, 1) := by decide +kernel
theorem dX4_detach_7 : decode cX4_detach 7 = .ok (.ifnull 19, 3) := by decide +kernel
theorem dX4_detach_10 : decode cX4_detach 10 = .ok (.aload_n 3, 1) := by decide +kernel
theorem dX4_detach_11 : decode cX4_detach 11 = .ok (.getfield 92, 3) := by decide +kernel
theorem dX4_detach_14 : decode cX4_detach 14 = .ok (.iload_n 1, 1) := by decide +kernel
theorem dX4_detach_15 : decode cX4_detach 15 = .ok (.invokevirtual 172, 3) := by decide +kernel
theorem dX4_detach_18 : decode cX4_detach 18 = .ok (.aload_n 3, 1) := by decide +kernel
theorem dX4_detach_19 : decode cX4_detach 19 = .ok (.getfield 123, 3) := by decide +kernel
theorem dX4_detach_22 : decode cX4_detach 22 = .ok (.iload_n 1, 1) := by decide +kernel
theorem dX4_detach_23 : decode cX4_detach 23 = .ok (.invokevirtual 172, 3) := by decide +kernel
theorem dX4_detach_26 : decode cX4_detach 26 = .ok (.return_, 1) := by decide +kernel
theorem dX4_isWithin_0 : decode cX4_isWithin 0 = .ok (.iload_n 1, 1) := by decide +kernel
theorem dX4_isWithin_1 : decode cX4_isWithin 1 = .ok (.istore_n 3, 1) := by decide +kernel
theorem dX4_isWithin_2 : decode cX4_isWithin 2 = .ok (.iconst 0, 1) := by decide +kernel
theorem dX4_isWithin_3 : decode cX4_isWithin 3 = .ok (.istore 4, 2) := by decide +kernel
theorem dX4_isWithin_5 : decode cX4_isWithin 5 = .ok (.iload 4, 2) := by decide +kernel
theorem dX4_isWithin_7 : decode cX4_isWithin 7 = .ok (.sipush 200, 3) := by decide +kernel
theorem dX4_isWithin_10 : decode cX4_isWithin 10 = .ok (.if_icmp .ge 36, 3) := by decide +kernel
theorem dX4_isWithin_13 : decode cX4_isWithin 13 = .ok (.iload_n 3, 1) := by decide +kernel
theorem dX4_isWithin_14 : decode cX4_isWithin 14 = .ok (.iload_n 2, 1) := by decide +kernel
theorem dX4_isWithin_15 : decode cX4_isWithin 15 = .ok (.if_icmp .ne 5, 3) := by decide +kernel
theorem dX4_isWithin_18 : decode cX4_isWithin 18 = .ok (.iconst 1, 1) := by decide +kernel
theorem dX4_isWithin_19 : decode cX4_isWithin 19 = .ok (.ireturn, 1) := by decide +kernel
theorem dX4_isWithin_20 : decode cX4_isWithin 20 = .ok (.aload_n 0, 1) := by decide +kernel
theorem dX4_isWithin_21 : decode cX4_isWithin 21 = .ok (.iload_n 3, 1) := by decide +kernel
theorem dX4_isWithin_22 : decode cX4_isWithin 22 = .ok (.invokevirtual 88, 3) := by decide +kernel
theorem dX4_isWithin_25 : decode cX4_isWithin 25 = .ok (.astore 5, 2) := by decide +kernel
theorem dX4_isWithin_27 : decode cX4_isWithin 27 = .ok (.aload 5, 2) := by decide +kernel
theorem dX4_isWithin_29 : decode cX4_isWithin 29 = .ok (.ifnonnull 5, 3) := by decide +kernel
theorem dX4_isWithin_32 : decode cX4_isWithin 32 = .ok (.iconst 0, 1) := by decide +kernel
theorem dX4_isWithin_33 : decode cX4_isWithin 33 = .ok (.ireturn, 1) := by decide +kernel
theorem dX4_isWithin_34 : decode cX4_isWithin 34 = .ok (.aload 5, 2) := by decide +kernel
theorem dX4_isWithin_36 : decode cX4_isWithin 36 = .ok (.getfield 95, 3) := by decide +kernel
theorem dX4_isWithin_39 : decode cX4_isWithin 39 = .ok (.istore_n 3, 1) := by decide +kernel
theorem dX4_isWithin_40 : decode cX4_isWithin 40 = .ok (.iinc 4 1, 3) := by decide +kernel
theorem dX4_isWithin_43 : decode cX4_isWithin 43 = .ok (.goto (-38), 3) := by decide +kernel
theorem dX4_isWithin_46 : decode cX4_isWithin 46 = .ok (.iconst 0, 1) := by decide +kernel
theorem dX4_isWithin_47 : decode cX4_isWithin 47 = .ok (.ireturn, 1) := by decide +kernel
theorem dX4_depthOf_0 : decode cX4_depthOf 0 = .ok (.aload_n 0, 1) := by decide +kernel
theorem dX4_depthOf_1 : decode cX4_depthOf 1 = .ok (.iload_n 1, 1) := by decide +kernel
theorem dX4_depthOf_2 : decode cX4_depthOf 2 = .ok (.invokevirtual 88, 3) := by decide +kernel
theorem dX4_depthOf_5 : decode cX4_depthOf 5 = .ok (.astore_n 2, 1) := by decide +kernel
theorem dX4_depthOf_6 : decode cX4_depthOf 6 = .ok (.iconst 0, 1) := by decide +kernel
theorem dX4_depthOf_7 : decode cX4_depthOf 7 = .ok (.istore_n 3, 1) := by decide +kernel
theorem dX4_depthOf_8 : decode cX4_depthOf 8 = .ok (.aload_n 2, 1) := by decide +kernel
theorem dX4_depthOf_9 : decode cX4_depthOf 9 = .ok (.ifnull 33, 3) := by decide +kernel
theorem dX4_depthOf_12 : decode cX4_depthOf 12 = .ok (.aload_n 2, 1) := by decide +kernel
theorem dX4_depthOf_13 : decode cX4_depthOf 13 = .ok (.getfield 95, 3) := by decide +kernel
theorem dX4_depthOf_16 : decode cX4_depthOf 16 = .ok (.iconst (-1), 1) := by decide +kernel
theorem dX4_depthOf_17 : decode cX4_depthOf 17 = .ok (.if_icmp .eq 25, 3) := by decide +kernel
theorem dX4_depthOf_20 : decode cX4_depthOf 20 = .ok (.iload_n 3, 1) := by decide +kernel
theorem dX4_depthOf_21 : decode cX4_depthOf 21 = .ok (.sipush 200, 3) := by decide +kernel
theorem dX4_depthOf_24 : decode cX4_depthOf 24 = .ok (.if_icmp .ge 18, 3) := by decide +kernel
theorem dX4_depthOf_27 : decode cX4_depthOf 27 = .ok (.aload_n 0, 1) := by decide +kernel
theorem dX4_depthOf_28 : decode cX4_depthOf 28 = .ok (.aload_n 2, 1) := by decide +kernel
theorem dX4_depthOf_29 : decode cX4_depthOf 29 = .ok (.getfield 95, 3) := by decide +kernel
theorem dX4_depthOf_32 : decode cX4_depthOf 32 = .ok (.invokevirtual 88, 3) := by decide +kernel
theorem dX4_depthOf_35 : decode cX4_depthOf 35 = .ok (.astore_n 2, 1) := by decide +kernel
theorem dX4_depthOf_36 : decode cX4_depthOf 36 = .ok (.iinc 3 1, 3) := by decide +kernel
theorem dX4_depthOf_39 : decode cX4_depthOf 39 = .ok (.goto (-31), 3) := by decide +kernel
theorem dX4_depthOf_42 : decode cX4_depthOf 42 = .ok (.iload_n 3, 1) := by decide +kernel
theorem dX4_depthOf_43 : decode cX4_depthOf 43 = .ok (.ireturn, 1) := by decide +kernel
