theorem dX5_init_0 : decode cX5_init 0 = .ok (.aload_n 0, 1) := by decide +kernel
theorem dX5_init_1 : decode cX5_init 1 = .ok (.invokespecial 1, 3) := by decide +kernel
theorem dX5_init_4 : decode cX5_init 4 = .ok (.aload_n 0, 1) := by decide +kernel
theorem dX5_init_5 : decode cX5_init 5 = .ok (.sipush 200, 3) := by decide +kernel
theorem dX5_init_8 : decode cX5_init 8 = .ok (.newarray .int, 2) := by decide +kernel
theorem dX5_init_10 : decode cX5_init 10 = .ok (.putfield 7, 3) := by decide +kernel
theorem dX5_init_13 : decode cX5_init 13 = .ok (.aload_n 0, 1) := by decide +kernel
theorem dX5_init_14 : decode cX5_init 14 = .ok (.sipush 200, 3) := by decide +kernel
theorem dX5_init_17 : decode cX5_init 17 = .ok (.newarray .boolean, 2) := by decide +kernel
theorem dX5_init_19 : decode cX5_init 19 = .ok (.putfield 13, 3) := by decide +kernel
theorem dX5_init_22 : decode cX5_init 22 = .ok (.aload_n 0, 1) := by decide +kernel
theorem dX5_init_23 : decode cX5_init 23 = .ok (.sipush 200, 3) := by decide +kernel
theorem dX5_init_26 : decode cX5_init 26 = .ok (.newarray .boolean, 2) := by decide +kernel
theorem dX5_init_28 : decode cX5_init 28 = .ok (.putfield 17, 3) := by decide +kernel
theorem dX5_init_31 : decode cX5_init 31 = .ok (.aload_n 0, 1) := by decide +kernel
theorem dX5_init_32 : decode cX5_init 32 = .ok (.sipush 200, 3) := by decide +kernel
theorem dX5_init_35 : decode cX5_init 35 = .ok (.newarray .int, 2) := by decide +kernel
theorem dX5_init_37 : decode cX5_init 37 = .ok (.putfield 20, 3) := by decide +kernel
theorem dX5_init_40 : decode cX5_init 40 = .ok (.aload_n 0, 1) := by decide +kernel
theorem dX5_init_41 : decode cX5_init 41 = .ok (.sipush 12000, 3) := by decide +kernel
theorem dX5_init_44 : decode cX5_init 44 = .ok (.newarray .int, 2) := by decide +kernel
theorem dX5_init_46 : decode cX5_init 46 = .ok (.putfield 23, 3) := by decide +kernel
theorem dX5_init_49 : decode cX5_init 49 = .ok (.aload_n 0, 1) := by decide +kernel
theorem dX5_init_50 : decode cX5_init 50 = .ok (.sipush 200, 3) := by decide +kernel
theorem dX5_init_53 : decode cX5_init 53 = .ok (.newarray .int, 2) := by decide +kernel
theorem dX5_init_55 : decode cX5_init 55 = .ok (.putfield 26, 3) := by decide +kernel
theorem dX5_init_58 : decode cX5_init 58 = .ok (.aload_n 0, 1) := by decide +kernel
theorem dX5_init_59 : decode cX5_init 59 = .ok (.sipush 12000, 3) := by decide +kernel
theorem dX5_init_62 : decode cX5_init 62 = .ok (.newarray .int, 2) := by decide +kernel
theorem dX5_init_64 : decode cX5_init 64 = .ok (.putfield 29, 3) := by decide +kernel
theorem dX5_init_67 : decode cX5_init 67 = .ok (.aload_n 0, 1) := by decide +kernel
theorem dX5_init_68 : decode cX5_init 68 = .ok (.sipush 200, 3) := by decide +kernel
theorem dX5_init_71 : decode cX5_init 71 = .ok (.newarray .int, 2) := by decide +kernel
theorem dX5_init_73 : decode cX5_init 73 = .ok (.putfield 32, 3) := by decide +kernel
theorem dX5_init_76 : decode cX5_init 76 = .ok (.aload_n 0, 1) := by decide +kernel
theorem dX5_init_77 : decode cX5_init 77 = .ok (.sipush 8000, 3) := by decide +kernel
theorem dX5_init_80 : decode cX5_init 80 = .ok (.newarray .int, 2) := by decide +kernel
theorem dX5_init_82 : decode cX5_init 82 = .ok (.putfield 35, 3) := by decide +kernel
theorem dX5_init_85 : decode cX5_init 85 = .ok (.aload_n 0, 1) := by decide +kernel
theorem dX5_init_86 : decode cX5_init 86 = .ok (.sipush 200, 3) := by decide +kernel
theorem dX5_init_89 : decode cX5_init 89 = .ok (.newarray .int, 2) := by decide +kernel
theorem dX5_init_91 : decode cX5_init 91 = .ok (.putfield 38, 3) := by decide +kernel
theorem dX5_init_94 : decode cX5_init 94 = .ok (.aload_n 0, 1) := by decide +kernel
theorem dX5_init_95 : decode cX5_init 95 = .ok (.sipush 400, 3) := by decide +kernel
theorem dX5_init_98 : decode cX5_init 98 = .ok (.newarray .int, 2) := by decide +kernel
theorem dX5_init_100 : decode cX5_init 100 = .ok (.putfield 41, 3) := by decide +kernel
theorem dX5_init_103 : decode cX5_init 103 = .ok (.aload_n 0, 1) := by decide +kernel
theorem dX5_init_104 : decode cX5_init 104 = .ok (.sipush 200, 3) := by decide +kernel
theorem dX5_init_107 : decode cX5_init 107 = .ok (.newarray .int, 2) := by decide +kernel
theorem dX5_init_109 : decode cX5_init 109 = .ok (.putfield 44, 3) := by decide +kernel
theorem dX5_init_112 : decode cX5_init 112 = .ok (.aload_n 0, 1) := by decide +kernel
theorem dX5_init_113 : decode cX5_init 113 = .ok (.sipush 200, 3) := by decide +kernel
theorem dX5_init_116 : decode cX5_init 116 = .ok (.newarray .int, 2) := by decide +kernel
theorem dX5_init_118 : decode cX5_init 118 = .ok (.putfield 47, 3) := by decide +kernel
theorem dX5_init_121 : decode cX5_init 121 = .ok (.aload_n 0, 1) := by decide +kernel
theorem dX5_init_122 : decode cX5_init 122 = .ok (.sipush 400, 3) := by decide +kernel
theorem dX5_init_125 : decode cX5_init 125 = .ok (.newarray .int, 2) := by decide +kernel
theorem dX5_init_127 : decode cX5_init 127 = .ok (.putfield 50, 3) := by decide +kernel
theorem dX5_init_130 : decode cX5_init 130 = .ok (.aload_n 0, 1) := by decide +kernel
theorem dX5_init_131 : decode cX5_init 131 = .ok (.sipush 200, 3) := by decide +kernel
theorem dX5_init_134 : decode cX5_init 134 = .ok (.newarray .int, 2) := by decide +kernel
theorem dX5_init_136 : decode cX5_init 136 = .ok (.putfield 53, 3) := by decide +kernel
theorem dX5_init_139 : decode cX5_init 139 = .ok (.aload_n 0, 1) := by decide +kernel
theorem dX5_init_140 : decode cX5_init 140 = .ok (.getfield 13, 3) := by decide +kernel
theorem dX5_init_143 : decode cX5_init 143 = .ok (.iconst 0, 1) := by decide +kernel
theorem dX5_init_144 : decode cX5_init 144 = .ok (.iconst 1, 1) := by decide +kernel
theorem dX5_init_145 : decode cX5_init 145 = .ok (.bastore, 1) := by decide +kernel
theorem dX5_init_146 : decode cX5_init 146 = .ok (.aload_n 0, 1) := by decide +kernel
theorem dX5_init_147 : decode cX5_init 147 = .ok (.getfield 17, 3) := by decide +kernel
theorem dX5_init_150 : decode cX5_init 150 = .ok (.iconst 0, 1) := by decide +kernel
theorem dX5_init_151 : decode cX5_init 151 = .ok (.iconst 1, 1) := by decide +kernel
theorem dX5_init_152 : decode cX5_init 152 = .ok (.bastore, 1) := by decide +kernel
theorem dX5_init_153 : decode cX5_init 153 = .ok (.aload_n 0, 1) := by decide +kernel
theorem dX5_init_154 : decode cX5_init 154 = .ok (.getfield 20, 3) := by decide +kernel
theorem dX5_init_157 : decode cX5_init 157 = .ok (.iconst 0, 1) := by decide +kernel
theorem dX5_init_158 : decode cX5_init 158 = .ok (.iconst (-1), 1) := by decide +kernel
theorem dX5_init_159 : decode cX5_init 159 = .ok (.iastore, 1) := by decide +kernel
theorem dX5_init_160 : decode cX5_init 160 = .ok (.return_, 1) := by decide +kernel
theorem dX5_thrown_0 : decode cX5_thrown 0 = .ok (.aload_n 0, 1) := by decide +kernel
theorem dX5_thrown_1 : decode cX5_thrown 1 = .ok (.getfield 56, 3) := by decide +kernel
theorem dX5_thrown_4 : decode cX5_thrown 4 = .ok (.ireturn, 1) := by decide +kernel
theorem dX5_feed_0 : decode cX5_feed 0 = .ok (.aload_n 0, 1) := by decide +kernel
theorem dX5_feed_1 : decode cX5_feed 1 = .ok (.iload_n 1, 1) := by decide +kernel
theorem dX5_feed_2 : decode cX5_feed 2 = .ok (.iconst 1, 1) := by decide +kernel
theorem dX5_feed_3 : decode cX5_feed 3 = .ok (.if_icmp .lt 21, 3) := by decide +kernel
theorem dX5_feed_6 : decode cX5_feed 6 = .ok (.iload_n 1, 1) := by decide +kernel
theorem dX5_feed_7 : decode cX5_feed 7 = .ok (.bipush 8, 2) := by decide +kernel
theorem dX5_feed_9 : decode cX5_feed 9 = .ok (.if_icmp .gt 15, 3) := by decide +kernel
theorem dX5_feed_12 : decode cX5_feed 12 = .ok (.aload_n 0, 1) := by decide +kernel
theorem dX5_feed_13 : decode cX5_feed 13 = .ok (.getfield 60, 3) := by decide +kernel
theorem dX5_feed_16 : decode cX5_feed 16 = .ok (.iload_n 1, 1) := by decide +kernel
theorem dX5_feed_17 : decode cX5_feed 17 = .ok (.iadd, 1) := by decide +kernel
theorem dX5_feed_18 : decode cX5_feed 18 = .ok (.sipush 200, 3) := by decide +kernel
theorem dX5_feed_21 : decode cX5_feed 21 = .ok (.if_icmp .le 7, 3) := by decide +kernel
theorem dX5_feed_24 : decode cX5_feed 24 = .ok (.iconst 1, 1) := by decide +kernel
theorem dX5_feed_25 : decode cX5_feed 25 = .ok (.goto 4, 3) := by decide +kernel
theorem dX5_feed_28 : decode cX5_feed 28 = .ok (.iconst 0, 1) := by decide +kernel
theorem dX5_feed_29 : decode cX5_feed 29 = .ok (.putfield 56, 3) := by decide +kernel
theorem dX5_feed_32 : decode cX5_feed 32 = .ok (.aload_n 0, 1) := by decide +kernel
theorem dX5_feed_33 : decode cX5_feed 33 = .ok (.getfield 56, 3) := by decide +kernel
theorem dX5_feed_36 : decode cX5_feed 36 = .ok (.ifCond .le 5, 3) := by decide +kernel
theorem dX5_feed_39 : decode cX5_feed 39 = .ok (.iconst 0, 1) := by decide +kernel
theorem dX5_feed_40 : decode cX5_feed 40 = .ok (.ireturn, 1) := by decide +kernel
theorem dX5_feed_41 : decode cX5_feed 41 = .ok (.iconst 0, 1) := by decide +kernel
theorem dX5_feed_42 : decode cX5_feed 42 = .ok (.istore 4, 2) := by decide +kernel
theorem dX5_feed_44 : decode cX5_feed 44 = .ok (.iload 4, 2) := by decide +kernel
theorem dX5_feed_46 : decode cX5_feed 46 = .ok (.iload_n 1, 1) := by decide +kernel
theorem dX5_feed_47 : decode cX5_feed 47 = .ok (.if_icmp .ge 33, 3) := by decide +kernel
theorem dX5_feed_50 : decode cX5_feed 50 = .ok (.aload_n 0, 1) := by decide +kernel
theorem dX5_feed_51 : decode cX5_feed 51 = .ok (.getfield 7, 3) := by decide +kernel
theorem dX5_feed_54 : decode cX5_feed 54 = .ok (.aload_n 0, 1) := by decide +kernel
theorem dX5_feed_55 : decode cX5_feed 55 = .ok (.getfield 60, 3) := by decide +kernel
theorem dX5_feed_58 : decode cX5_feed 58 = .ok (.iload 4, 2) := by decide +kernel
theorem dX5_feed_60 : decode cX5_feed 60 = .ok (.iadd, 1) := by decide +kernel
theorem dX5_feed_61 : decode cX5_feed 61 = .ok (.lload_n 2, 1) := by decide +kernel
theorem dX5_feed_62 : decode cX5_feed 62 = .ok (.bipush 8, 2) := by decide +kernel
theorem dX5_feed_64 : decode cX5_feed 64 = .ok (.iload 4, 2) := by decide +kernel
theorem dX5_feed_66 : decode cX5_feed 66 = .ok (.imul, 1) := by decide +kernel
theorem dX5_feed_67 : decode cX5_feed 67 = .ok (.lshr, 1) := by decide +kernel
theorem dX5_feed_68 : decode cX5_feed 68 = .ok (.ldc2_w 63, 3) := by decide +kernel
theorem dX5_feed_71 : decode cX5_feed 71 = .ok (.land, 1) := by decide +kernel
theorem dX5_feed_72 : decode cX5_feed 72 = .ok (.l2i, 1) := by decide +kernel
theorem dX5_feed_73 : decode cX5_feed 73 = .ok (.iastore, 1) := by decide +kernel
theorem dX5_feed_74 : decode cX5_feed 74 = .ok (.iinc 4 1, 3) := by decide +kernel
theorem dX5_feed_77 : decode cX5_feed 77 = .ok (.goto (-33), 3) := by decide +kernel
theorem dX5_feed_80 : decode cX5_feed 80 = .ok (.aload_n 0, 1) := by decide +kernel
theorem dX5_feed_81 : decode cX5_feed 81 = .ok (.dup, 1) := by decide +kernel
theorem dX5_feed_82 : decode cX5_feed 82 = .ok (.getfield 60, 3) := by decide +kernel
theorem dX5_feed_85 : decode cX5_feed 85 = .ok (.iload_n 1, 1) := by decide +kernel
theorem dX5_feed_86 : decode cX5_feed 86 = .ok (.iadd, 1) := by decide +kernel
theorem dX5_feed_87 : decode cX5_feed 87 = .ok (.putfield 60, 3) := by decide +kernel
theorem dX5_feed_90 : decode cX5_feed 90 = .ok (.aload_n 0, 1) := by decide +kernel
theorem dX5_feed_91 : decode cX5_feed 91 = .ok (.getfield 60, 3) := by decide +kernel
theorem dX5_feed_94 : decode cX5_feed 94 = .ok (.ireturn, 1) := by decide +kernel
theorem dX5_takeTape_0 : decode cX5_takeTape 0 = .ok (.aload_n 0, 1) := by decide +kernel
theorem dX5_takeTape_1 : decode cX5_takeTape 1 = .ok (.aload_n 0, 1) := by decide +kernel
theorem dX5_takeTape_2 : decode cX5_takeTape 2 = .ok (.getfield 60, 3) := by decide +kernel
theorem dX5_takeTape_5 : decode cX5_takeTape 5 = .ok (.putfield 65, 3) := by decide +kernel
theorem dX5_takeTape_8 : decode cX5_takeTape 8 = .ok (.iconst 0, 1) := by decide +kernel
theorem dX5_takeTape_9 : decode cX5_takeTape 9 = .ok (.istore_n 1, 1) := by decide +kernel
theorem dX5_takeTape_10 : decode cX5_takeTape 10 = .ok (.iload_n 1, 1) := by decide +kernel
theorem dX5_takeTape_11 : decode cX5_takeTape 11 = .ok (.aload_n 0, 1) := by decide +kernel
theorem dX5_takeTape_12 : decode cX5_takeTape 12 = .ok (.getfield 60, 3) := by decide +kernel
theorem dX5_takeTape_15 : decode cX5_takeTape 15 = .ok (.if_icmp .ge 21, 3) := by decide +kernel
theorem dX5_takeTape_18 : decode cX5_takeTape 18 = .ok (.aload_n 0, 1) := by decide +kernel
theorem dX5_takeTape_19 : decode cX5_takeTape 19 = .ok (.getfield 44, 3) := by decide +kernel
theorem dX5_takeTape_22 : decode cX5_takeTape 22 = .ok (.iload_n 1, 1) := by decide +kernel
theorem dX5_takeTape_23 : decode cX5_takeTape 23 = .ok (.aload_n 0, 1) := by decide +kernel
theorem dX5_takeTape_24 : decode cX5_takeTape 24 = .ok (.getfield 7, 3) := by decide +kernel
theorem dX5_takeTape_27 : decode cX5_takeTape 27 = .ok (.iload_n 1, 1) := by decide +kernel
theorem dX5_takeTape_28 : decode cX5_takeTape 28 = .ok (.iaload, 1) := by decide +kernel
theorem dX5_takeTape_29 : decode cX5_takeTape 29 = .ok (.iastore, 1) := by decide +kernel
theorem dX5_takeTape_30 : decode cX5_takeTape 30 = .ok (.iinc 1 1, 3) := by decide +kernel
theorem dX5_takeTape_33 : decode cX5_takeTape 33 = .ok (.goto (-23), 3) := by decide +kernel
theorem dX5_takeTape_36 : decode cX5_takeTape 36 = .ok (.aload_n 0, 1) := by decide +kernel
theorem dX5_takeTape_37 : decode cX5_takeTape 37 = .ok (.iconst 0, 1) := by decide +kernel
theorem dX5_takeTape_38 : decode cX5_takeTape 38 = .ok (.putfield 60, 3) := by decide +kernel
theorem dX5_takeTape_41 : decode cX5_takeTape 41 = .ok (.return_, 1) := by decide +kernel
theorem dX5_read_0 : decode cX5_read 0 = .ok (.aload_n 0, 1) := by decide +kernel
theorem dX5_read_1 : decode cX5_read 1 = .ok (.iconst 0, 1) := by decide +kernel
theorem dX5_read_2 : decode cX5_read 2 = .ok (.putfield 68, 3) := by decide +kernel
theorem dX5_read_5 : decode cX5_read 5 = .ok (.iconst 0, 1) := by decide +kernel
theorem dX5_read_6 : decode cX5_read 6 = .ok (.istore_n 1, 1) := by decide +kernel
theorem dX5_read_7 : decode cX5_read 7 = .ok (.iload_n 1, 1) := by decide +kernel
theorem dX5_read_8 : decode cX5_read 8 = .ok (.aload_n 0, 1) := by decide +kernel
theorem dX5_read_9 : decode cX5_read 9 = .ok (.getfield 65, 3) := by decide +kernel
theorem dX5_read_12 : decode cX5_read 12 = .ok (.if_icmp .ge 282, 3) := by decide +kernel
theorem dX5_read_15 : decode cX5_read 15 = .ok (.aload_n 0, 1) := by decide +kernel
theorem dX5_read_16 : decode cX5_read 16 = .ok (.getfield 44, 3) := by decide +kernel
theorem dX5_read_19 : decode cX5_read 19 = .ok (.iload_n 1, 1) := by decide +kernel
theorem dX5_read_20 : decode cX5_read 20 = .ok (.iaload, 1) := by decide +kernel
theorem dX5_read_21 : decode cX5_read 21 = .ok (.istore_n 2, 1) := by decide +kernel
theorem dX5_read_22 : decode cX5_read 22 = .ok (.iload_n 2, 1) := by decide +kernel
theorem dX5_read_23 : decode cX5_read 23 = .ok (.sipush 128, 3) := by decide +kernel
theorem dX5_read_26 : decode cX5_read 26 = .ok (.if_icmp .ge 7, 3) := by decide +kernel
theorem dX5_read_29 : decode cX5_read 29 = .ok (.iconst 0, 1) := by decide +kernel
theorem dX5_read_30 : decode cX5_read 30 = .ok (.goto 58, 3) := by decide +kernel
theorem dX5_read_33 : decode cX5_read 33 = .ok (.iload_n 2, 1) := by decide +kernel
theorem dX5_read_34 : decode cX5_read 34 = .ok (.sipush 194, 3) := by decide +kernel
theorem dX5_read_37 : decode cX5_read 37 = .ok (.if_icmp .lt 14, 3) := by decide +kernel
theorem dX5_read_40 : decode cX5_read 40 = .ok (.iload_n 2, 1) := by decide +kernel
theorem dX5_read_41 : decode cX5_read 41 = .ok (.sipush 223, 3) := by decide +kernel
theorem dX5_read_44 : decode cX5_read 44 = .ok (.if_icmp .gt 7, 3) := by decide +kernel
theorem dX5_read_47 : decode cX5_read 47 = .ok (.iconst 1, 1) := by decide +kernel
theorem dX5_read_48 : decode cX5_read 48 = .ok (.goto 40, 3) := by decide +kernel
theorem dX5_read_51 : decode cX5_read 51 = .ok (.iload_n 2, 1) := by decide +kernel
theorem dX5_read_52 : decode cX5_read 52 = .ok (.sipush 224, 3) := by decide +kernel
theorem dX5_read_55 : decode cX5_read 55 = .ok (.if_icmp .lt 14, 3) := by decide +kernel
theorem dX5_read_58 : decode cX5_read 58 = .ok (.iload_n 2, 1) := by decide +kernel
theorem dX5_read_59 : decode cX5_read 59 = .ok (.sipush 239, 3) := by decide +kernel
theorem dX5_read_62 : decode cX5_read 62 = .ok (.if_icmp .gt 7, 3) := by decide +kernel
theorem dX5_read_65 : decode cX5_read 65 = .ok (.iconst 2, 1) := by decide +kernel
theorem dX5_read_66 : decode cX5_read 66 = .ok (.goto 22, 3) := by decide +kernel
theorem dX5_read_69 : decode cX5_read 69 = .ok (.iload_n 2, 1) := by decide +kernel
theorem dX5_read_70 : decode cX5_read 70 = .ok (.sipush 240, 3) := by decide +kernel
theorem dX5_read_73 : decode cX5_read 73 = .ok (.if_icmp .lt 14, 3) := by decide +kernel
theorem dX5_read_76 : decode cX5_read 76 = .ok (.iload_n 2, 1) := by decide +kernel
theorem dX5_read_77 : decode cX5_read 77 = .ok (.sipush 244, 3) := by decide +kernel
theorem dX5_read_80 : decode cX5_read 80 = .ok (.if_icmp .gt 7, 3) := by decide +kernel
theorem dX5_read_83 : decode cX5_read 83 = .ok (.iconst 3, 1) := by decide +kernel
theorem dX5_read_84 : decode cX5_read 84 = .ok (.goto 4, 3) := by decide +kernel
theorem dX5_read_87 : decode cX5_read 87 = .ok (.iconst (-1), 1) := by decide +kernel
theorem dX5_read_88 : decode cX5_read 88 = .ok (.istore_n 3, 1) := by decide +kernel
theorem dX5_read_89 : decode cX5_read 89 = .ok (.iload_n 3, 1) := by decide +kernel
theorem dX5_read_90 : decode cX5_read 90 = .ok (.ifCond .lt 13, 3) := by decide +kernel
theorem dX5_read_93 : decode cX5_read 93 = .ok (.iload_n 1, 1) := by decide +kernel
theorem dX5_read_94 : decode cX5_read 94 = .ok (.iload_n 3, 1) := by decide +kernel
theorem dX5_read_95 : decode cX5_read 95 = .ok (.iadd, 1) := by decide +kernel
theorem dX5_read_96 : decode cX5_read 96 = .ok (.aload_n 0, 1) := by decide +kernel
theorem dX5_read_97 : decode cX5_read 97 = .ok (.getfield 65, 3) := by decide +kernel
theorem dX5_read_100 : decode cX5_read 100 = .ok (.if_icmp .lt 5, 3) := by decide +kernel
theorem dX5_read_103 : decode cX5_read 103 = .ok (.iload_n 1, 1) := by decide +kernel
theorem dX5_read_104 : decode cX5_read 104 = .ok (.ireturn, 1) := by decide +kernel
theorem dX5_read_105 : decode cX5_read 105 = .ok (.iload_n 3, 1) := by decide +kernel
theorem dX5_read_106 : decode cX5_read 106 = .ok (.ifCond .ne 7, 3) := by decide +kernel
theorem dX5_read_109 : decode cX5_read 109 = .ok (.iload_n 2, 1) := by decide +kernel
theorem dX5_read_110 : decode cX5_read 110 = .ok (.goto 31, 3) := by decide +kernel
theorem dX5_read_113 : decode cX5_read 113 = .ok (.iload_n 3, 1) := by decide +kernel
theorem dX5_read_114 : decode cX5_read 114 = .ok (.iconst 1, 1) := by decide +kernel
theorem dX5_read_115 : decode cX5_read 115 = .ok (.if_icmp .ne 10, 3) := by decide +kernel
theorem dX5_read_118 : decode cX5_read 118 = .ok (.iload_n 2, 1) := by decide +kernel
theorem dX5_read_119 : decode cX5_read 119 = .ok (.bipush 31, 2) := by decide +kernel
theorem dX5_read_121 : decode cX5_read 121 = .ok (.iand, 1) := by decide +kernel
theorem dX5_read_122 : decode cX5_read 122 = .ok (.goto 19, 3) := by decide +kernel
theorem dX5_read_125 : decode cX5_read 125 = .ok (.iload_n 3, 1) := by decide +kernel
theorem dX5_read_126 : decode cX5_read 126 = .ok (.iconst 2, 1) := by decide +kernel
theorem dX5_read_127 : decode cX5_read 127 = .ok (.if_icmp .ne 10, 3) := by decide +kernel
theorem dX5_read_130 : decode cX5_read 130 = .ok (.iload_n 2, 1) := by decide +kernel
theorem dX5_read_131 : decode cX5_read 131 = .ok (.bipush 15, 2) := by decide +kernel
theorem dX5_read_133 : decode cX5_read 133 = .ok (.iand, 1) := by decide +kernel
theorem dX5_read_134 : decode cX5_read 134 = .ok (.goto 7, 3) := by decide +kernel
theorem dX5_read_137 : decode cX5_read 137 = .ok (.iload_n 2, 1) := by decide +kernel
theorem dX5_read_138 : decode cX5_read 138 = .ok (.bipush 7, 2) := by decide +kernel
theorem dX5_read_140 : decode cX5_read 140 = .ok (.iand, 1) := by decide +kernel
theorem dX5_read_141 : decode cX5_read 141 = .ok (.istore 4, 2) := by decide +kernel
theorem dX5_read_143 : decode cX5_read 143 = .ok (.iconst 1, 1) := by decide +kernel
theorem dX5_read_144 : decode cX5_read 144 = .ok (.istore 5, 2) := by decide +kernel
theorem dX5_read_146 : decode cX5_read 146 = .ok (.iload 5, 2) := by decide +kernel
theorem dX5_read_148 : decode cX5_read 148 = .ok (.iload_n 3, 1) := by decide +kernel
theorem dX5_read_149 : decode cX5_read 149 = .ok (.if_icmp .gt 51, 3) := by decide +kernel
theorem dX5_read_152 : decode cX5_read 152 = .ok (.aload_n 0, 1) := by decide +kernel
theorem dX5_read_153 : decode cX5_read 153 = .ok (.getfield 44, 3) := by decide +kernel
theorem dX5_read_156 : decode cX5_read 156 = .ok (.iload_n 1, 1) := by decide +kernel
theorem dX5_read_157 : decode cX5_read 157 = .ok (.iload 5, 2) := by decide +kernel
theorem dX5_read_159 : decode cX5_read 159 = .ok (.iadd, 1) := by decide +kernel
theorem dX5_read_160 : decode cX5_read 160 = .ok (.iaload, 1) := by decide +kernel
theorem dX5_read_161 : decode cX5_read 161 = .ok (.istore 6, 2) := by decide +kernel
theorem dX5_read_163 : decode cX5_read 163 = .ok (.iload 6, 2) := by decide +kernel
theorem dX5_read_165 : decode cX5_read 165 = .ok (.sipush 128, 3) := by decide +kernel
theorem dX5_read_168 : decode cX5_read 168 = .ok (.if_icmp .lt 11, 3) := by decide +kernel
theorem dX5_read_171 : decode cX5_read 171 = .ok (.iload 6, 2) := by decide +kernel
theorem dX5_read_173 : decode cX5_read 173 = .ok (.sipush 191, 3) := by decide +kernel
theorem dX5_read_176 : decode cX5_read 176 = .ok (.if_icmp .le 5, 3) := by decide +kernel
theorem dX5_read_179 : decode cX5_read 179 = .ok (.iload_n 1, 1) := by decide +kernel
theorem dX5_read_180 : decode cX5_read 180 = .ok (.ireturn, 1) := by decide +kernel
theorem dX5_read_181 : decode cX5_read 181 = .ok (.iload 4, 2) := by decide +kernel
theorem dX5_read_183 : decode cX5_read 183 = .ok (.bipush 6, 2) := by decide +kernel
theorem dX5_read_185 : decode cX5_read 185 = .ok (.ishl, 1) := by decide +kernel
theorem dX5_read_186 : decode cX5_read 186 = .ok (.iload 6, 2) := by decide +kernel
theorem dX5_read_188 : decode cX5_read 188 = .ok (.bipush 63, 2) := by decide +kernel
theorem dX5_read_190 : decode cX5_read 190 = .ok (.iand, 1) := by decide +kernel
theorem dX5_read_191 : decode cX5_read 191 = .ok (.ior, 1) := by decide +kernel
theorem dX5_read_192 : decode cX5_read 192 = .ok (.istore 4, 2) := by decide +kernel
theorem dX5_read_194 : decode cX5_read 194 = .ok (.iinc 5 1, 3) := by decide +kernel
theorem dX5_read_197 : decode cX5_read 197 = .ok (.goto (-51), 3) := by decide +kernel
theorem dX5_read_200 : decode cX5_read 200 = .ok (.iload_n 3, 1) := by decide +kernel
theorem dX5_read_201 : decode cX5_read 201 = .ok (.ifCond .ne 7, 3) := by decide +kernel
theorem dX5_read_204 : decode cX5_read 204 = .ok (.iconst 0, 1) := by decide +kernel
theorem dX5_read_205 : decode cX5_read 205 = .ok (.goto 27, 3) := by decide +kernel
theorem dX5_read_208 : decode cX5_read 208 = .ok (.iload_n 3, 1) := by decide +kernel
theorem dX5_read_209 : decode cX5_read 209 = .ok (.iconst 1, 1) := by decide +kernel
theorem dX5_read_210 : decode cX5_read 210 = .ok (.if_icmp .ne 9, 3) := by decide +kernel
theorem dX5_read_213 : decode cX5_read 213 = .ok (.sipush 128, 3) := by decide +kernel
theorem dX5_read_216 : decode cX5_read 216 = .ok (.goto 16, 3) := by decide +kernel
theorem dX5_read_219 : decode cX5_read 219 = .ok (.iload_n 3, 1) := by decide +kernel
theorem dX5_read_220 : decode cX5_read 220 = .ok (.iconst 2, 1) := by decide +kernel
theorem dX5_read_221 : decode cX5_read 221 = .ok (.if_icmp .ne 9, 3) := by decide +kernel
theorem dX5_read_224 : decode cX5_read 224 = .ok (.sipush 2048, 3) := by decide +kernel
theorem dX5_read_227 : decode cX5_read 227 = .ok (.goto 5, 3) := by decide +kernel
theorem dX5_read_230 : decode cX5_read 230 = .ok (.ldc 71, 2) := by decide +kernel
theorem dX5_read_232 : decode cX5_read 232 = .ok (.istore 5, 2) := by decide +kernel
theorem dX5_read_234 : decode cX5_read 234 = .ok (.iload 4, 2) := by decide +kernel
theorem dX5_read_236 : decode cX5_read 236 = .ok (.iload 5, 2) := by decide +kernel
theorem dX5_read_238 : decode cX5_read 238 = .ok (.if_icmp .lt 24, 3) := by decide +kernel
theorem dX5_read_241 : decode cX5_read 241 = .ok (.iload 4, 2) := by decide +kernel
theorem dX5_read_243 : decode cX5_read 243 = .ok (.ldc 72, 2) := by decide +kernel
theorem dX5_read_245 : decode cX5_read 245 = .ok (.if_icmp .gt 17, 3) := by decide +kernel
theorem dX5_read_248 : decode cX5_read 248 = .ok (.iload 4, 2) := by decide +kernel
theorem dX5_read_250 : decode cX5_read 250 = .ok (.ldc 73, 2) := by decide +kernel
theorem dX5_read_252 : decode cX5_read 252 = .ok (.if_icmp .lt 12, 3) := by decide +kernel
theorem dX5_read_255 : decode cX5_read 255 = .ok (.iload 4, 2) := by decide +kernel
theorem dX5_read_257 : decode cX5_read 257 = .ok (.ldc 74, 2) := by decide +kernel
theorem dX5_read_259 : decode cX5_read 259 = .ok (.if_icmp .gt 5, 3) := by decide +kernel
theorem dX5_read_262 : decode cX5_read 262 = .ok (.iload_n 1, 1) := by decide +kernel
theorem dX5_read_263 : decode cX5_read 263 = .ok (.ireturn, 1) := by decide +kernel
theorem dX5_read_264 : decode cX5_read 264 = .ok (.aload_n 0, 1) := by decide +kernel
theorem dX5_read_265 : decode cX5_read 265 = .ok (.getfield 47, 3) := by decide +kernel
theorem dX5_read_268 : decode cX5_read 268 = .ok (.aload_n 0, 1) := by decide +kernel
theorem dX5_read_269 : decode cX5_read 269 = .ok (.getfield 68, 3) := by decide +kernel
theorem dX5_read_272 : decode cX5_read 272 = .ok (.iload 4, 2) := by decide +kernel
theorem dX5_read_274 : decode cX5_read 274 = .ok (.iastore, 1) := by decide +kernel
theorem dX5_read_275 : decode cX5_read 275 = .ok (.aload_n 0, 1) := by decide +kernel
theorem dX5_read_276 : decode cX5_read 276 = .ok (.dup, 1) := by decide +kernel
theorem dX5_read_277 : decode cX5_read 277 = .ok (.getfield 68, 3) := by decide +kernel
theorem dX5_read_280 : decode cX5_read 280 = .ok (.iconst 1, 1) := by decide +kernel
theorem dX5_read_281 : decode cX5_read 281 = .ok (.iadd, 1) := by decide +kernel
theorem dX5_read_282 : decode cX5_read 282 = .ok (.putfield 68, 3) := by decide +kernel
theorem dX5_read_285 : decode cX5_read 285 = .ok (.iload_n 1, 1) := by decide +kernel
theorem dX5_read_286 : decode cX5_read 286 = .ok (.iload_n 3, 1) := by decide +kernel
theorem dX5_read_287 : decode cX5_read 287 = .ok (.iconst 1, 1) := by decide +kernel
theorem dX5_read_288 : decode cX5_read 288 = .ok (.iadd, 1) := by decide +kernel
theorem dX5_read_289 : decode cX5_read 289 = .ok (.iadd, 1) := by decide +kernel
theorem dX5_read_290 : decode cX5_read 290 = .ok (.istore_n 1, 1) := by decide +kernel
theorem dX5_read_291 : decode cX5_read 291 = .ok (.goto (-284), 3) := by decide +kernel
theorem dX5_read_294 : decode cX5_read 294 = .ok (.iconst (-1), 1) := by decide +kernel
theorem dX5_read_295 : decode cX5_read 295 = .ok (.ireturn, 1) := by decide +kernel
theorem dX5_letters_0 : decode cX5_letters 0 = .ok (.iload_n 0, 1) := by decide +kernel
theorem dX5_letters_1 : decode cX5_letters 1 = .ok (.tableswitch 71 0 6 #[43, 47, 51, 55, 59, 63, 67], 43) := by decide +kernel
theorem dX5_letters_44 : decode cX5_letters 44 = .ok (.ldc2_w 75, 3) := by decide +kernel
theorem dX5_letters_47 : decode cX5_letters 47 = .ok (.lreturn, 1) := by decide +kernel
theorem dX5_letters_48 : decode cX5_letters 48 = .ok (.ldc2_w 77, 3) := by decide +kernel
theorem dX5_letters_51 : decode cX5_letters 51 = .ok (.lreturn, 1) := by decide +kernel
theorem dX5_letters_52 : decode cX5_letters 52 = .ok (.ldc2_w 79, 3) := by decide +kernel
theorem dX5_letters_55 : decode cX5_letters 55 = .ok (.lreturn, 1) := by decide +kernel
theorem dX5_letters_56 : decode cX5_letters 56 = .ok (.ldc2_w 81, 3) := by decide +kernel
theorem dX5_letters_59 : decode cX5_letters 59 = .ok (.lreturn, 1) := by decide +kernel
theorem dX5_letters_60 : decode cX5_letters 60 = .ok (.ldc2_w 83, 3) := by decide +kernel
theorem dX5_letters_63 : decode cX5_letters 63 = .ok (.lreturn, 1) := by decide +kernel
theorem dX5_letters_64 : decode cX5_letters 64 = .ok (.ldc2_w 85, 3) := by decide +kernel
theorem dX5_letters_67 : decode cX5_letters 67 = .ok (.lreturn, 1) := by decide +kernel
theorem dX5_letters_68 : decode cX5_letters 68 = .ok (.ldc2_w 87, 3) := by decide +kernel
theorem dX5_letters_71 : decode cX5_letters 71 = .ok (.lreturn, 1) := by decide +kernel
theorem dX5_letters_72 : decode cX5_letters 72 = .ok (.ldc2_w 89, 3) := by decide +kernel
theorem dX5_letters_75 : decode cX5_letters 75 = .ok (.lreturn, 1) := by decide +kernel
theorem dX5_marks_0 : decode cX5_marks 0 = .ok (.iload_n 0, 1) := by decide +kernel
theorem dX5_marks_1 : decode cX5_marks 1 = .ok (.tableswitch 71 0 6 #[43, 47, 51, 55, 59, 63, 67], 43) := by decide +kernel
theorem dX5_marks_44 : decode cX5_marks 44 = .ok (.ldc2_w 91, 3) := by decide +kernel
theorem dX5_marks_47 : decode cX5_marks 47 = .ok (.lreturn, 1) := by decide +kernel
theorem dX5_marks_48 : decode cX5_marks 48 = .ok (.ldc2_w 93, 3) := by decide +kernel
theorem dX5_marks_51 : decode cX5_marks 51 = .ok (.lreturn, 1) := by decide +kernel
theorem dX5_marks_52 : decode cX5_marks 52 = .ok (.ldc2_w 95, 3) := by decide +kernel
theorem dX5_marks_55 : decode cX5_marks 55 = .ok (.lreturn, 1) := by decide +kernel
theorem dX5_marks_56 : decode cX5_marks 56 = .ok (.ldc2_w 97, 3) := by decide +kernel
theorem dX5_marks_59 : decode cX5_marks 59 = .ok (.lreturn, 1) := by decide +kernel
theorem dX5_marks_60 : decode cX5_marks 60 = .ok (.ldc2_w 91, 3) := by decide +kernel
theorem dX5_marks_63 : decode cX5_marks 63 = .ok (.lreturn, 1) := by decide +kernel
theorem dX5_marks_64 : decode cX5_marks 64 = .ok (.ldc2_w 93, 3) := by decide +kernel
theorem dX5_marks_67 : decode cX5_marks 67 = .ok (.lreturn, 1) := by decide +kernel
theorem dX5_marks_68 : decode cX5_marks 68 = .ok (.ldc2_w 95, 3) := by decide +kernel
theorem dX5_marks_71 : decode cX5_marks 71 = .ok (.lreturn, 1) := by decide +kernel
theorem dX5_marks_72 : decode cX5_marks 72 = .ok (.ldc2_w 99, 3) := by decide +kernel
theorem dX5_marks_75 : decode cX5_marks 75 = .ok (.lreturn, 1) := by decide +kernel
theorem dX5_markOf_0 : decode cX5_markOf 0 = .ok (.iload_n 0, 1) := by decide +kernel
theorem dX5_markOf_1 : decode cX5_markOf 1 = .ok (.bipush 52, 2) := by decide +kernel
theorem dX5_markOf_3 : decode cX5_markOf 3 = .ok (.if_icmp .ge 14, 3) := by decide +kernel
theorem dX5_markOf_6 : decode cX5_markOf 6 = .ok (.sipush 768, 3) := by decide +kernel
theorem dX5_markOf_9 : decode cX5_markOf 9 = .ok (.iload_n 0, 1) := by decide +kernel
theorem dX5_markOf_10 : decode cX5_markOf 10 = .ok (.iadd, 1) := by decide +kernel
theorem dX5_markOf_11 : decode cX5_markOf 11 = .ok (.bipush 48, 2) := by decide +kernel
theorem dX5_markOf_13 : decode cX5_markOf 13 = .ok (.isub, 1) := by decide +kernel
theorem dX5_markOf_14 : decode cX5_markOf 14 = .ok (.goto 30, 3) := by decide +kernel
theorem dX5_markOf_17 : decode cX5_markOf 17 = .ok (.iload_n 0, 1) := by decide +kernel
theorem dX5_markOf_18 : decode cX5_markOf 18 = .ok (.bipush 52, 2) := by decide +kernel
theorem dX5_markOf_20 : decode cX5_markOf 20 = .ok (.if_icmp .ne 9, 3) := by decide +kernel
theorem dX5_markOf_23 : decode cX5_markOf 23 = .ok (.sipush 776, 3) := by decide +kernel
theorem dX5_markOf_26 : decode cX5_markOf 26 = .ok (.goto 18, 3) := by decide +kernel
theorem dX5_markOf_29 : decode cX5_markOf 29 = .ok (.iload_n 0, 1) := by decide +kernel
theorem dX5_markOf_30 : decode cX5_markOf 30 = .ok (.bipush 53, 2) := by decide +kernel
theorem dX5_markOf_32 : decode cX5_markOf 32 = .ok (.if_icmp .ne 9, 3) := by decide +kernel
theorem dX5_markOf_35 : decode cX5_markOf 35 = .ok (.sipush 778, 3) := by decide +kernel
theorem dX5_markOf_38 : decode cX5_markOf 38 = .ok (.goto 6, 3) := by decide +kernel
theorem dX5_markOf_41 : decode cX5_markOf 41 = .ok (.sipush 807, 3) := by decide +kernel
theorem dX5_markOf_44 : decode cX5_markOf 44 = .ok (.ireturn, 1) := by decide +kernel
theorem dX5_small_0 : decode cX5_small 0 = .ok (.iload_n 0, 1) := by decide +kernel
theorem dX5_small_1 : decode cX5_small 1 = .ok (.bipush 65, 2) := by decide +kernel
theorem dX5_small_3 : decode cX5_small 3 = .ok (.if_icmp .lt 9, 3) := by decide +kernel
theorem dX5_small_6 : decode cX5_small 6 = .ok (.iload_n 0, 1) := by decide +kernel
theorem dX5_small_7 : decode cX5_small 7 = .ok (.bipush 90, 2) := by decide +kernel
theorem dX5_small_9 : decode cX5_small 9 = .ok (.if_icmp .le 59, 3) := by decide +kernel
theorem dX5_small_12 : decode cX5_small 12 = .ok (.iload_n 0, 1) := by decide +kernel
theorem dX5_small_13 : decode cX5_small 13 = .ok (.sipush 192, 3) := by decide +kernel
theorem dX5_small_16 : decode cX5_small 16 = .ok (.if_icmp .lt 17, 3) := by decide +kernel
theorem dX5_small_19 : decode cX5_small 19 = .ok (.iload_n 0, 1) := by decide +kernel
theorem dX5_small_20 : decode cX5_small 20 = .ok (.sipush 222, 3) := by decide +kernel
theorem dX5_small_23 : decode cX5_small 23 = .ok (.if_icmp .gt 10, 3) := by decide +kernel
theorem dX5_small_26 : decode cX5_small 26 = .ok (.iload_n 0, 1) := by decide +kernel
theorem dX5_small_27 : decode cX5_small 27 = .ok (.sipush 215, 3) := by decide +kernel
theorem dX5_small_30 : decode cX5_small 30 = .ok (.if_icmp .ne 38, 3) := by decide +kernel
theorem dX5_small_33 : decode cX5_small 33 = .ok (.iload_n 0, 1) := by decide +kernel
theorem dX5_small_34 : decode cX5_small 34 = .ok (.sipush 913, 3) := by decide +kernel
theorem dX5_small_37 : decode cX5_small 37 = .ok (.if_icmp .lt 17, 3) := by decide +kernel
theorem dX5_small_40 : decode cX5_small 40 = .ok (.iload_n 0, 1) := by decide +kernel
theorem dX5_small_41 : decode cX5_small 41 = .ok (.sipush 939, 3) := by decide +kernel
theorem dX5_small_44 : decode cX5_small 44 = .ok (.if_icmp .gt 10, 3) := by decide +kernel
theorem dX5_small_47 : decode cX5_small 47 = .ok (.iload_n 0, 1) := by decide +kernel
theorem dX5_small_48 : decode cX5_small 48 = .ok (.sipush 930, 3) := by decide +kernel
theorem dX5_small_51 : decode cX5_small 51 = .ok (.if_icmp .ne 17, 3) := by decide +kernel
theorem dX5_small_54 : decode cX5_small 54 = .ok (.iload_n 0, 1) := by decide +kernel
theorem dX5_small_55 : decode cX5_small 55 = .ok (.sipush 1040, 3) := by decide +kernel
theorem dX5_small_58 : decode cX5_small 58 = .ok (.if_icmp .lt 15, 3) := by decide +kernel
theorem dX5_small_61 : decode cX5_small 61 = .ok (.iload_n 0, 1) := by decide +kernel
theorem dX5_small_62 : decode cX5_small 62 = .ok (.sipush 1071, 3) := by decide +kernel
theorem dX5_small_65 : decode cX5_small 65 = .ok (.if_icmp .gt 8, 3) := by decide +kernel
theorem dX5_small_68 : decode cX5_small 68 = .ok (.iload_n 0, 1) := by decide +kernel
theorem dX5_small_69 : decode cX5_small 69 = .ok (.bipush 32, 2) := by decide +kernel
theorem dX5_small_71 : decode cX5_small 71 = .ok (.iadd, 1) := by decide +kernel
theorem dX5_small_72 : decode cX5_small 72 = .ok (.ireturn, 1) := by decide +kernel
theorem dX5_small_73 : decode cX5_small 73 = .ok (.iload_n 0, 1) := by decide +kernel
theorem dX5_small_74 : decode cX5_small 74 = .ok (.sipush 256, 3) := by decide +kernel
theorem dX5_small_77 : decode cX5_small 77 = .ok (.if_icmp .lt 10, 3) := by decide +kernel
theorem dX5_small_80 : decode cX5_small 80 = .ok (.iload_n 0, 1) := by decide +kernel
theorem dX5_small_81 : decode cX5_small 81 = .ok (.sipush 303, 3) := by decide +kernel
theorem dX5_small_84 : decode cX5_small 84 = .ok (.if_icmp .le 17, 3) := by decide +kernel
theorem dX5_small_87 : decode cX5_small 87 = .ok (.iload_n 0, 1) := by decide +kernel
theorem dX5_small_88 : decode cX5_small 88 = .ok (.sipush 330, 3) := by decide +kernel
theorem dX5_small_91 : decode cX5_small 91 = .ok (.if_icmp .lt 24, 3) := by decide +kernel
theorem dX5_small_94 : decode cX5_small 94 = .ok (.iload_n 0, 1) := by decide +kernel
theorem dX5_small_95 : decode cX5_small 95 = .ok (.sipush 375, 3) := by decide +kernel
theorem dX5_small_98 : decode cX5_small 98 = .ok (.if_icmp .gt 17, 3) := by decide +kernel
theorem dX5_small_101 : decode cX5_small 101 = .ok (.iload_n 0, 1) := by decide +kernel
theorem dX5_small_102 : decode cX5_small 102 = .ok (.iconst 2, 1) := by decide +kernel
theorem dX5_small_103 : decode cX5_small 103 = .ok (.irem, 1) := by decide +kernel
theorem dX5_small_104 : decode cX5_small 104 = .ok (.ifCond .ne 9, 3) := by decide +kernel
theorem dX5_small_107 : decode cX5_small 107 = .ok (.iload_n 0, 1) := by decide +kernel
theorem dX5_small_108 : decode cX5_small 108 = .ok (.iconst 1, 1) := by decide +kernel
theorem dX5_small_109 : decode cX5_small 109 = .ok (.iadd, 1) := by decide +kernel
theorem dX5_small_110 : decode cX5_small 110 = .ok (.goto 4, 3) := by decide +kernel
theorem dX5_small_113 : decode cX5_small 113 = .ok (.iload_n 0, 1) := by decide +kernel
theorem dX5_small_114 : decode cX5_small 114 = .ok (.ireturn, 1) := by decide +kernel
theorem dX5_small_115 : decode cX5_small 115 = .ok (.iload_n 0, 1) := by decide +kernel
theorem dX5_small_116 : decode cX5_small 116 = .ok (.sipush 313, 3) := by decide +kernel
theorem dX5_small_119 : decode cX5_small 119 = .ok (.if_icmp .lt 10, 3) := by decide +kernel
theorem dX5_small_122 : decode cX5_small 122 = .ok (.iload_n 0, 1) := by decide +kernel
theorem dX5_small_123 : decode cX5_small 123 = .ok (.sipush 328, 3) := by decide +kernel
theorem dX5_small_126 : decode cX5_small 126 = .ok (.if_icmp .le 17, 3) := by decide +kernel
theorem dX5_small_129 : decode cX5_small 129 = .ok (.iload_n 0, 1) := by decide +kernel
theorem dX5_small_130 : decode cX5_small 130 = .ok (.sipush 377, 3) := by decide +kernel
theorem dX5_small_133 : decode cX5_small 133 = .ok (.if_icmp .lt 25, 3) := by decide +kernel
theorem dX5_small_136 : decode cX5_small 136 = .ok (.iload_n 0, 1) := by decide +kernel
theorem dX5_small_137 : decode cX5_small 137 = .ok (.sipush 382, 3) := by decide +kernel
theorem dX5_small_140 : decode cX5_small 140 = .ok (.if_icmp .gt 18, 3) := by decide +kernel
theorem dX5_small_143 : decode cX5_small 143 = .ok (.iload_n 0, 1) := by decide +kernel
theorem dX5_small_144 : decode cX5_small 144 = .ok (.iconst 2, 1) := by decide +kernel
theorem dX5_small_145 : decode cX5_small 145 = .ok (.irem, 1) := by decide +kernel
theorem dX5_small_146 : decode cX5_small 146 = .ok (.iconst 1, 1) := by decide +kernel
theorem dX5_small_147 : decode cX5_small 147 = .ok (.if_icmp .ne 9, 3) := by decide +kernel
theorem dX5_small_150 : decode cX5_small 150 = .ok (.iload_n 0, 1) := by decide +kernel
theorem dX5_small_151 : decode cX5_small 151 = .ok (.iconst 1, 1) := by decide +kernel
theorem dX5_small_152 : decode cX5_small 152 = .ok (.iadd, 1) := by decide +kernel
theorem dX5_small_153 : decode cX5_small 153 = .ok (.goto 4, 3) := by decide +kernel
theorem dX5_small_156 : decode cX5_small 156 = .ok (.iload_n 0, 1) := by decide +kernel
theorem dX5_small_157 : decode cX5_small 157 = .ok (.ireturn, 1) := by decide +kernel
theorem dX5_small_158 : decode cX5_small 158 = .ok (.iload_n 0, 1) := by decide +kernel
theorem dX5_small_159 : decode cX5_small 159 = .ok (.sipush 1024, 3) := by decide +kernel
theorem dX5_small_162 : decode cX5_small 162 = .ok (.if_icmp .lt 15, 3) := by decide +kernel
theorem dX5_small_165 : decode cX5_small 165 = .ok (.iload_n 0, 1) := by decide +kernel
theorem dX5_small_166 : decode cX5_small 166 = .ok (.sipush 1039, 3) := by decide +kernel
theorem dX5_small_169 : decode cX5_small 169 = .ok (.if_icmp .gt 8, 3) := by decide +kernel
theorem dX5_small_172 : decode cX5_small 172 = .ok (.iload_n 0, 1) := by decide +kernel
theorem dX5_small_173 : decode cX5_small 173 = .ok (.bipush 80, 2) := by decide +kernel
theorem dX5_small_175 : decode cX5_small 175 = .ok (.iadd, 1) := by decide +kernel
theorem dX5_small_176 : decode cX5_small 176 = .ok (.ireturn, 1) := by decide +kernel
theorem dX5_small_177 : decode cX5_small 177 = .ok (.iload_n 0, 1) := by decide +kernel
theorem dX5_small_178 : decode cX5_small 178 = .ok (.sipush 376, 3) := by decide +kernel
theorem dX5_small_181 : decode cX5_small 181 = .ok (.if_icmp .ne 9, 3) := by decide +kernel
theorem dX5_small_184 : decode cX5_small 184 = .ok (.sipush 255, 3) := by decide +kernel
theorem dX5_small_187 : decode cX5_small 187 = .ok (.goto 42, 3) := by decide +kernel
theorem dX5_small_190 : decode cX5_small 190 = .ok (.iload_n 0, 1) := by decide +kernel
theorem dX5_small_191 : decode cX5_small 191 = .ok (.sipush 962, 3) := by decide +kernel
theorem dX5_small_194 : decode cX5_small 194 = .ok (.if_icmp .ne 9, 3) := by decide +kernel
theorem dX5_small_197 : decode cX5_small 197 = .ok (.sipush 963, 3) := by decide +kernel
theorem dX5_small_200 : decode cX5_small 200 = .ok (.goto 29, 3) := by decide +kernel
theorem dX5_small_203 : decode cX5_small 203 = .ok (.iload_n 0, 1) := by decide +kernel
theorem dX5_small_204 : decode cX5_small 204 = .ok (.sipush 181, 3) := by decide +kernel
theorem dX5_small_207 : decode cX5_small 207 = .ok (.if_icmp .ne 9, 3) := by decide +kernel
theorem dX5_small_210 : decode cX5_small 210 = .ok (.sipush 956, 3) := by decide +kernel
theorem dX5_small_213 : decode cX5_small 213 = .ok (.goto 16, 3) := by decide +kernel
theorem dX5_small_216 : decode cX5_small 216 = .ok (.iload_n 0, 1) := by decide +kernel
theorem dX5_small_217 : decode cX5_small 217 = .ok (.sipush 383, 3) := by decide +kernel
theorem dX5_small_220 : decode cX5_small 220 = .ok (.if_icmp .ne 8, 3) := by decide +kernel
theorem dX5_small_223 : decode cX5_small 223 = .ok (.bipush 115, 2) := by decide +kernel
theorem dX5_small_225 : decode cX5_small 225 = .ok (.goto 4, 3) := by decide +kernel
theorem dX5_small_228 : decode cX5_small 228 = .ok (.iload_n 0, 1) := by decide +kernel
theorem dX5_small_229 : decode cX5_small 229 = .ok (.ireturn, 1) := by decide +kernel
theorem dX5_classOf_0 : decode cX5_classOf 0 = .ok (.iload_n 0, 1) := by decide +kernel
theorem dX5_classOf_1 : decode cX5_classOf 1 = .ok (.sipush 768, 3) := by decide +kernel
theorem dX5_classOf_4 : decode cX5_classOf 4 = .ok (.if_icmp .lt 16, 3) := by decide +kernel
theorem dX5_classOf_7 : decode cX5_classOf 7 = .ok (.iload_n 0, 1) := by decide +kernel
theorem dX5_classOf_8 : decode cX5_classOf 8 = .ok (.sipush 783, 3) := by decide +kernel
theorem dX5_classOf_11 : decode cX5_classOf 11 = .ok (.if_icmp .gt 9, 3) := by decide +kernel
theorem dX5_classOf_14 : decode cX5_classOf 14 = .ok (.sipush 230, 3) := by decide +kernel
theorem dX5_classOf_17 : decode cX5_classOf 17 = .ok (.goto 37, 3) := by decide +kernel
theorem dX5_classOf_20 : decode cX5_classOf 20 = .ok (.iload_n 0, 1) := by decide +kernel
theorem dX5_classOf_21 : decode cX5_classOf 21 = .ok (.sipush 803, 3) := by decide +kernel
theorem dX5_classOf_24 : decode cX5_classOf 24 = .ok (.if_icmp .ne 9, 3) := by decide +kernel
theorem dX5_classOf_27 : decode cX5_classOf 27 = .ok (.sipush 220, 3) := by decide +kernel
theorem dX5_classOf_30 : decode cX5_classOf 30 = .ok (.goto 24, 3) := by decide +kernel
theorem dX5_classOf_33 : decode cX5_classOf 33 = .ok (.iload_n 0, 1) := by decide +kernel
theorem dX5_classOf_34 : decode cX5_classOf 34 = .ok (.sipush 807, 3) := by decide +kernel
theorem dX5_classOf_37 : decode cX5_classOf 37 = .ok (.if_icmp .eq 10, 3) := by decide +kernel
theorem dX5_classOf_40 : decode cX5_classOf 40 = .ok (.iload_n 0, 1) := by decide +kernel
theorem dX5_classOf_41 : decode cX5_classOf 41 = .ok (.sipush 808, 3) := by decide +kernel
theorem dX5_classOf_44 : decode cX5_classOf 44 = .ok (.if_icmp .ne 9, 3) := by decide +kernel
theorem dX5_classOf_47 : decode cX5_classOf 47 = .ok (.sipush 202, 3) := by decide +kernel
theorem dX5_classOf_50 : decode cX5_classOf 50 = .ok (.goto 4, 3) := by decide +kernel
theorem dX5_classOf_53 : decode cX5_classOf 53 = .ok (.iconst 0, 1) := by decide +kernel
theorem dX5_classOf_54 : decode cX5_classOf 54 = .ok (.ireturn, 1) := by decide +kernel
theorem dX5_putPoint_0 : decode cX5_putPoint 0 = .ok (.iload_n 1, 1) := by decide +kernel
theorem dX5_putPoint_1 : decode cX5_putPoint 1 = .ok (.invokestatic 101, 3) := by decide +kernel
theorem dX5_putPoint_4 : decode cX5_putPoint 4 = .ok (.istore_n 2, 1) := by decide +kernel
theorem dX5_putPoint_5 : decode cX5_putPoint 5 = .ok (.iload_n 2, 1) := by decide +kernel
theorem dX5_putPoint_6 : decode cX5_putPoint 6 = .ok (.invokestatic 105, 3) := by decide +kernel
theorem dX5_putPoint_9 : decode cX5_putPoint 9 = .ok (.istore_n 3, 1) := by decide +kernel
theorem dX5_putPoint_10 : decode cX5_putPoint 10 = .ok (.aload_n 0, 1) := by decide +kernel
theorem dX5_putPoint_11 : decode cX5_putPoint 11 = .ok (.getfield 108, 3) := by decide +kernel
theorem dX5_putPoint_14 : decode cX5_putPoint 14 = .ok (.istore 4, 2) := by decide +kernel
theorem dX5_putPoint_16 : decode cX5_putPoint 16 = .ok (.iload_n 3, 1) := by decide +kernel
theorem dX5_putPoint_17 : decode cX5_putPoint 17 = .ok (.ifCond .le 46, 3) := by decide +kernel
theorem dX5_putPoint_20 : decode cX5_putPoint 20 = .ok (.iload 4, 2) := by decide +kernel
theorem dX5_putPoint_22 : decode cX5_putPoint 22 = .ok (.ifCond .le 41, 3) := by decide +kernel
theorem dX5_putPoint_25 : decode cX5_putPoint 25 = .ok (.aload_n 0, 1) := by decide +kernel
theorem dX5_putPoint_26 : decode cX5_putPoint 26 = .ok (.getfield 50, 3) := by decide +kernel
theorem dX5_putPoint_29 : decode cX5_putPoint 29 = .ok (.iload 4, 2) := by decide +kernel
theorem dX5_putPoint_31 : decode cX5_putPoint 31 = .ok (.iconst 1, 1) := by decide +kernel
theorem dX5_putPoint_32 : decode cX5_putPoint 32 = .ok (.isub, 1) := by decide +kernel
theorem dX5_putPoint_33 : decode cX5_putPoint 33 = .ok (.iaload, 1) := by decide +kernel
theorem dX5_putPoint_34 : decode cX5_putPoint 34 = .ok (.invokestatic 105, 3) := by decide +kernel
theorem dX5_putPoint_37 : decode cX5_putPoint 37 = .ok (.iload_n 3, 1) := by decide +kernel
theorem dX5_putPoint_38 : decode cX5_putPoint 38 = .ok (.if_icmp .le 25, 3) := by decide +kernel
theorem dX5_putPoint_41 : decode cX5_putPoint 41 = .ok (.aload_n 0, 1) := by decide +kernel
theorem dX5_putPoint_42 : decode cX5_putPoint 42 = .ok (.getfield 50, 3) := by decide +kernel
theorem dX5_putPoint_45 : decode cX5_putPoint 45 = .ok (.iload 4, 2) := by decide +kernel
theorem dX5_putPoint_47 : decode cX5_putPoint 47 = .ok (.aload_n 0, 1) := by decide +kernel
theorem dX5_putPoint_48 : decode cX5_putPoint 48 = .ok (.getfield 50, 3) := by decide +kernel
theorem dX5_putPoint_51 : decode cX5_putPoint 51 = .ok (.iload 4, 2) := by decide +kernel
theorem dX5_putPoint_53 : decode cX5_putPoint 53 = .ok (.iconst 1, 1) := by decide +kernel
theorem dX5_putPoint_54 : decode cX5_putPoint 54 = .ok (.isub, 1) := by decide +kernel
theorem dX5_putPoint_55 : decode cX5_putPoint 55 = .ok (.iaload, 1) := by decide +kernel
theorem dX5_putPoint_56 : decode cX5_putPoint 56 = .ok (.iastore, 1) := by decide +kernel
theorem dX5_putPoint_57 : decode cX5_putPoint 57 = .ok (.iinc 4 (-1), 3) := by decide +kernel
theorem dX5_putPoint_60 : decode cX5_putPoint 60 = .ok (.goto (-44), 3) := by decide +kernel
theorem dX5_putPoint_63 : decode cX5_putPoint 63 = .ok (.aload_n 0, 1) := by decide +kernel
theorem dX5_putPoint_64 : decode cX5_putPoint 64 = .ok (.getfield 50, 3) := by decide +kernel
theorem dX5_putPoint_67 : decode cX5_putPoint 67 = .ok (.iload 4, 2) := by decide +kernel
theorem dX5_putPoint_69 : decode cX5_putPoint 69 = .ok (.iload_n 2, 1) := by decide +kernel
theorem dX5_putPoint_70 : decode cX5_putPoint 70 = .ok (.iastore, 1) := by decide +kernel
theorem dX5_putPoint_71 : decode cX5_putPoint 71 = .ok (.aload_n 0, 1) := by decide +kernel
theorem dX5_putPoint_72 : decode cX5_putPoint 72 = .ok (.dup, 1) := by decide +kernel
theorem dX5_putPoint_73 : decode cX5_putPoint 73 = .ok (.getfield 108, 3) := by decide +kernel
theorem dX5_putPoint_76 : decode cX5_putPoint 76 = .ok (.iconst 1, 1) := by decide +kernel
theorem dX5_putPoint_77 : decode cX5_putPoint 77 = .ok (.iadd, 1) := by decide +kernel
theorem dX5_putPoint_78 : decode cX5_putPoint 78 = .ok (.putfield 108, 3) := by decide +kernel
theorem dX5_putPoint_81 : decode cX5_putPoint 81 = .ok (.return_, 1) := by decide +kernel
theorem dX5_foldAll_0 : decode cX5_foldAll 0 = .ok (.aload_n 0, 1) := by decide +kernel
theorem dX5_foldAll_1 : decode cX5_foldAll 1 = .ok (.iconst 0, 1) := by decide +kernel
theorem dX5_foldAll_2 : decode cX5_foldAll 2 = .ok (.putfield 108, 3) := by decide +kernel
theorem dX5_foldAll_5 : decode cX5_foldAll 5 = .ok (.iconst 0, 1) := by decide +kernel
theorem dX5_foldAll_6 : decode cX5_foldAll 6 = .ok (.istore_n 1, 1) := by decide +kernel
theorem dX5_foldAll_7 : decode cX5_foldAll 7 = .ok (.iload_n 1, 1) := by decide +kernel
theorem dX5_foldAll_8 : decode cX5_foldAll 8 = .ok (.aload_n 0, 1) := by decide +kernel
theorem dX5_foldAll_9 : decode cX5_foldAll 9 = .ok (.getfield 68, 3) := by decide +kernel
theorem dX5_foldAll_12 : decode cX5_foldAll 12 = .ok (.if_icmp .ge 111, 3) := by decide +kernel
theorem dX5_foldAll_15 : decode cX5_foldAll 15 = .ok (.aload_n 0, 1) := by decide +kernel
theorem dX5_foldAll_16 : decode cX5_foldAll 16 = .ok (.getfield 47, 3) := by decide +kernel
theorem dX5_foldAll_19 : decode cX5_foldAll 19 = .ok (.iload_n 1, 1) := by decide +kernel
theorem dX5_foldAll_20 : decode cX5_foldAll 20 = .ok (.iaload, 1) := by decide +kernel
theorem dX5_foldAll_21 : decode cX5_foldAll 21 = .ok (.istore_n 2, 1) := by decide +kernel
theorem dX5_foldAll_22 : decode cX5_foldAll 22 = .ok (.iload_n 2, 1) := by decide +kernel
theorem dX5_foldAll_23 : decode cX5_foldAll 23 = .ok (.sipush 192, 3) := by decide +kernel
theorem dX5_foldAll_26 : decode cX5_foldAll 26 = .ok (.isub, 1) := by decide +kernel
theorem dX5_foldAll_27 : decode cX5_foldAll 27 = .ok (.istore_n 3, 1) := by decide +kernel
theorem dX5_foldAll_28 : decode cX5_foldAll 28 = .ok (.iload_n 2, 1) := by decide +kernel
theorem dX5_foldAll_29 : decode cX5_foldAll 29 = .ok (.sipush 192, 3) := by decide +kernel
theorem dX5_foldAll_32 : decode cX5_foldAll 32 = .ok (.if_icmp .lt 33, 3) := by decide +kernel
theorem dX5_foldAll_35 : decode cX5_foldAll 35 = .ok (.iload_n 2, 1) := by decide +kernel
theorem dX5_foldAll_36 : decode cX5_foldAll 36 = .ok (.sipush 255, 3) := by decide +kernel
theorem dX5_foldAll_39 : decode cX5_foldAll 39 = .ok (.if_icmp .gt 26, 3) := by decide +kernel
theorem dX5_foldAll_42 : decode cX5_foldAll 42 = .ok (.iload_n 3, 1) := by decide +kernel
theorem dX5_foldAll_43 : decode cX5_foldAll 43 = .ok (.bipush 8, 2) := by decide +kernel
theorem dX5_foldAll_45 : decode cX5_foldAll 45 = .ok (.idiv, 1) := by decide +kernel
theorem dX5_foldAll_46 : decode cX5_foldAll 46 = .ok (.invokestatic 111, 3) := by decide +kernel
theorem dX5_foldAll_49 : decode cX5_foldAll 49 = .ok (.bipush 8, 2) := by decide +kernel
theorem dX5_foldAll_51 : decode cX5_foldAll 51 = .ok (.iload_n 3, 1) := by decide +kernel
theorem dX5_foldAll_52 : decode cX5_foldAll 52 = .ok (.bipush 8, 2) := by decide +kernel
theorem dX5_foldAll_54 : decode cX5_foldAll 54 = .ok (.irem, 1) := by decide +kernel
theorem dX5_foldAll_55 : decode cX5_foldAll 55 = .ok (.imul, 1) := by decide +kernel
theorem dX5_foldAll_56 : decode cX5_foldAll 56 = .ok (.lshr, 1) := by decide +kernel
theorem dX5_foldAll_57 : decode cX5_foldAll 57 = .ok (.ldc2_w 63, 3) := by decide +kernel
theorem dX5_foldAll_60 : decode cX5_foldAll 60 = .ok (.land, 1) := by decide +kernel
theorem dX5_foldAll_61 : decode cX5_foldAll 61 = .ok (.l2i, 1) := by decide +kernel
theorem dX5_foldAll_62 : decode cX5_foldAll 62 = .ok (.goto 5, 3) := by decide +kernel
theorem dX5_foldAll_65 : decode cX5_foldAll 65 = .ok (.bipush 95, 2) := by decide +kernel
theorem dX5_foldAll_67 : decode cX5_foldAll 67 = .ok (.istore 4, 2) := by decide +kernel
theorem dX5_foldAll_69 : decode cX5_foldAll 69 = .ok (.iload 4, 2) := by decide +kernel
theorem dX5_foldAll_71 : decode cX5_foldAll 71 = .ok (.bipush 95, 2) := by decide +kernel
theorem dX5_foldAll_73 : decode cX5_foldAll 73 = .ok (.if_icmp .ne 11, 3) := by decide +kernel
theorem dX5_foldAll_76 : decode cX5_foldAll 76 = .ok (.aload_n 0, 1) := by decide +kernel
theorem dX5_foldAll_77 : decode cX5_foldAll 77 = .ok (.iload_n 2, 1) := by decide +kernel
theorem dX5_foldAll_78 : decode cX5_foldAll 78 = .ok (.invokevirtual 115, 3) := by decide +kernel
theorem dX5_foldAll_81 : decode cX5_foldAll 81 = .ok (.goto 36, 3) := by decide +kernel
theorem dX5_foldAll_84 : decode cX5_foldAll 84 = .ok (.aload_n 0, 1) := by decide +kernel
theorem dX5_foldAll_85 : decode cX5_foldAll 85 = .ok (.iload 4, 2) := by decide +kernel
theorem dX5_foldAll_87 : decode cX5_foldAll 87 = .ok (.invokevirtual 115, 3) := by decide +kernel
theorem dX5_foldAll_90 : decode cX5_foldAll 90 = .ok (.aload_n 0, 1) := by decide +kernel
theorem dX5_foldAll_91 : decode cX5_foldAll 91 = .ok (.iload_n 3, 1) := by decide +kernel
theorem dX5_foldAll_92 : decode cX5_foldAll 92 = .ok (.bipush 8, 2) := by decide +kernel
theorem dX5_foldAll_94 : decode cX5_foldAll 94 = .ok (.idiv, 1) := by decide +kernel
theorem dX5_foldAll_95 : decode cX5_foldAll 95 = .ok (.invokestatic 119, 3) := by decide +kernel
theorem dX5_foldAll_98 : decode cX5_foldAll 98 = .ok (.bipush 8, 2) := by decide +kernel
theorem dX5_foldAll_100 : decode cX5_foldAll 100 = .ok (.iload_n 3, 1) := by decide +kernel
theorem dX5_foldAll_101 : decode cX5_foldAll 101 = .ok (.bipush 8, 2) := by decide +kernel
theorem dX5_foldAll_103 : decode cX5_foldAll 103 = .ok (.irem, 1) := by decide +kernel
theorem dX5_foldAll_104 : decode cX5_foldAll 104 = .ok (.imul, 1) := by decide +kernel
theorem dX5_foldAll_105 : decode cX5_foldAll 105 = .ok (.lshr, 1) := by decide +kernel
theorem dX5_foldAll_106 : decode cX5_foldAll 106 = .ok (.ldc2_w 63, 3) := by decide +kernel
theorem dX5_foldAll_109 : decode cX5_foldAll 109 = .ok (.land, 1) := by decide +kernel
theorem dX5_foldAll_110 : decode cX5_foldAll 110 = .ok (.l2i, 1) := by decide +kernel
theorem dX5_foldAll_111 : decode cX5_foldAll 111 = .ok (.invokestatic 122, 3) := by decide +kernel
theorem dX5_foldAll_114 : decode cX5_foldAll 114 = .ok (.invokevirtual 115, 3) := by decide +kernel
theorem dX5_foldAll_117 : decode cX5_foldAll 117 = .ok (.iinc 1 1, 3) := by decide +kernel
theorem dX5_foldAll_120 : decode cX5_foldAll 120 = .ok (.goto (-113), 3) := by decide +kernel
theorem dX5_foldAll_123 : decode cX5_foldAll 123 = .ok (.return_, 1) := by decide +kernel
theorem dX5_check_0 : decode cX5_check 0 = .ok (.aload_n 0, 1) := by decide +kernel
theorem dX5_check_1 : decode cX5_check 1 = .ok (.iconst 0, 1) := by decide +kernel
theorem dX5_check_2 : decode cX5_check 2 = .ok (.putfield 56, 3) := by decide +kernel
theorem dX5_check_5 : decode cX5_check 5 = .ok (.aload_n 0, 1) := by decide +kernel
theorem dX5_check_6 : decode cX5_check 6 = .ok (.invokevirtual 125, 3) := by decide +kernel
theorem dX5_check_9 : decode cX5_check 9 = .ok (.aload_n 0, 1) := by decide +kernel
theorem dX5_check_10 : decode cX5_check 10 = .ok (.invokevirtual 128, 3) := by decide +kernel
theorem dX5_check_13 : decode cX5_check 13 = .ok (.ireturn, 1) := by decide +kernel
theorem dX5_fold_0 : decode cX5_fold 0 = .ok (.aload_n 0, 1) := by decide +kernel
theorem dX5_fold_1 : decode cX5_fold 1 = .ok (.iconst 0, 1) := by decide +kernel
theorem dX5_fold_2 : decode cX5_fold 2 = .ok (.putfield 56, 3) := by decide +kernel
theorem dX5_fold_5 : decode cX5_fold 5 = .ok (.aload_n 0, 1) := by decide +kernel
theorem dX5_fold_6 : decode cX5_fold 6 = .ok (.invokevirtual 125, 3) := by decide +kernel
theorem dX5_fold_9 : decode cX5_fold 9 = .ok (.aload_n 0, 1) := by decide +kernel
theorem dX5_fold_10 : decode cX5_fold 10 = .ok (.invokevirtual 128, 3) := by decide +kernel
theorem dX5_fold_13 : decode cX5_fold 13 = .ok (.ifCond .lt 6, 3) := by decide +kernel
theorem dX5_fold_16 : decode cX5_fold 16 = .ok (.bipush (-2), 2) := by decide +kernel
theorem dX5_fold_18 : decode cX5_fold 18 = .ok (.ireturn, 1) := by decide +kernel
theorem dX5_fold_19 : decode cX5_fold 19 = .ok (.aload_n 0, 1) := by decide +kernel
theorem dX5_fold_20 : decode cX5_fold 20 = .ok (.invokevirtual 132, 3) := by decide +kernel
theorem dX5_fold_23 : decode cX5_fold 23 = .ok (.aload_n 0, 1) := by decide +kernel
theorem dX5_fold_24 : decode cX5_fold 24 = .ok (.aload_n 0, 1) := by decide +kernel
theorem dX5_fold_25 : decode cX5_fold 25 = .ok (.getfield 108, 3) := by decide +kernel
theorem dX5_fold_28 : decode cX5_fold 28 = .ok (.putfield 135, 3) := by decide +kernel
theorem dX5_fold_31 : decode cX5_fold 31 = .ok (.iconst 0, 1) := by decide +kernel
theorem dX5_fold_32 : decode cX5_fold 32 = .ok (.istore_n 1, 1) := by decide +kernel
theorem dX5_fold_33 : decode cX5_fold 33 = .ok (.iload_n 1, 1) := by decide +kernel
theorem dX5_fold_34 : decode cX5_fold 34 = .ok (.aload_n 0, 1) := by decide +kernel
theorem dX5_fold_35 : decode cX5_fold 35 = .ok (.getfield 108, 3) := by decide +kernel
theorem dX5_fold_38 : decode cX5_fold 38 = .ok (.if_icmp .ge 21, 3) := by decide +kernel
theorem dX5_fold_41 : decode cX5_fold 41 = .ok (.aload_n 0, 1) := by decide +kernel
theorem dX5_fold_42 : decode cX5_fold 42 = .ok (.getfield 41, 3) := by decide +kernel
theorem dX5_fold_45 : decode cX5_fold 45 = .ok (.iload_n 1, 1) := by decide +kernel
theorem dX5_fold_46 : decode cX5_fold 46 = .ok (.aload_n 0, 1) := by decide +kernel
theorem dX5_fold_47 : decode cX5_fold 47 = .ok (.getfield 50, 3) := by decide +kernel
theorem dX5_fold_50 : decode cX5_fold 50 = .ok (.iload_n 1, 1) := by decide +kernel
theorem dX5_fold_51 : decode cX5_fold 51 = .ok (.iaload, 1) := by decide +kernel
theorem dX5_fold_52 : decode cX5_fold 52 = .ok (.iastore, 1) := by decide +kernel
theorem dX5_fold_53 : decode cX5_fold 53 = .ok (.iinc 1 1, 3) := by decide +kernel
theorem dX5_fold_56 : decode cX5_fold 56 = .ok (.goto (-23), 3) := by decide +kernel
theorem dX5_fold_59 : decode cX5_fold 59 = .ok (.aload_n 0, 1) := by decide +kernel
theorem dX5_fold_60 : decode cX5_fold 60 = .ok (.getfield 135, 3) := by decide +kernel
theorem dX5_fold_63 : decode cX5_fold 63 = .ok (.ireturn, 1) := by decide +kernel
theorem dX5_folded_0 : decode cX5_folded 0 = .ok (.aload_n 0, 1) := by decide +kernel
theorem dX5_folded_1 : decode cX5_folded 1 = .ok (.iconst 0, 1) := by decide +kernel
theorem dX5_folded_2 : decode cX5_folded 2 = .ok (.putfield 56, 3) := by decide +kernel
theorem dX5_folded_5 : decode cX5_folded 5 = .ok (.iload_n 1, 1) := by decide +kernel
theorem dX5_folded_6 : decode cX5_folded 6 = .ok (.ifCond .lt 11, 3) := by decide +kernel
theorem dX5_folded_9 : decode cX5_folded 9 = .ok (.iload_n 1, 1) := by decide +kernel
theorem dX5_folded_10 : decode cX5_folded 10 = .ok (.aload_n 0, 1) := by decide +kernel
theorem dX5_folded_11 : decode cX5_folded 11 = .ok (.getfield 135, 3) := by decide +kernel
theorem dX5_folded_14 : decode cX5_folded 14 = .ok (.if_icmp .lt 7, 3) := by decide +kernel
theorem dX5_folded_17 : decode cX5_folded 17 = .ok (.iconst (-1), 1) := by decide +kernel
theorem dX5_folded_18 : decode cX5_folded 18 = .ok (.goto 9, 3) := by decide +kernel
theorem dX5_folded_21 : decode cX5_folded 21 = .ok (.aload_n 0, 1) := by decide +kernel
theorem dX5_folded_22 : decode cX5_folded 22 = .ok (.getfield 41, 3) := by decide +kernel
theorem dX5_folded_25 : decode cX5_folded 25 = .ok (.iload_n 1, 1) := by decide +kernel
theorem dX5_folded_26 : decode cX5_folded 26 = .ok (.iaload, 1) := by decide +kernel
theorem dX5_folded_27 : decode cX5_folded 27 = .ok (.ireturn, 1) := by decide +kernel
theorem dX5_isName_0 : decode cX5_isName 0 = .ok (.aload_n 0, 1) := by decide +kernel
theorem dX5_isName_1 : decode cX5_isName 1 = .ok (.getfield 65, 3) := by decide +kernel
theorem dX5_isName_4 : decode cX5_isName 4 = .ok (.ifCond .le 54, 3) := by decide +kernel
theorem dX5_isName_7 : decode cX5_isName 7 = .ok (.aload_n 0, 1) := by decide +kernel
theorem dX5_isName_8 : decode cX5_isName 8 = .ok (.getfield 65, 3) := by decide +kernel
theorem dX5_isName_11 : decode cX5_isName 11 = .ok (.bipush 60, 2) := by decide +kernel
theorem dX5_isName_13 : decode cX5_isName 13 = .ok (.if_icmp .gt 45, 3) := by decide +kernel
theorem dX5_isName_16 : decode cX5_isName 16 = .ok (.aload_n 0, 1) := by decide +kernel
theorem dX5_isName_17 : decode cX5_isName 17 = .ok (.getfield 44, 3) := by decide +kernel
theorem dX5_isName_20 : decode cX5_isName 20 = .ok (.iconst 0, 1) := by decide +kernel
theorem dX5_isName_21 : decode cX5_isName 21 = .ok (.iaload, 1) := by decide +kernel
theorem dX5_isName_22 : decode cX5_isName 22 = .ok (.bipush 46, 2) := by decide +kernel
theorem dX5_isName_24 : decode cX5_isName 24 = .ok (.if_icmp .ne 30, 3) := by decide +kernel
theorem dX5_isName_27 : decode cX5_isName 27 = .ok (.aload_n 0, 1) := by decide +kernel
theorem dX5_isName_28 : decode cX5_isName 28 = .ok (.getfield 65, 3) := by decide +kernel
theorem dX5_isName_31 : decode cX5_isName 31 = .ok (.iconst 2, 1) := by decide +kernel
theorem dX5_isName_32 : decode cX5_isName 32 = .ok (.if_icmp .gt 22, 3) := by decide +kernel
theorem dX5_isName_35 : decode cX5_isName 35 = .ok (.aload_n 0, 1) := by decide +kernel
theorem dX5_isName_36 : decode cX5_isName 36 = .ok (.getfield 65, 3) := by decide +kernel
theorem dX5_isName_39 : decode cX5_isName 39 = .ok (.iconst 2, 1) := by decide +kernel
theorem dX5_isName_40 : decode cX5_isName 40 = .ok (.if_icmp .ne 18, 3) := by decide +kernel
theorem dX5_isName_43 : decode cX5_isName 43 = .ok (.aload_n 0, 1) := by decide +kernel
theorem dX5_isName_44 : decode cX5_isName 44 = .ok (.getfield 44, 3) := by decide +kernel
theorem dX5_isName_47 : decode cX5_isName 47 = .ok (.iconst 1, 1) := by decide +kernel
theorem dX5_isName_48 : decode cX5_isName 48 = .ok (.iaload, 1) := by decide +kernel
theorem dX5_isName_49 : decode cX5_isName 49 = .ok (.bipush 46, 2) := by decide +kernel
theorem dX5_isName_51 : decode cX5_isName 51 = .ok (.if_icmp .eq 7, 3) := by decide +kernel
theorem dX5_isName_54 : decode cX5_isName 54 = .ok (.iconst 1, 1) := by decide +kernel
theorem dX5_isName_55 : decode cX5_isName 55 = .ok (.goto 4, 3) := by decide +kernel
theorem dX5_isName_58 : decode cX5_isName 58 = .ok (.iconst 0, 1) := by decide +kernel
theorem dX5_isName_59 : decode cX5_isName 59 = .ok (.istore_n 1, 1) := by decide +kernel
theorem dX5_isName_60 : decode cX5_isName 60 = .ok (.iconst 0, 1) := by decide +kernel
theorem dX5_isName_61 : decode cX5_isName 61 = .ok (.istore_n 2, 1) := by decide +kernel
theorem dX5_isName_62 : decode cX5_isName 62 = .ok (.iload_n 2, 1) := by decide +kernel
theorem dX5_isName_63 : decode cX5_isName 63 = .ok (.aload_n 0, 1) := by decide +kernel
theorem dX5_isName_64 : decode cX5_isName 64 = .ok (.getfield 65, 3) := by decide +kernel
theorem dX5_isName_67 : decode cX5_isName 67 = .ok (.if_icmp .ge 39, 3) := by decide +kernel
theorem dX5_isName_70 : decode cX5_isName 70 = .ok (.iload_n 1, 1) := by decide +kernel
theorem dX5_isName_71 : decode cX5_isName 71 = .ok (.ifCond .eq 35, 3) := by decide +kernel
theorem dX5_isName_74 : decode cX5_isName 74 = .ok (.aload_n 0, 1) := by decide +kernel
theorem dX5_isName_75 : decode cX5_isName 75 = .ok (.getfield 44, 3) := by decide +kernel
theorem dX5_isName_78 : decode cX5_isName 78 = .ok (.iload_n 2, 1) := by decide +kernel
theorem dX5_isName_79 : decode cX5_isName 79 = .ok (.iaload, 1) := by decide +kernel
theorem dX5_isName_80 : decode cX5_isName 80 = .ok (.ifCond .eq 18, 3) := by decide +kernel
theorem dX5_isName_83 : decode cX5_isName 83 = .ok (.aload_n 0, 1) := by decide +kernel
theorem dX5_isName_84 : decode cX5_isName 84 = .ok (.getfield 44, 3) := by decide +kernel
theorem dX5_isName_87 : decode cX5_isName 87 = .ok (.iload_n 2, 1) := by decide +kernel
theorem dX5_isName_88 : decode cX5_isName 88 = .ok (.iaload, 1) := by decide +kernel
theorem dX5_isName_89 : decode cX5_isName 89 = .ok (.bipush 47, 2) := by decide +kernel
theorem dX5_isName_91 : decode cX5_isName 91 = .ok (.if_icmp .eq 7, 3) := by decide +kernel
theorem dX5_isName_94 : decode cX5_isName 94 = .ok (.iconst 1, 1) := by decide +kernel
theorem dX5_isName_95 : decode cX5_isName 95 = .ok (.goto 4, 3) := by decide +kernel
theorem dX5_isName_98 : decode cX5_isName 98 = .ok (.iconst 0, 1) := by decide +kernel
theorem dX5_isName_99 : decode cX5_isName 99 = .ok (.istore_n 1, 1) := by decide +kernel
theorem dX5_isName_100 : decode cX5_isName 100 = .ok (.iinc 2 1, 3) := by decide +kernel
theorem dX5_isName_103 : decode cX5_isName 103 = .ok (.goto (-41), 3) := by decide +kernel
theorem dX5_isName_106 : decode cX5_isName 106 = .ok (.iload_n 1, 1) := by decide +kernel
theorem dX5_isName_107 : decode cX5_isName 107 = .ok (.ifCond .eq 10, 3) := by decide +kernel
theorem dX5_isName_110 : decode cX5_isName 110 = .ok (.aload_n 0, 1) := by decide +kernel
theorem dX5_isName_111 : decode cX5_isName 111 = .ok (.invokevirtual 128, 3) := by decide +kernel
theorem dX5_isName_114 : decode cX5_isName 114 = .ok (.ifCond .lt 5, 3) := by decide +kernel
theorem dX5_isName_117 : decode cX5_isName 117 = .ok (.iconst 0, 1) := by decide +kernel
theorem dX5_isName_118 : decode cX5_isName 118 = .ok (.ireturn, 1) := by decide +kernel
theorem dX5_isName_119 : decode cX5_isName 119 = .ok (.aload_n 0, 1) := by decide +kernel
theorem dX5_isName_120 : decode cX5_isName 120 = .ok (.invokevirtual 132, 3) := by decide +kernel
theorem dX5_isName_123 : decode cX5_isName 123 = .ok (.iconst 1, 1) := by decide +kernel
theorem dX5_isName_124 : decode cX5_isName 124 = .ok (.ireturn, 1) := by decide +kernel
theorem dX5_noNode_0 : decode cX5_noNode 0 = .ok (.iload_n 1, 1) := by decide +kernel
theorem dX5_noNode_1 : decode cX5_noNode 1 = .ok (.ifCond .lt 19, 3) := by decide +kernel
theorem dX5_noNode_4 : decode cX5_noNode 4 = .ok (.iload_n 1, 1) := by decide +kernel
theorem dX5_noNode_5 : decode cX5_noNode 5 = .ok (.sipush 200, 3) := by decide +kernel
theorem dX5_noNode_8 : decode cX5_noNode 8 = .ok (.if_icmp .ge 12, 3) := by decide +kernel
theorem dX5_noNode_11 : decode cX5_noNode 11 = .ok (.aload_n 0, 1) := by decide +kernel
theorem dX5_noNode_12 : decode cX5_noNode 12 = .ok (.getfield 13, 3) := by decide +kernel
theorem dX5_noNode_15 : decode cX5_noNode 15 = .ok (.iload_n 1, 1) := by decide +kernel
theorem dX5_noNode_16 : decode cX5_noNode 16 = .ok (.baload, 1) := by decide +kernel
theorem dX5_noNode_17 : decode cX5_noNode 17 = .ok (.ifCond .ne 7, 3) := by decide +kernel
theorem dX5_noNode_20 : decode cX5_noNode 20 = .ok (.iconst 1, 1) := by decide +kernel
theorem dX5_noNode_21 : decode cX5_noNode 21 = .ok (.goto 4, 3) := by decide +kernel
theorem dX5_noNode_24 : decode cX5_noNode 24 = .ok (.iconst 0, 1) := by decide +kernel
theorem dX5_noNode_25 : decode cX5_noNode 25 = .ok (.ireturn, 1) := by decide +kernel
theorem dX5_noDirectory_0 : decode cX5_noDirectory 0 = .ok (.aload_n 0, 1) := by decide +kernel
theorem dX5_noDirectory_1 : decode cX5_noDirectory 1 = .ok (.iload_n 1, 1) := by decide +kernel
theorem dX5_noDirectory_2 : decode cX5_noDirectory 2 = .ok (.invokevirtual 138, 3) := by decide +kernel
theorem dX5_noDirectory_5 : decode cX5_noDirectory 5 = .ok (.ifCond .ne 12, 3) := by decide +kernel
theorem dX5_noDirectory_8 : decode cX5_noDirectory 8 = .ok (.aload_n 0, 1) := by decide +kernel
theorem dX5_noDirectory_9 : decode cX5_noDirectory 9 = .ok (.getfield 17, 3) := by decide +kernel
theorem dX5_noDirectory_12 : decode cX5_noDirectory 12 = .ok (.iload_n 1, 1) := by decide +kernel
theorem dX5_noDirectory_13 : decode cX5_noDirectory 13 = .ok (.baload, 1) := by decide +kernel
theorem dX5_noDirectory_14 : decode cX5_noDirectory 14 = .ok (.ifCond .ne 7, 3) := by decide +kernel
theorem dX5_noDirectory_17 : decode cX5_noDirectory 17 = .ok (.iconst 1, 1) := by decide +kernel
theorem dX5_noDirectory_18 : decode cX5_noDirectory 18 = .ok (.goto 4, 3) := by decide +kernel
theorem dX5_noDirectory_21 : decode cX5_noDirectory 21 = .ok (.iconst 0, 1) := by decide +kernel
theorem dX5_noDirectory_22 : decode cX5_noDirectory 22 = .ok (.ireturn, 1) := by decide +kernel
theorem dX5_entryLike_0 : decode cX5_entryLike 0 = .ok (.iconst 0, 1) := by decide +kernel
theorem dX5_entryLike_1 : decode cX5_entryLike 1 = .ok (.istore_n 3, 1) := by decide +kernel
theorem dX5_entryLike_2 : decode cX5_entryLike 2 = .ok (.iload_n 3, 1) := by decide +kernel
theorem dX5_entryLike_3 : decode cX5_entryLike 3 = .ok (.aload_n 0, 1) := by decide +kernel
theorem dX5_entryLike_4 : decode cX5_entryLike 4 = .ok (.getfield 38, 3) := by decide +kernel
theorem dX5_entryLike_7 : decode cX5_entryLike 7 = .ok (.iload_n 1, 1) := by decide +kernel
theorem dX5_entryLike_8 : decode cX5_entryLike 8 = .ok (.iaload, 1) := by decide +kernel
theorem dX5_entryLike_9 : decode cX5_entryLike 9 = .ok (.if_icmp .ge 110, 3) := by decide +kernel
theorem dX5_entryLike_12 : decode cX5_entryLike 12 = .ok (.aload_n 0, 1) := by decide +kernel
theorem dX5_entryLike_13 : decode cX5_entryLike 13 = .ok (.getfield 35, 3) := by decide +kernel
theorem dX5_entryLike_16 : decode cX5_entryLike 16 = .ok (.bipush 40, 2) := by decide +kernel
theorem dX5_entryLike_18 : decode cX5_entryLike 18 = .ok (.iload_n 1, 1) := by decide +kernel
theorem dX5_entryLike_19 : decode cX5_entryLike 19 = .ok (.imul, 1) := by decide +kernel
theorem dX5_entryLike_20 : decode cX5_entryLike 20 = .ok (.iload_n 3, 1) := by decide +kernel
theorem dX5_entryLike_21 : decode cX5_entryLike 21 = .ok (.iadd, 1) := by decide +kernel
theorem dX5_entryLike_22 : decode cX5_entryLike 22 = .ok (.iaload, 1) := by decide +kernel
theorem dX5_entryLike_23 : decode cX5_entryLike 23 = .ok (.istore 4, 2) := by decide +kernel
theorem dX5_entryLike_25 : decode cX5_entryLike 25 = .ok (.iload 4, 2) := by decide +kernel
theorem dX5_entryLike_27 : decode cX5_entryLike 27 = .ok (.iload_n 2, 1) := by decide +kernel
theorem dX5_entryLike_28 : decode cX5_entryLike 28 = .ok (.if_icmp .eq 21, 3) := by decide +kernel
theorem dX5_entryLike_31 : decode cX5_entryLike 31 = .ok (.aload_n 0, 1) := by decide +kernel
theorem dX5_entryLike_32 : decode cX5_entryLike 32 = .ok (.getfield 32, 3) := by decide +kernel
theorem dX5_entryLike_35 : decode cX5_entryLike 35 = .ok (.iload 4, 2) := by decide +kernel
theorem dX5_entryLike_37 : decode cX5_entryLike 37 = .ok (.iaload, 1) := by decide +kernel
theorem dX5_entryLike_38 : decode cX5_entryLike 38 = .ok (.aload_n 0, 1) := by decide +kernel
theorem dX5_entryLike_39 : decode cX5_entryLike 39 = .ok (.getfield 108, 3) := by decide +kernel
theorem dX5_entryLike_42 : decode cX5_entryLike 42 = .ok (.if_icmp .ne 7, 3) := by decide +kernel
theorem dX5_entryLike_45 : decode cX5_entryLike 45 = .ok (.iconst 1, 1) := by decide +kernel
theorem dX5_entryLike_46 : decode cX5_entryLike 46 = .ok (.goto 4, 3) := by decide +kernel
theorem dX5_entryLike_49 : decode cX5_entryLike 49 = .ok (.iconst 0, 1) := by decide +kernel
theorem dX5_entryLike_50 : decode cX5_entryLike 50 = .ok (.istore 5, 2) := by decide +kernel
theorem dX5_entryLike_52 : decode cX5_entryLike 52 = .ok (.iconst 0, 1) := by decide +kernel
theorem dX5_entryLike_53 : decode cX5_entryLike 53 = .ok (.istore 6, 2) := by decide +kernel
theorem dX5_entryLike_55 : decode cX5_entryLike 55 = .ok (.iload 6, 2) := by decide +kernel
theorem dX5_entryLike_57 : decode cX5_entryLike 57 = .ok (.aload_n 0, 1) := by decide +kernel
theorem dX5_entryLike_58 : decode cX5_entryLike 58 = .ok (.getfield 108, 3) := by decide +kernel
theorem dX5_entryLike_61 : decode cX5_entryLike 61 = .ok (.if_icmp .ge 44, 3) := by decide +kernel
theorem dX5_entryLike_64 : decode cX5_entryLike 64 = .ok (.iload 5, 2) := by decide +kernel
theorem dX5_entryLike_66 : decode cX5_entryLike 66 = .ok (.ifCond .eq 39, 3) := by decide +kernel
theorem dX5_entryLike_69 : decode cX5_entryLike 69 = .ok (.aload_n 0, 1) := by decide +kernel
theorem dX5_entryLike_70 : decode cX5_entryLike 70 = .ok (.getfield 29, 3) := by decide +kernel
theorem dX5_entryLike_73 : decode cX5_entryLike 73 = .ok (.bipush 60, 2) := by decide +kernel
theorem dX5_entryLike_75 : decode cX5_entryLike 75 = .ok (.iload 4, 2) := by decide +kernel
theorem dX5_entryLike_77 : decode cX5_entryLike 77 = .ok (.imul, 1) := by decide +kernel
theorem dX5_entryLike_78 : decode cX5_entryLike 78 = .ok (.iload 6, 2) := by decide +kernel
theorem dX5_entryLike_80 : decode cX5_entryLike 80 = .ok (.iadd, 1) := by decide +kernel
theorem dX5_entryLike_81 : decode cX5_entryLike 81 = .ok (.iaload, 1) := by decide +kernel
theorem dX5_entryLike_82 : decode cX5_entryLike 82 = .ok (.aload_n 0, 1) := by decide +kernel
theorem dX5_entryLike_83 : decode cX5_entryLike 83 = .ok (.getfield 50, 3) := by decide +kernel
theorem dX5_entryLike_86 : decode cX5_entryLike 86 = .ok (.iload 6, 2) := by decide +kernel
theorem dX5_entryLike_88 : decode cX5_entryLike 88 = .ok (.iaload, 1) := by decide +kernel
theorem dX5_entryLike_89 : decode cX5_entryLike 89 = .ok (.if_icmp .ne 7, 3) := by decide +kernel
theorem dX5_entryLike_92 : decode cX5_entryLike 92 = .ok (.iconst 1, 1) := by decide +kernel
theorem dX5_entryLike_93 : decode cX5_entryLike 93 = .ok (.goto 4, 3) := by decide +kernel
theorem dX5_entryLike_96 : decode cX5_entryLike 96 = .ok (.iconst 0, 1) := by decide +kernel
theorem dX5_entryLike_97 : decode cX5_entryLike 97 = .ok (.istore 5, 2) := by decide +kernel
theorem dX5_entryLike_99 : decode cX5_entryLike 99 = .ok (.iinc 6 1, 3) := by decide +kernel
theorem dX5_entryLike_102 : decode cX5_entryLike 102 = .ok (.goto (-47), 3) := by decide +kernel
theorem dX5_entryLike_105 : decode cX5_entryLike 105 = .ok (.iload 5, 2) := by decide +kernel
theorem dX5_entryLike_107 : decode cX5_entryLike 107 = .ok (.ifCond .eq 6, 3) := by decide +kernel
theorem dX5_entryLike_110 : decode cX5_entryLike 110 = .ok (.iload 4, 2) := by decide +kernel
theorem dX5_entryLike_112 : decode cX5_entryLike 112 = .ok (.ireturn, 1) := by decide +kernel
theorem dX5_entryLike_113 : decode cX5_entryLike 113 = .ok (.iinc 3 1, 3) := by decide +kernel
theorem dX5_entryLike_116 : decode cX5_entryLike 116 = .ok (.goto (-114), 3) := by decide +kernel
theorem dX5_entryLike_119 : decode cX5_entryLike 119 = .ok (.iconst (-1), 1) := by decide +kernel
theorem dX5_entryLike_120 : decode cX5_entryLike 120 = .ok (.ireturn, 1) := by decide +kernel
theorem dX5_setName_0 : decode cX5_setName 0 = .ok (.aload_n 0, 1) := by decide +kernel
theorem dX5_setName_1 : decode cX5_setName 1 = .ok (.getfield 26, 3) := by decide +kernel
theorem dX5_setName_4 : decode cX5_setName 4 = .ok (.iload_n 1, 1) := by decide +kernel
theorem dX5_setName_5 : decode cX5_setName 5 = .ok (.aload_n 0, 1) := by decide +kernel
theorem dX5_setName_6 : decode cX5_setName 6 = .ok (.getfield 65, 3) := by decide +kernel
theorem dX5_setName_9 : decode cX5_setName 9 = .ok (.iastore, 1) := by decide +kernel
theorem dX5_setName_10 : decode cX5_setName 10 = .ok (.iconst 0, 1) := by decide +kernel
theorem dX5_setName_11 : decode cX5_setName 11 = .ok (.istore_n 2, 1) := by decide +kernel
theorem dX5_setName_12 : decode cX5_setName 12 = .ok (.iload_n 2, 1) := by decide +kernel
theorem dX5_setName_13 : decode cX5_setName 13 = .ok (.aload_n 0, 1) := by decide +kernel
theorem dX5_setName_14 : decode cX5_setName 14 = .ok (.getfield 65, 3) := by decide +kernel
theorem dX5_setName_17 : decode cX5_setName 17 = .ok (.if_icmp .ge 26, 3) := by decide +kernel
theorem dX5_setName_20 : decode cX5_setName 20 = .ok (.aload_n 0, 1) := by decide +kernel
theorem dX5_setName_21 : decode cX5_setName 21 = .ok (.getfield 23, 3) := by decide +kernel
theorem dX5_setName_24 : decode cX5_setName 24 = .ok (.bipush 60, 2) := by decide +kernel
theorem dX5_setName_26 : decode cX5_setName 26 = .ok (.iload_n 1, 1) := by decide +kernel
theorem dX5_setName_27 : decode cX5_setName 27 = .ok (.imul, 1) := by decide +kernel
theorem dX5_setName_28 : decode cX5_setName 28 = .ok (.iload_n 2, 1) := by decide +kernel
theorem dX5_setName_29 : decode cX5_setName 29 = .ok (.iadd, 1) := by decide +kernel
theorem dX5_setName_30 : decode cX5_setName 30 = .ok (.aload_n 0, 1) := by decide +kernel
theorem dX5_setName_31 : decode cX5_setName 31 = .ok (.getfield 44, 3) := by decide +kernel
theorem dX5_setName_34 : decode cX5_setName 34 = .ok (.iload_n 2, 1) := by decide +kernel
theorem dX5_setName_35 : decode cX5_setName 35 = .ok (.iaload, 1) := by decide +kernel
theorem dX5_setName_36 : decode cX5_setName 36 = .ok (.iastore, 1) := by decide +kernel
theorem dX5_setName_37 : decode cX5_setName 37 = .ok (.iinc 2 1, 3) := by decide +kernel
theorem dX5_setName_40 : decode cX5_setName 40 = .ok (.goto (-28), 3) := by decide +kernel
theorem dX5_setName_43 : decode cX5_setName 43 = .ok (.aload_n 0, 1) := by decide +kernel
theorem dX5_setName_44 : decode cX5_setName 44 = .ok (.getfield 32, 3) := by decide +kernel
theorem dX5_setName_47 : decode cX5_setName 47 = .ok (.iload_n 1, 1) := by decide +kernel
theorem dX5_setName_48 : decode cX5_setName 48 = .ok (.aload_n 0, 1) := by decide +kernel
theorem dX5_setName_49 : decode cX5_setName 49 = .ok (.getfield 108, 3) := by decide +kernel
theorem dX5_setName_52 : decode cX5_setName 52 = .ok (.iastore, 1) := by decide +kernel
theorem dX5_setName_53 : decode cX5_setName 53 = .ok (.iconst 0, 1) := by decide +kernel
theorem dX5_setName_54 : decode cX5_setName 54 = .ok (.istore_n 2, 1) := by decide +kernel
theorem dX5_setName_55 : decode cX5_setName 55 = .ok (.iload_n 2, 1) := by decide +kernel
theorem dX5_setName_56 : decode cX5_setName 56 = .ok (.aload_n 0, 1) := by decide +kernel
theorem dX5_setName_57 : decode cX5_setName 57 = .ok (.getfield 108, 3) := by decide +kernel
theorem dX5_setName_60 : decode cX5_setName 60 = .ok (.if_icmp .ge 26, 3) := by decide +kernel
theorem dX5_setName_63 : decode cX5_setName 63 = .ok (.aload_n 0, 1) := by decide +kernel
theorem dX5_setName_64 : decode cX5_setName 64 = .ok (.getfield 29, 3) := by decide +kernel
theorem dX5_setName_67 : decode cX5_setName 67 = .ok (.bipush 60, 2) := by decide +kernel
theorem dX5_setName_69 : decode cX5_setName 69 = .ok (.iload_n 1, 1) := by decide +kernel
theorem dX5_setName_70 : decode cX5_setName 70 = .ok (.imul, 1) := by decide +kernel
theorem dX5_setName_71 : decode cX5_setName 71 = .ok (.iload_n 2, 1) := by decide +kernel
theorem dX5_setName_72 : decode cX5_setName 72 = .ok (.iadd, 1) := by decide +kernel
theorem dX5_setName_73 : decode cX5_setName 73 = .ok (.aload_n 0, 1) := by decide +kernel
theorem dX5_setName_74 : decode cX5_setName 74 = .ok (.getfield 50, 3) := by decide +kernel
theorem dX5_setName_77 : decode cX5_setName 77 = .ok (.iload_n 2, 1) := by decide +kernel
theorem dX5_setName_78 : decode cX5_setName 78 = .ok (.iaload, 1) := by decide +kernel
theorem dX5_setName_79 : decode cX5_setName 79 = .ok (.iastore, 1) := by decide +kernel
theorem dX5_setName_80 : decode cX5_setName 80 = .ok (.iinc 2 1, 3) := by decide +kernel
theorem dX5_setName_83 : decode cX5_setName 83 = .ok (.goto (-28), 3) := by decide +kernel
theorem dX5_setName_86 : decode cX5_setName 86 = .ok (.return_, 1) := by decide +kernel
theorem dX5_append_0 : decode cX5_append 0 = .ok (.aload_n 0, 1) := by decide +kernel
theorem dX5_append_1 : decode cX5_append 1 = .ok (.getfield 20, 3) := by decide +kernel
theorem dX5_append_4 : decode cX5_append 4 = .ok (.iload_n 1, 1) := by decide +kernel
theorem dX5_append_5 : decode cX5_append 5 = .ok (.iload_n 2, 1) := by decide +kernel
theorem dX5_append_6 : decode cX5_append 6 = .ok (.iastore, 1) := by decide +kernel
theorem dX5_append_7 : decode cX5_append 7 = .ok (.aload_n 0, 1) := by decide +kernel
theorem dX5_append_8 : decode cX5_append 8 = .ok (.getfield 35, 3) := by decide +kernel
theorem dX5_append_11 : decode cX5_append 11 = .ok (.bipush 40, 2) := by decide +kernel
theorem dX5_append_13 : decode cX5_append 13 = .ok (.iload_n 2, 1) := by decide +kernel
theorem dX5_append_14 : decode cX5_append 14 = .ok (.imul, 1) := by decide +kernel
theorem dX5_append_15 : decode cX5_append 15 = .ok (.aload_n 0, 1) := by decide +kernel
theorem dX5_append_16 : decode cX5_append 16 = .ok (.getfield 38, 3) := by decide +kernel
theorem dX5_append_19 : decode cX5_append 19 = .ok (.iload_n 2, 1) := by decide +kernel
theorem dX5_append_20 : decode cX5_append 20 = .ok (.iaload, 1) := by decide +kernel
theorem dX5_append_21 : decode cX5_append 21 = .ok (.iadd, 1) := by decide +kernel
theorem dX5_append_22 : decode cX5_append 22 = .ok (.iload_n 1, 1) := by decide +kernel
theorem dX5_append_23 : decode cX5_append 23 = .ok (.iastore, 1) := by decide +kernel
theorem dX5_append_24 : decode cX5_append 24 = .ok (.aload_n 0, 1) := by decide +kernel
theorem dX5_append_25 : decode cX5_append 25 = .ok (.getfield 38, 3) := by decide +kernel
theorem dX5_append_28 : decode cX5_append 28 = .ok (.iload_n 2, 1) := by decide +kernel
theorem dX5_append_29 : decode cX5_append 29 = .ok (.dup2, 1) := by decide +kernel
theorem dX5_append_30 : decode cX5_append 30 = .ok (.iaload, 1) := by decide +kernel
theorem dX5_append_31 : decode cX5_append 31 = .ok (.iconst 1, 1) := by decide +kernel
theorem dX5_append_32 : decode cX5_append 32 = .ok (.iadd, 1) := by decide +kernel
theorem dX5_append_33 : decode cX5_append 33 = .ok (.iastore, 1) := by decide +kernel
theorem dX5_append_34 : decode cX5_append 34 = .ok (.return_, 1) := by decide +kernel
theorem dX5_detach_0 : decode cX5_detach 0 = .ok (.aload_n 0, 1) := by decide +kernel
theorem dX5_detach_1 : decode cX5_detach 1 = .ok (.getfield 20, 3) := by decide +kernel
theorem dX5_detach_4 : decode cX5_detach 4 = .ok (.iload_n 1, 1) := by decide +kernel
theorem dX5_detach_5 : decode cX5_detach 5 = .ok (.iaload, 1) := by decide +kernel
theorem dX5_detach_6 : decode cX5_detach 6 = .ok (.istore_n 2, 1) := by decide +kernel
theorem dX5_detach_7 : decode cX5_detach 7 = .ok (.iconst 0, 1) := by decide +kernel
theorem dX5_detach_8 : decode cX5_detach 8 = .ok (.istore_n 3, 1) := by decide +kernel
theorem dX5_detach_9 : decode cX5_detach 9 = .ok (.aload_n 0, 1) := by decide +kernel
theorem dX5_detach_10 : decode cX5_detach 10 = .ok (.getfield 35, 3) := by decide +kernel
theorem dX5_detach_13 : decode cX5_detach 13 = .ok (.bipush 40, 2) := by decide +kernel
theorem dX5_detach_15 : decode cX5_detach 15 = .ok (.iload_n 2, 1) := by decide +kernel
theorem dX5_detach_16 : decode cX5_detach 16 = .ok (.imul, 1) := by decide +kernel
theorem dX5_detach_17 : decode cX5_detach 17 = .ok (.iload_n 3, 1) := by decide +kernel
theorem dX5_detach_18 : decode cX5_detach 18 = .ok (.iadd, 1) := by decide +kernel
theorem dX5_detach_19 : decode cX5_detach 19 = .ok (.iaload, 1) := by decide +kernel
theorem dX5_detach_20 : decode cX5_detach 20 = .ok (.iload_n 1, 1) := by decide +kernel
theorem dX5_detach_21 : decode cX5_detach 21 = .ok (.if_icmp .eq 9, 3) := by decide +kernel
theorem dX5_detach_24 : decode cX5_detach 24 = .ok (.iinc 3 1, 3) := by decide +kernel
theorem dX5_detach_27 : decode cX5_detach 27 = .ok (.goto (-18), 3) := by decide +kernel
theorem dX5_detach_30 : decode cX5_detach 30 = .ok (.aload_n 0, 1) := by decide +kernel
theorem dX5_detach_31 : decode cX5_detach 31 = .ok (.getfield 38, 3) := by decide +kernel
theorem dX5_detach_34 : decode cX5_detach 34 = .ok (.iload_n 2, 1) := by decide +kernel
theorem dX5_detach_35 : decode cX5_detach 35 = .ok (.dup2, 1) := by decide +kernel
theorem dX5_detach_36 : decode cX5_detach 36 = .ok (.iaload, 1) := by decide +kernel
theorem dX5_detach_37 : decode cX5_detach 37 = .ok (.iconst 1, 1) := by decide +kernel
theorem dX5_detach_38 : decode cX5_detach 38 = .ok (.isub, 1) := by decide +kernel
theorem dX5_detach_39 : decode cX5_detach 39 = .ok (.iastore, 1) := by decide +kernel
theorem dX5_detach_40 : decode cX5_detach 40 = .ok (.iload_n 3, 1) := by decide +kernel
theorem dX5_detach_41 : decode cX5_detach 41 = .ok (.istore 4, 2) := by decide +kernel
theorem dX5_detach_43 : decode cX5_detach 43 = .ok (.iload 4, 2) := by decide +kernel
theorem dX5_detach_45 : decode cX5_detach 45 = .ok (.aload_n 0, 1) := by decide +kernel
theorem dX5_detach_46 : decode cX5_detach 46 = .ok (.getfield 38, 3) := by decide +kernel
theorem dX5_detach_49 : decode cX5_detach 49 = .ok (.iload_n 2, 1) := by decide +kernel
theorem dX5_detach_50 : decode cX5_detach 50 = .ok (.iaload, 1) := by decide +kernel
theorem dX5_detach_51 : decode cX5_detach 51 = .ok (.if_icmp .ge 35, 3) := by decide +kernel
theorem dX5_detach_54 : decode cX5_detach 54 = .ok (.aload_n 0, 1) := by decide +kernel
theorem dX5_detach_55 : decode cX5_detach 55 = .ok (.getfield 35, 3) := by decide +kernel
theorem dX5_detach_58 : decode cX5_detach 58 = .ok (.bipush 40, 2) := by decide +kernel
theorem dX5_detach_60 : decode cX5_detach 60 = .ok (.iload_n 2, 1) := by decide +kernel
theorem dX5_detach_61 : decode cX5_detach 61 = .ok (.imul, 1) := by decide +kernel
theorem dX5_detach_62 : decode cX5_detach 62 = .ok (.iload 4, 2) := by decide +kernel
theorem dX5_detach_64 : decode cX5_detach 64 = .ok (.iadd, 1) := by decide +kernel
theorem dX5_detach_65 : decode cX5_detach 65 = .ok (.aload_n 0, 1) := by decide +kernel
theorem dX5_detach_66 : decode cX5_detach 66 = .ok (.getfield 35, 3) := by decide +kernel
theorem dX5_detach_69 : decode cX5_detach 69 = .ok (.bipush 40, 2) := by decide +kernel
theorem dX5_detach_71 : decode cX5_detach 71 = .ok (.iload_n 2, 1) := by decide +kernel
theorem dX5_detach_72 : decode cX5_detach 72 = .ok (.imul, 1) := by decide +kernel
theorem dX5_detach_73 : decode cX5_detach 73 = .ok (.iload 4, 2) := by decide +kernel
theorem dX5_detach_75 : decode cX5_detach 75 = .ok (.iadd, 1) := by decide +kernel
theorem dX5_detach_76 : decode cX5_detach 76 = .ok (.iconst 1, 1) := by decide +kernel
theorem dX5_detach_77 : decode cX5_detach 77 = .ok (.iadd, 1) := by decide +kernel
theorem dX5_detach_78 : decode cX5_detach 78 = .ok (.iaload, 1) := by decide +kernel
theorem dX5_detach_79 : decode cX5_detach 79 = .ok (.iastore, 1) := by decide +kernel
theorem dX5_detach_80 : decode cX5_detach 80 = .ok (.iinc 4 1, 3) := by decide +kernel
theorem dX5_detach_83 : decode cX5_detach 83 = .ok (.goto (-40), 3) := by decide +kernel
theorem dX5_detach_86 : decode cX5_detach 86 = .ok (.return_, 1) := by decide +kernel
theorem dX5_freeNode_0 : decode cX5_freeNode 0 = .ok (.iconst 0, 1) := by decide +kernel
theorem dX5_freeNode_1 : decode cX5_freeNode 1 = .ok (.istore_n 1, 1) := by decide +kernel
theorem dX5_freeNode_2 : decode cX5_freeNode 2 = .ok (.iload_n 1, 1) := by decide +kernel
theorem dX5_freeNode_3 : decode cX5_freeNode 3 = .ok (.sipush 200, 3) := by decide +kernel
theorem dX5_freeNode_6 : decode cX5_freeNode 6 = .ok (.if_icmp .ge 20, 3) := by decide +kernel
theorem dX5_freeNode_9 : decode cX5_freeNode 9 = .ok (.aload_n 0, 1) := by decide +kernel
theorem dX5_freeNode_10 : decode cX5_freeNode 10 = .ok (.getfield 13, 3) := by decide +kernel
theorem dX5_freeNode_13 : decode cX5_freeNode 13 = .ok (.iload_n 1, 1) := by decide +kernel
theorem dX5_freeNode_14 : decode cX5_freeNode 14 = .ok (.baload, 1) := by decide +kernel
theorem dX5_freeNode_15 : decode cX5_freeNode 15 = .ok (.ifCond .ne 5, 3) := by decide +kernel
theorem dX5_freeNode_18 : decode cX5_freeNode 18 = .ok (.iload_n 1, 1) := by decide +kernel
theorem dX5_freeNode_19 : decode cX5_freeNode 19 = .ok (.ireturn, 1) := by decide +kernel
theorem dX5_freeNode_20 : decode cX5_freeNode 20 = .ok (.iinc 1 1, 3) := by decide +kernel
theorem dX5_freeNode_23 : decode cX5_freeNode 23 = .ok (.goto (-21), 3) := by decide +kernel
theorem dX5_freeNode_26 : decode cX5_freeNode 26 = .ok (.iconst (-1), 1) := by decide +kernel
theorem dX5_freeNode_27 : decode cX5_freeNode 27 = .ok (.ireturn, 1) := by decide +kernel
theorem dX5_put_0 : decode cX5_put 0 = .ok (.aload_n 0, 1) := by decide +kernel
theorem dX5_put_1 : decode cX5_put 1 = .ok (.iconst 0, 1) := by decide +kernel
theorem dX5_put_2 : decode cX5_put 2 = .ok (.putfield 56, 3) := by decide +kernel
theorem dX5_put_5 : decode cX5_put 5 = .ok (.aload_n 0, 1) := by decide +kernel
theorem dX5_put_6 : decode cX5_put 6 = .ok (.invokevirtual 125, 3) := by decide +kernel
theorem dX5_put_9 : decode cX5_put 9 = .ok (.aload_n 0, 1) := by decide +kernel
theorem dX5_put_10 : decode cX5_put 10 = .ok (.iload_n 1, 1) := by decide +kernel
theorem dX5_put_11 : decode cX5_put 11 = .ok (.invokevirtual 142, 3) := by decide +kernel
theorem dX5_put_14 : decode cX5_put 14 = .ok (.ifCond .eq 6, 3) := by decide +kernel
theorem dX5_put_17 : decode cX5_put 17 = .ok (.bipush (-5), 2) := by decide +kernel
theorem dX5_put_19 : decode cX5_put 19 = .ok (.ireturn, 1) := by decide +kernel
theorem dX5_put_20 : decode cX5_put 20 = .ok (.aload_n 0, 1) := by decide +kernel
theorem dX5_put_21 : decode cX5_put 21 = .ok (.invokevirtual 145, 3) := by decide +kernel
theorem dX5_put_24 : decode cX5_put 24 = .ok (.ifCond .ne 6, 3) := by decide +kernel
theorem dX5_put_27 : decode cX5_put 27 = .ok (.bipush (-2), 2) := by decide +kernel
theorem dX5_put_29 : decode cX5_put 29 = .ok (.ireturn, 1) := by decide +kernel
theorem dX5_put_30 : decode cX5_put 30 = .ok (.aload_n 0, 1) := by decide +kernel
theorem dX5_put_31 : decode cX5_put 31 = .ok (.iload_n 1, 1) := by decide +kernel
theorem dX5_put_32 : decode cX5_put 32 = .ok (.iconst (-1), 1) := by decide +kernel
theorem dX5_put_33 : decode cX5_put 33 = .ok (.invokevirtual 149, 3) := by decide +kernel
theorem dX5_put_36 : decode cX5_put 36 = .ok (.ifCond .lt 6, 3) := by decide +kernel
theorem dX5_put_39 : decode cX5_put 39 = .ok (.bipush (-3), 2) := by decide +kernel
theorem dX5_put_41 : decode cX5_put 41 = .ok (.ireturn, 1) := by decide +kernel
theorem dX5_put_42 : decode cX5_put 42 = .ok (.aload_n 0, 1) := by decide +kernel
theorem dX5_put_43 : decode cX5_put 43 = .ok (.invokevirtual 153, 3) := by decide +kernel
theorem dX5_put_46 : decode cX5_put 46 = .ok (.istore_n 3, 1) := by decide +kernel
theorem dX5_put_47 : decode cX5_put 47 = .ok (.iload_n 3, 1) := by decide +kernel
theorem dX5_put_48 : decode cX5_put 48 = .ok (.ifCond .lt 14, 3) := by decide +kernel
theorem dX5_put_51 : decode cX5_put 51 = .ok (.aload_n 0, 1) := by decide +kernel
theorem dX5_put_52 : decode cX5_put 52 = .ok (.getfield 38, 3) := by decide +kernel
theorem dX5_put_55 : decode cX5_put 55 = .ok (.iload_n 1, 1) := by decide +kernel
theorem dX5_put_56 : decode cX5_put 56 = .ok (.iaload, 1) := by decide +kernel
theorem dX5_put_57 : decode cX5_put 57 = .ok (.bipush 40, 2) := by decide +kernel
theorem dX5_put_59 : decode cX5_put 59 = .ok (.if_icmp .ne 6, 3) := by decide +kernel
theorem dX5_put_62 : decode cX5_put 62 = .ok (.bipush (-4), 2) := by decide +kernel
theorem dX5_put_64 : decode cX5_put 64 = .ok (.ireturn, 1) := by decide +kernel
theorem dX5_put_65 : decode cX5_put 65 = .ok (.aload_n 0, 1) := by decide +kernel
theorem dX5_put_66 : decode cX5_put 66 = .ok (.getfield 13, 3) := by decide +kernel
theorem dX5_put_69 : decode cX5_put 69 = .ok (.iload_n 3, 1) := by decide +kernel
theorem dX5_put_70 : decode cX5_put 70 = .ok (.iconst 1, 1) := by decide +kernel
theorem dX5_put_71 : decode cX5_put 71 = .ok (.bastore, 1) := by decide +kernel
theorem dX5_put_72 : decode cX5_put 72 = .ok (.aload_n 0, 1) := by decide +kernel
theorem dX5_put_73 : decode cX5_put 73 = .ok (.getfield 17, 3) := by decide +kernel
theorem dX5_put_76 : decode cX5_put 76 = .ok (.iload_n 3, 1) := by decide +kernel
theorem dX5_put_77 : decode cX5_put 77 = .ok (.iload_n 2, 1) := by decide +kernel
theorem dX5_put_78 : decode cX5_put 78 = .ok (.bastore, 1) := by decide +kernel
theorem dX5_put_79 : decode cX5_put 79 = .ok (.aload_n 0, 1) := by decide +kernel
theorem dX5_put_80 : decode cX5_put 80 = .ok (.getfield 38, 3) := by decide +kernel
theorem dX5_put_83 : decode cX5_put 83 = .ok (.iload_n 3, 1) := by decide +kernel
theorem dX5_put_84 : decode cX5_put 84 = .ok (.iconst 0, 1) := by decide +kernel
theorem dX5_put_85 : decode cX5_put 85 = .ok (.iastore, 1) := by decide +kernel
theorem dX5_put_86 : decode cX5_put 86 = .ok (.aload_n 0, 1) := by decide +kernel
theorem dX5_put_87 : decode cX5_put 87 = .ok (.iload_n 3, 1) := by decide +kernel
theorem dX5_put_88 : decode cX5_put 88 = .ok (.invokevirtual 156, 3) := by decide +kernel
theorem dX5_put_91 : decode cX5_put 91 = .ok (.aload_n 0, 1) := by decide +kernel
theorem dX5_put_92 : decode cX5_put 92 = .ok (.iload_n 3, 1) := by decide +kernel
theorem dX5_put_93 : decode cX5_put 93 = .ok (.iload_n 1, 1) := by decide +kernel
theorem dX5_put_94 : decode cX5_put 94 = .ok (.invokevirtual 159, 3) := by decide +kernel
theorem dX5_put_97 : decode cX5_put 97 = .ok (.iload_n 3, 1) := by decide +kernel
theorem dX5_put_98 : decode cX5_put 98 = .ok (.ireturn, 1) := by decide +kernel
theorem dX5_find_0 : decode cX5_find 0 = .ok (.aload_n 0, 1) := by decide +kernel
theorem dX5_find_1 : decode cX5_find 1 = .ok (.iconst 0, 1) := by decide +kernel
theorem dX5_find_2 : decode cX5_find 2 = .ok (.putfield 56, 3) := by decide +kernel
theorem dX5_find_5 : decode cX5_find 5 = .ok (.aload_n 0, 1) := by decide +kernel
theorem dX5_find_6 : decode cX5_find 6 = .ok (.invokevirtual 125, 3) := by decide +kernel
theorem dX5_find_9 : decode cX5_find 9 = .ok (.aload_n 0, 1) := by decide +kernel
theorem dX5_find_10 : decode cX5_find 10 = .ok (.iload_n 1, 1) := by decide +kernel
theorem dX5_find_11 : decode cX5_find 11 = .ok (.invokevirtual 142, 3) := by decide +kernel
theorem dX5_find_14 : decode cX5_find 14 = .ok (.ifCond .eq 8, 3) := by decide +kernel
theorem dX5_find_17 : decode cX5_find 17 = .ok (.bipush (-5), 2) := by decide +kernel
theorem dX5_find_19 : decode cX5_find 19 = .ok (.goto 21, 3) := by decide +kernel
theorem dX5_find_22 : decode cX5_find 22 = .ok (.aload_n 0, 1) := by decide +kernel
theorem dX5_find_23 : decode cX5_find 23 = .ok (.invokevirtual 145, 3) := by decide +kernel
theorem dX5_find_26 : decode cX5_find 26 = .ok (.ifCond .ne 8, 3) := by decide +kernel
theorem dX5_find_29 : decode cX5_find 29 = .ok (.bipush (-2), 2) := by decide +kernel
theorem dX5_find_31 : decode cX5_find 31 = .ok (.goto 9, 3) := by decide +kernel
theorem dX5_find_34 : decode cX5_find 34 = .ok (.aload_n 0, 1) := by decide +kernel
theorem dX5_find_35 : decode cX5_find 35 = .ok (.iload_n 1, 1) := by decide +kernel
theorem dX5_find_36 : decode cX5_find 36 = .ok (.iconst (-1), 1) := by decide +kernel
theorem dX5_find_37 : decode cX5_find 37 = .ok (.invokevirtual 149, 3) := by decide +kernel
theorem dX5_find_40 : decode cX5_find 40 = .ok (.ireturn, 1) := by decide +kernel
theorem dX5_walk_0 : decode cX5_walk 0 = .ok (.aload_n 0, 1) := by decide +kernel
theorem dX5_walk_1 : decode cX5_walk 1 = .ok (.iconst 0, 1) := by decide +kernel
theorem dX5_walk_2 : decode cX5_walk 2 = .ok (.putfield 56, 3) := by decide +kernel
theorem dX5_walk_5 : decode cX5_walk 5 = .ok (.aload_n 0, 1) := by decide +kernel
theorem dX5_walk_6 : decode cX5_walk 6 = .ok (.getfield 60, 3) := by decide +kernel
theorem dX5_walk_9 : decode cX5_walk 9 = .ok (.istore_n 2, 1) := by decide +kernel
theorem dX5_walk_10 : decode cX5_walk 10 = .ok (.iconst 0, 1) := by decide +kernel
theorem dX5_walk_11 : decode cX5_walk 11 = .ok (.istore_n 3, 1) := by decide +kernel
theorem dX5_walk_12 : decode cX5_walk 12 = .ok (.iload_n 3, 1) := by decide +kernel
theorem dX5_walk_13 : decode cX5_walk 13 = .ok (.iload_n 2, 1) := by decide +kernel
theorem dX5_walk_14 : decode cX5_walk 14 = .ok (.if_icmp .ge 21, 3) := by decide +kernel
theorem dX5_walk_17 : decode cX5_walk 17 = .ok (.aload_n 0, 1) := by decide +kernel
theorem dX5_walk_18 : decode cX5_walk 18 = .ok (.getfield 53, 3) := by decide +kernel
theorem dX5_walk_21 : decode cX5_walk 21 = .ok (.iload_n 3, 1) := by decide +kernel
theorem dX5_walk_22 : decode cX5_walk 22 = .ok (.aload_n 0, 1) := by decide +kernel
theorem dX5_walk_23 : decode cX5_walk 23 = .ok (.getfield 7, 3) := by decide +kernel
theorem dX5_walk_26 : decode cX5_walk 26 = .ok (.iload_n 3, 1) := by decide +kernel
theorem dX5_walk_27 : decode cX5_walk 27 = .ok (.iaload, 1) := by decide +kernel
theorem dX5_walk_28 : decode cX5_walk 28 = .ok (.iastore, 1) := by decide +kernel
theorem dX5_walk_29 : decode cX5_walk 29 = .ok (.iinc 3 1, 3) := by decide +kernel
theorem dX5_walk_32 : decode cX5_walk 32 = .ok (.goto (-20), 3) := by decide +kernel
theorem dX5_walk_35 : decode cX5_walk 35 = .ok (.aload_n 0, 1) := by decide +kernel
theorem dX5_walk_36 : decode cX5_walk 36 = .ok (.iconst 0, 1) := by decide +kernel
theorem dX5_walk_37 : decode cX5_walk 37 = .ok (.putfield 60, 3) := by decide +kernel
theorem dX5_walk_40 : decode cX5_walk 40 = .ok (.aload_n 0, 1) := by decide +kernel
theorem dX5_walk_41 : decode cX5_walk 41 = .ok (.iload_n 1, 1) := by decide +kernel
theorem dX5_walk_42 : decode cX5_walk 42 = .ok (.invokevirtual 138, 3) := by decide +kernel
theorem dX5_walk_45 : decode cX5_walk 45 = .ok (.ifCond .eq 6, 3) := by decide +kernel
theorem dX5_walk_48 : decode cX5_walk 48 = .ok (.bipush (-5), 2) := by decide +kernel
theorem dX5_walk_50 : decode cX5_walk 50 = .ok (.ireturn, 1) := by decide +kernel
theorem dX5_walk_51 : decode cX5_walk 51 = .ok (.iload_n 2, 1) := by decide +kernel
theorem dX5_walk_52 : decode cX5_walk 52 = .ok (.ifCond .le 18, 3) := by decide +kernel
theorem dX5_walk_55 : decode cX5_walk 55 = .ok (.aload_n 0, 1) := by decide +kernel
theorem dX5_walk_56 : decode cX5_walk 56 = .ok (.getfield 53, 3) := by decide +kernel
theorem dX5_walk_59 : decode cX5_walk 59 = .ok (.iconst 0, 1) := by decide +kernel
theorem dX5_walk_60 : decode cX5_walk 60 = .ok (.iaload, 1) := by decide +kernel
theorem dX5_walk_61 : decode cX5_walk 61 = .ok (.bipush 47, 2) := by decide +kernel
theorem dX5_walk_63 : decode cX5_walk 63 = .ok (.if_icmp .ne 7, 3) := by decide +kernel
theorem dX5_walk_66 : decode cX5_walk 66 = .ok (.iconst 0, 1) := by decide +kernel
theorem dX5_walk_67 : decode cX5_walk 67 = .ok (.goto 4, 3) := by decide +kernel
theorem dX5_walk_70 : decode cX5_walk 70 = .ok (.iload_n 1, 1) := by decide +kernel
theorem dX5_walk_71 : decode cX5_walk 71 = .ok (.istore_n 3, 1) := by decide +kernel
theorem dX5_walk_72 : decode cX5_walk 72 = .ok (.iconst 0, 1) := by decide +kernel
theorem dX5_walk_73 : decode cX5_walk 73 = .ok (.istore 4, 2) := by decide +kernel
theorem dX5_walk_75 : decode cX5_walk 75 = .ok (.iload 4, 2) := by decide +kernel
theorem dX5_walk_77 : decode cX5_walk 77 = .ok (.iload_n 2, 1) := by decide +kernel
theorem dX5_walk_78 : decode cX5_walk 78 = .ok (.if_icmp .ge 209, 3) := by decide +kernel
theorem dX5_walk_81 : decode cX5_walk 81 = .ok (.aload_n 0, 1) := by decide +kernel
theorem dX5_walk_82 : decode cX5_walk 82 = .ok (.iconst 0, 1) := by decide +kernel
theorem dX5_walk_83 : decode cX5_walk 83 = .ok (.putfield 65, 3) := by decide +kernel
theorem dX5_walk_86 : decode cX5_walk 86 = .ok (.iload 4, 2) := by decide +kernel
theorem dX5_walk_88 : decode cX5_walk 88 = .ok (.iload_n 2, 1) := by decide +kernel
theorem dX5_walk_89 : decode cX5_walk 89 = .ok (.if_icmp .ge 47, 3) := by decide +kernel
theorem dX5_walk_92 : decode cX5_walk 92 = .ok (.aload_n 0, 1) := by decide +kernel
theorem dX5_walk_93 : decode cX5_walk 93 = .ok (.getfield 53, 3) := by decide +kernel
theorem dX5_walk_96 : decode cX5_walk 96 = .ok (.iload 4, 2) := by decide +kernel
theorem dX5_walk_98 : decode cX5_walk 98 = .ok (.iaload, 1) := by decide +kernel
theorem dX5_walk_99 : decode cX5_walk 99 = .ok (.bipush 47, 2) := by decide +kernel
theorem dX5_walk_101 : decode cX5_walk 101 = .ok (.if_icmp .eq 35, 3) := by decide +kernel
theorem dX5_walk_104 : decode cX5_walk 104 = .ok (.aload_n 0, 1) := by decide +kernel
theorem dX5_walk_105 : decode cX5_walk 105 = .ok (.getfield 44, 3) := by decide +kernel
theorem dX5_walk_108 : decode cX5_walk 108 = .ok (.aload_n 0, 1) := by decide +kernel
theorem dX5_walk_109 : decode cX5_walk 109 = .ok (.getfield 65, 3) := by decide +kernel
theorem dX5_walk_112 : decode cX5_walk 112 = .ok (.aload_n 0, 1) := by decide +kernel
theorem dX5_walk_113 : decode cX5_walk 113 = .ok (.getfield 53, 3) := by decide +kernel
theorem dX5_walk_116 : decode cX5_walk 116 = .ok (.iload 4, 2) := by decide +kernel
theorem dX5_walk_118 : decode cX5_walk 118 = .ok (.iaload, 1) := by decide +kernel
theorem dX5_walk_119 : decode cX5_walk 119 = .ok (.iastore, 1) := by decide +kernel
theorem dX5_walk_120 : decode cX5_walk 120 = .ok (.aload_n 0, 1) := by decide +kernel
theorem dX5_walk_121 : decode cX5_walk 121 = .ok (.dup, 1) := by decide +kernel
theorem dX5_walk_122 : decode cX5_walk 122 = .ok (.getfield 65, 3) := by decide +kernel
theorem dX5_walk_125 : decode cX5_walk 125 = .ok (.iconst 1, 1) := by decide +kernel
theorem dX5_walk_126 : decode cX5_walk 126 = .ok (.iadd, 1) := by decide +kernel
theorem dX5_walk_127 : decode cX5_walk 127 = .ok (.putfield 65, 3) := by decide +kernel
theorem dX5_walk_130 : decode cX5_walk 130 = .ok (.iinc 4 1, 3) := by decide +kernel
theorem dX5_walk_133 : decode cX5_walk 133 = .ok (.goto (-47), 3) := by decide +kernel
theorem dX5_walk_136 : decode cX5_walk 136 = .ok (.iinc 4 1, 3) := by decide +kernel
theorem dX5_walk_139 : decode cX5_walk 139 = .ok (.aload_n 0, 1) := by decide +kernel
theorem dX5_walk_140 : decode cX5_walk 140 = .ok (.getfield 65, 3) := by decide +kernel
theorem dX5_walk_143 : decode cX5_walk 143 = .ok (.ifCond .le (-68), 3) := by decide +kernel
theorem dX5_walk_146 : decode cX5_walk 146 = .ok (.aload_n 0, 1) := by decide +kernel
theorem dX5_walk_147 : decode cX5_walk 147 = .ok (.getfield 44, 3) := by decide +kernel
theorem dX5_walk_150 : decode cX5_walk 150 = .ok (.iconst 0, 1) := by decide +kernel
theorem dX5_walk_151 : decode cX5_walk 151 = .ok (.iaload, 1) := by decide +kernel
theorem dX5_walk_152 : decode cX5_walk 152 = .ok (.bipush 46, 2) := by decide +kernel
theorem dX5_walk_154 : decode cX5_walk 154 = .ok (.if_icmp .ne 15, 3) := by decide +kernel
theorem dX5_walk_157 : decode cX5_walk 157 = .ok (.aload_n 0, 1) := by decide +kernel
theorem dX5_walk_158 : decode cX5_walk 158 = .ok (.getfield 65, 3) := by decide +kernel
theorem dX5_walk_161 : decode cX5_walk 161 = .ok (.iconst 1, 1) := by decide +kernel
theorem dX5_walk_162 : decode cX5_walk 162 = .ok (.if_icmp .ne 7, 3) := by decide +kernel
theorem dX5_walk_165 : decode cX5_walk 165 = .ok (.iconst 1, 1) := by decide +kernel
theorem dX5_walk_166 : decode cX5_walk 166 = .ok (.goto 4, 3) := by decide +kernel
theorem dX5_walk_169 : decode cX5_walk 169 = .ok (.iconst 0, 1) := by decide +kernel
theorem dX5_walk_170 : decode cX5_walk 170 = .ok (.istore 5, 2) := by decide +kernel
theorem dX5_walk_172 : decode cX5_walk 172 = .ok (.aload_n 0, 1) := by decide +kernel
theorem dX5_walk_173 : decode cX5_walk 173 = .ok (.getfield 44, 3) := by decide +kernel
theorem dX5_walk_176 : decode cX5_walk 176 = .ok (.iconst 0, 1) := by decide +kernel
theorem dX5_walk_177 : decode cX5_walk 177 = .ok (.iaload, 1) := by decide +kernel
theorem dX5_walk_178 : decode cX5_walk 178 = .ok (.bipush 46, 2) := by decide +kernel
theorem dX5_walk_180 : decode cX5_walk 180 = .ok (.if_icmp .ne 26, 3) := by decide +kernel
theorem dX5_walk_183 : decode cX5_walk 183 = .ok (.aload_n 0, 1) := by decide +kernel
theorem dX5_walk_184 : decode cX5_walk 184 = .ok (.getfield 65, 3) := by decide +kernel
theorem dX5_walk_187 : decode cX5_walk 187 = .ok (.iconst 2, 1) := by decide +kernel
theorem dX5_walk_188 : decode cX5_walk 188 = .ok (.if_icmp .ne 18, 3) := by decide +kernel
theorem dX5_walk_191 : decode cX5_walk 191 = .ok (.aload_n 0, 1) := by decide +kernel
theorem dX5_walk_192 : decode cX5_walk 192 = .ok (.getfield 44, 3) := by decide +kernel
theorem dX5_walk_195 : decode cX5_walk 195 = .ok (.iconst 1, 1) := by decide +kernel
theorem dX5_walk_196 : decode cX5_walk 196 = .ok (.iaload, 1) := by decide +kernel
theorem dX5_walk_197 : decode cX5_walk 197 = .ok (.bipush 46, 2) := by decide +kernel
theorem dX5_walk_199 : decode cX5_walk 199 = .ok (.if_icmp .ne 7, 3) := by decide +kernel
theorem dX5_walk_202 : decode cX5_walk 202 = .ok (.iconst 1, 1) := by decide +kernel
theorem dX5_walk_203 : decode cX5_walk 203 = .ok (.goto 4, 3) := by decide +kernel
theorem dX5_walk_206 : decode cX5_walk 206 = .ok (.iconst 0, 1) := by decide +kernel
theorem dX5_walk_207 : decode cX5_walk 207 = .ok (.istore 6, 2) := by decide +kernel
theorem dX5_walk_209 : decode cX5_walk 209 = .ok (.iload 5, 2) := by decide +kernel
theorem dX5_walk_211 : decode cX5_walk 211 = .ok (.ifCond .ne 18, 3) := by decide +kernel
theorem dX5_walk_214 : decode cX5_walk 214 = .ok (.iload 6, 2) := by decide +kernel
theorem dX5_walk_216 : decode cX5_walk 216 = .ok (.ifCond .ne 13, 3) := by decide +kernel
theorem dX5_walk_219 : decode cX5_walk 219 = .ok (.aload_n 0, 1) := by decide +kernel
theorem dX5_walk_220 : decode cX5_walk 220 = .ok (.invokevirtual 145, 3) := by decide +kernel
theorem dX5_walk_223 : decode cX5_walk 223 = .ok (.ifCond .ne 6, 3) := by decide +kernel
theorem dX5_walk_226 : decode cX5_walk 226 = .ok (.bipush (-2), 2) := by decide +kernel
theorem dX5_walk_228 : decode cX5_walk 228 = .ok (.ireturn, 1) := by decide +kernel
theorem dX5_walk_229 : decode cX5_walk 229 = .ok (.aload_n 0, 1) := by decide +kernel
theorem dX5_walk_230 : decode cX5_walk 230 = .ok (.getfield 17, 3) := by decide +kernel
theorem dX5_walk_233 : decode cX5_walk 233 = .ok (.iload_n 3, 1) := by decide +kernel
theorem dX5_walk_234 : decode cX5_walk 234 = .ok (.baload, 1) := by decide +kernel
theorem dX5_walk_235 : decode cX5_walk 235 = .ok (.ifCond .ne 5, 3) := by decide +kernel
theorem dX5_walk_238 : decode cX5_walk 238 = .ok (.iconst (-1), 1) := by decide +kernel
theorem dX5_walk_239 : decode cX5_walk 239 = .ok (.ireturn, 1) := by decide +kernel
theorem dX5_walk_240 : decode cX5_walk 240 = .ok (.iload 5, 2) := by decide +kernel
theorem dX5_walk_242 : decode cX5_walk 242 = .ok (.ifCond .eq 7, 3) := by decide +kernel
theorem dX5_walk_245 : decode cX5_walk 245 = .ok (.iload_n 3, 1) := by decide +kernel
theorem dX5_walk_246 : decode cX5_walk 246 = .ok (.goto 31, 3) := by decide +kernel
theorem dX5_walk_249 : decode cX5_walk 249 = .ok (.iload 6, 2) := by decide +kernel
theorem dX5_walk_251 : decode cX5_walk 251 = .ok (.ifCond .eq 20, 3) := by decide +kernel
theorem dX5_walk_254 : decode cX5_walk 254 = .ok (.iload_n 3, 1) := by decide +kernel
theorem dX5_walk_255 : decode cX5_walk 255 = .ok (.ifCond .ne 7, 3) := by decide +kernel
theorem dX5_walk_258 : decode cX5_walk 258 = .ok (.iconst 0, 1) := by decide +kernel
theorem dX5_walk_259 : decode cX5_walk 259 = .ok (.goto 18, 3) := by decide +kernel
theorem dX5_walk_262 : decode cX5_walk 262 = .ok (.aload_n 0, 1) := by decide +kernel
theorem dX5_walk_263 : decode cX5_walk 263 = .ok (.getfield 20, 3) := by decide +kernel
theorem dX5_walk_266 : decode cX5_walk 266 = .ok (.iload_n 3, 1) := by decide +kernel
theorem dX5_walk_267 : decode cX5_walk 267 = .ok (.iaload, 1) := by decide +kernel
theorem dX5_walk_268 : decode cX5_walk 268 = .ok (.goto 9, 3) := by decide +kernel
theorem dX5_walk_271 : decode cX5_walk 271 = .ok (.aload_n 0, 1) := by decide +kernel
theorem dX5_walk_272 : decode cX5_walk 272 = .ok (.iload_n 3, 1) := by decide +kernel
theorem dX5_walk_273 : decode cX5_walk 273 = .ok (.iconst (-1), 1) := by decide +kernel
theorem dX5_walk_274 : decode cX5_walk 274 = .ok (.invokevirtual 149, 3) := by decide +kernel
theorem dX5_walk_277 : decode cX5_walk 277 = .ok (.istore_n 3, 1) := by decide +kernel
theorem dX5_walk_278 : decode cX5_walk 278 = .ok (.iload_n 3, 1) := by decide +kernel
theorem dX5_walk_279 : decode cX5_walk 279 = .ok (.ifCond .ge 5, 3) := by decide +kernel
theorem dX5_walk_282 : decode cX5_walk 282 = .ok (.iconst (-1), 1) := by decide +kernel
theorem dX5_walk_283 : decode cX5_walk 283 = .ok (.ireturn, 1) := by decide +kernel
theorem dX5_walk_284 : decode cX5_walk 284 = .ok (.goto (-209), 3) := by decide +kernel
theorem dX5_walk_287 : decode cX5_walk 287 = .ok (.iload_n 3, 1) := by decide +kernel
theorem dX5_walk_288 : decode cX5_walk 288 = .ok (.ireturn, 1) := by decide +kernel
theorem dX5_isWithin_0 : decode cX5_isWithin 0 = .ok (.iload_n 1, 1) := by decide +kernel
theorem dX5_isWithin_1 : decode cX5_isWithin 1 = .ok (.istore_n 3, 1) := by decide +kernel
theorem dX5_isWithin_2 : decode cX5_isWithin 2 = .ok (.iload_n 3, 1) := by decide +kernel
theorem dX5_isWithin_3 : decode cX5_isWithin 3 = .ok (.ifCond .le 18, 3) := by decide +kernel
theorem dX5_isWithin_6 : decode cX5_isWithin 6 = .ok (.iload_n 3, 1) := by decide +kernel
theorem dX5_isWithin_7 : decode cX5_isWithin 7 = .ok (.iload_n 2, 1) := by decide +kernel
theorem dX5_isWithin_8 : decode cX5_isWithin 8 = .ok (.if_icmp .eq 13, 3) := by decide +kernel
theorem dX5_isWithin_11 : decode cX5_isWithin 11 = .ok (.aload_n 0, 1) := by decide +kernel
theorem dX5_isWithin_12 : decode cX5_isWithin 12 = .ok (.getfield 20, 3) := by decide +kernel
theorem dX5_isWithin_15 : decode cX5_isWithin 15 = .ok (.iload_n 3, 1) := by decide +kernel
theorem dX5_isWithin_16 : decode cX5_isWithin 16 = .ok (.iaload, 1) := by decide +kernel
theorem dX5_isWithin_17 : decode cX5_isWithin 17 = .ok (.istore_n 3, 1) := by decide +kernel
theorem dX5_isWithin_18 : decode cX5_isWithin 18 = .ok (.goto (-16), 3) := by decide +kernel
theorem dX5_isWithin_21 : decode cX5_isWithin 21 = .ok (.iload_n 3, 1) := by decide +kernel
theorem dX5_isWithin_22 : decode cX5_isWithin 22 = .ok (.iload_n 2, 1) := by decide +kernel
theorem dX5_isWithin_23 : decode cX5_isWithin 23 = .ok (.if_icmp .ne 7, 3) := by decide +kernel
theorem dX5_isWithin_26 : decode cX5_isWithin 26 = .ok (.iconst 1, 1) := by decide +kernel
theorem dX5_isWithin_27 : decode cX5_isWithin 27 = .ok (.goto 4, 3) := by decide +kernel
theorem dX5_isWithin_30 : decode cX5_isWithin 30 = .ok (.iconst 0, 1) := by decide +kernel
theorem dX5_isWithin_31 : decode cX5_isWithin 31 = .ok (.ireturn, 1) := by decide +kernel
theorem dX5_move_0 : decode cX5_move 0 = .ok (.aload_n 0, 1) := by decide +kernel
theorem dX5_move_1 : decode cX5_move 1 = .ok (.iconst 0, 1) := by decide +kernel
theorem dX5_move_2 : decode cX5_move 2 = .ok (.putfield 56, 3) := by decide +kernel
theorem dX5_move_5 : decode cX5_move 5 = .ok (.aload_n 0, 1) := by decide +kernel
theorem dX5_move_6 : decode cX5_move 6 = .ok (.invokevirtual 125, 3) := by decide +kernel
theorem dX5_move_9 : decode cX5_move 9 = .ok (.iload_n 1, 1) := by decide +kernel
theorem dX5_move_10 : decode cX5_move 10 = .ok (.ifCond .eq 19, 3) := by decide +kernel
theorem dX5_move_13 : decode cX5_move 13 = .ok (.aload_n 0, 1) := by decide +kernel
theorem dX5_move_14 : decode cX5_move 14 = .ok (.iload_n 1, 1) := by decide +kernel
theorem dX5_move_15 : decode cX5_move 15 = .ok (.invokevirtual 138, 3) := by decide +kernel
theorem dX5_move_18 : decode cX5_move 18 = .ok (.ifCond .ne 11, 3) := by decide +kernel
theorem dX5_move_21 : decode cX5_move 21 = .ok (.aload_n 0, 1) := by decide +kernel
theorem dX5_move_22 : decode cX5_move 22 = .ok (.iload_n 2, 1) := by decide +kernel
theorem dX5_move_23 : decode cX5_move 23 = .ok (.invokevirtual 142, 3) := by decide +kernel
theorem dX5_move_26 : decode cX5_move 26 = .ok (.ifCond .eq 6, 3) := by decide +kernel
theorem dX5_move_29 : decode cX5_move 29 = .ok (.bipush (-5), 2) := by decide +kernel
theorem dX5_move_31 : decode cX5_move 31 = .ok (.ireturn, 1) := by decide +kernel
theorem dX5_move_32 : decode cX5_move 32 = .ok (.aload_n 0, 1) := by decide +kernel
theorem dX5_move_33 : decode cX5_move 33 = .ok (.getfield 65, 3) := by decide +kernel
theorem dX5_move_36 : decode cX5_move 36 = .ok (.ifCond .ne 46, 3) := by decide +kernel
theorem dX5_move_39 : decode cX5_move 39 = .ok (.aload_n 0, 1) := by decide +kernel
theorem dX5_move_40 : decode cX5_move 40 = .ok (.aload_n 0, 1) := by decide +kernel
theorem dX5_move_41 : decode cX5_move 41 = .ok (.getfield 26, 3) := by decide +kernel
theorem dX5_move_44 : decode cX5_move 44 = .ok (.iload_n 1, 1) := by decide +kernel
theorem dX5_move_45 : decode cX5_move 45 = .ok (.iaload, 1) := by decide +kernel
theorem dX5_move_46 : decode cX5_move 46 = .ok (.putfield 65, 3) := by decide +kernel
theorem dX5_move_49 : decode cX5_move 49 = .ok (.iconst 0, 1) := by decide +kernel
theorem dX5_move_50 : decode cX5_move 50 = .ok (.istore_n 3, 1) := by decide +kernel
theorem dX5_move_51 : decode cX5_move 51 = .ok (.iload_n 3, 1) := by decide +kernel
theorem dX5_move_52 : decode cX5_move 52 = .ok (.aload_n 0, 1) := by decide +kernel
theorem dX5_move_53 : decode cX5_move 53 = .ok (.getfield 65, 3) := by decide +kernel
theorem dX5_move_56 : decode cX5_move 56 = .ok (.if_icmp .ge 26, 3) := by decide +kernel
theorem dX5_move_59 : decode cX5_move 59 = .ok (.aload_n 0, 1) := by decide +kernel
theorem dX5_move_60 : decode cX5_move 60 = .ok (.getfield 44, 3) := by decide +kernel
theorem dX5_move_63 : decode cX5_move 63 = .ok (.iload_n 3, 1) := by decide +kernel
theorem dX5_move_64 : decode cX5_move 64 = .ok (.aload_n 0, 1) := by decide +kernel
theorem dX5_move_65 : decode cX5_move 65 = .ok (.getfield 23, 3) := by decide +kernel
theorem dX5_move_68 : decode cX5_move 68 = .ok (.bipush 60, 2) := by decide +kernel
theorem dX5_move_70 : decode cX5_move 70 = .ok (.iload_n 1, 1) := by decide +kernel
theorem dX5_move_71 : decode cX5_move 71 = .ok (.imul, 1) := by decide +kernel
theorem dX5_move_72 : decode cX5_move 72 = .ok (.iload_n 3, 1) := by decide +kernel
theorem dX5_move_73 : decode cX5_move 73 = .ok (.iadd, 1) := by decide +kernel
theorem dX5_move_74 : decode cX5_move 74 = .ok (.iaload, 1) := by decide +kernel
theorem dX5_move_75 : decode cX5_move 75 = .ok (.iastore, 1) := by decide +kernel
theorem dX5_move_76 : decode cX5_move 76 = .ok (.iinc 3 1, 3) := by decide +kernel
theorem dX5_move_79 : decode cX5_move 79 = .ok (.goto (-28), 3) := by decide +kernel
theorem dX5_move_82 : decode cX5_move 82 = .ok (.aload_n 0, 1) := by decide +kernel
theorem dX5_move_83 : decode cX5_move 83 = .ok (.invokevirtual 145, 3) := by decide +kernel
theorem dX5_move_86 : decode cX5_move 86 = .ok (.ifCond .ne 6, 3) := by decide +kernel
theorem dX5_move_89 : decode cX5_move 89 = .ok (.bipush (-2), 2) := by decide +kernel
theorem dX5_move_91 : decode cX5_move 91 = .ok (.ireturn, 1) := by decide +kernel
theorem dX5_move_92 : decode cX5_move 92 = .ok (.aload_n 0, 1) := by decide +kernel
theorem dX5_move_93 : decode cX5_move 93 = .ok (.iload_n 2, 1) := by decide +kernel
theorem dX5_move_94 : decode cX5_move 94 = .ok (.iload_n 1, 1) := by decide +kernel
theorem dX5_move_95 : decode cX5_move 95 = .ok (.invokevirtual 149, 3) := by decide +kernel
theorem dX5_move_98 : decode cX5_move 98 = .ok (.ifCond .lt 6, 3) := by decide +kernel
theorem dX5_move_101 : decode cX5_move 101 = .ok (.bipush (-3), 2) := by decide +kernel
theorem dX5_move_103 : decode cX5_move 103 = .ok (.ireturn, 1) := by decide +kernel
theorem dX5_move_104 : decode cX5_move 104 = .ok (.aload_n 0, 1) := by decide +kernel
theorem dX5_move_105 : decode cX5_move 105 = .ok (.iload_n 2, 1) := by decide +kernel
theorem dX5_move_106 : decode cX5_move 106 = .ok (.iload_n 1, 1) := by decide +kernel
theorem dX5_move_107 : decode cX5_move 107 = .ok (.invokevirtual 163, 3) := by decide +kernel
theorem dX5_move_110 : decode cX5_move 110 = .ok (.ifCond .eq 6, 3) := by decide +kernel
theorem dX5_move_113 : decode cX5_move 113 = .ok (.bipush (-6), 2) := by decide +kernel
theorem dX5_move_115 : decode cX5_move 115 = .ok (.ireturn, 1) := by decide +kernel
theorem dX5_move_116 : decode cX5_move 116 = .ok (.aload_n 0, 1) := by decide +kernel
theorem dX5_move_117 : decode cX5_move 117 = .ok (.getfield 20, 3) := by decide +kernel
theorem dX5_move_120 : decode cX5_move 120 = .ok (.iload_n 1, 1) := by decide +kernel
theorem dX5_move_121 : decode cX5_move 121 = .ok (.iaload, 1) := by decide +kernel
theorem dX5_move_122 : decode cX5_move 122 = .ok (.istore_n 3, 1) := by decide +kernel
theorem dX5_move_123 : decode cX5_move 123 = .ok (.iload_n 3, 1) := by decide +kernel
theorem dX5_move_124 : decode cX5_move 124 = .ok (.iload_n 2, 1) := by decide +kernel
theorem dX5_move_125 : decode cX5_move 125 = .ok (.if_icmp .eq 17, 3) := by decide +kernel
theorem dX5_move_128 : decode cX5_move 128 = .ok (.aload_n 0, 1) := by decide +kernel
theorem dX5_move_129 : decode cX5_move 129 = .ok (.getfield 38, 3) := by decide +kernel
theorem dX5_move_132 : decode cX5_move 132 = .ok (.iload_n 2, 1) := by decide +kernel
theorem dX5_move_133 : decode cX5_move 133 = .ok (.iaload, 1) := by decide +kernel
theorem dX5_move_134 : decode cX5_move 134 = .ok (.bipush 40, 2) := by decide +kernel
theorem dX5_move_136 : decode cX5_move 136 = .ok (.if_icmp .ne 6, 3) := by decide +kernel
theorem dX5_move_139 : decode cX5_move 139 = .ok (.bipush (-4), 2) := by decide +kernel
theorem dX5_move_141 : decode cX5_move 141 = .ok (.ireturn, 1) := by decide +kernel
theorem dX5_move_142 : decode cX5_move 142 = .ok (.aload_n 0, 1) := by decide +kernel
theorem dX5_move_143 : decode cX5_move 143 = .ok (.iload_n 1, 1) := by decide +kernel
theorem dX5_move_144 : decode cX5_move 144 = .ok (.invokevirtual 167, 3) := by decide +kernel
theorem dX5_move_147 : decode cX5_move 147 = .ok (.aload_n 0, 1) := by decide +kernel
theorem dX5_move_148 : decode cX5_move 148 = .ok (.iload_n 1, 1) := by decide +kernel
theorem dX5_move_149 : decode cX5_move 149 = .ok (.invokevirtual 156, 3) := by decide +kernel
theorem dX5_move_152 : decode cX5_move 152 = .ok (.aload_n 0, 1) := by decide +kernel
theorem dX5_move_153 : decode cX5_move 153 = .ok (.iload_n 1, 1) := by decide +kernel
theorem dX5_move_154 : decode cX5_move 154 = .ok (.iload_n 2, 1) := by decide +kernel
theorem dX5_move_155 : decode cX5_move 155 = .ok (.invokevirtual 159, 3) := by decide +kernel
theorem dX5_move_158 : decode cX5_move 158 = .ok (.iload_n 3, 1) := by decide +kernel
theorem dX5_move_159 : decode cX5_move 159 = .ok (.ireturn, 1) := by decide +kernel
theorem dX5_remove_0 : decode cX5_remove 0 = .ok (.aload_n 0, 1) := by decide +kernel
theorem dX5_remove_1 : decode cX5_remove 1 = .ok (.iconst 0, 1) := by decide +kernel
theorem dX5_remove_2 : decode cX5_remove 2 = .ok (.putfield 56, 3) := by decide +kernel
theorem dX5_remove_5 : decode cX5_remove 5 = .ok (.iload_n 1, 1) := by decide +kernel
theorem dX5_remove_6 : decode cX5_remove 6 = .ok (.ifCond .eq 11, 3) := by decide +kernel
theorem dX5_remove_9 : decode cX5_remove 9 = .ok (.aload_n 0, 1) := by decide +kernel
theorem dX5_remove_10 : decode cX5_remove 10 = .ok (.iload_n 1, 1) := by decide +kernel
theorem dX5_remove_11 : decode cX5_remove 11 = .ok (.invokevirtual 138, 3) := by decide +kernel
theorem dX5_remove_14 : decode cX5_remove 14 = .ok (.ifCond .eq 6, 3) := by decide +kernel
theorem dX5_remove_17 : decode cX5_remove 17 = .ok (.bipush (-5), 2) := by decide +kernel
theorem dX5_remove_19 : decode cX5_remove 19 = .ok (.ireturn, 1) := by decide +kernel
theorem dX5_remove_20 : decode cX5_remove 20 = .ok (.aload_n 0, 1) := by decide +kernel
theorem dX5_remove_21 : decode cX5_remove 21 = .ok (.getfield 38, 3) := by decide +kernel
theorem dX5_remove_24 : decode cX5_remove 24 = .ok (.iload_n 1, 1) := by decide +kernel
theorem dX5_remove_25 : decode cX5_remove 25 = .ok (.iaload, 1) := by decide +kernel
theorem dX5_remove_26 : decode cX5_remove 26 = .ok (.ifCond .le 6, 3) := by decide +kernel
theorem dX5_remove_29 : decode cX5_remove 29 = .ok (.bipush (-6), 2) := by decide +kernel
theorem dX5_remove_31 : decode cX5_remove 31 = .ok (.ireturn, 1) := by decide +kernel
theorem dX5_remove_32 : decode cX5_remove 32 = .ok (.aload_n 0, 1) := by decide +kernel
theorem dX5_remove_33 : decode cX5_remove 33 = .ok (.iload_n 1, 1) := by decide +kernel
theorem dX5_remove_34 : decode cX5_remove 34 = .ok (.invokevirtual 167, 3) := by decide +kernel
theorem dX5_remove_37 : decode cX5_remove 37 = .ok (.aload_n 0, 1) := by decide +kernel
theorem dX5_remove_38 : decode cX5_remove 38 = .ok (.getfield 13, 3) := by decide +kernel
theorem dX5_remove_41 : decode cX5_remove 41 = .ok (.iload_n 1, 1) := by decide +kernel
theorem dX5_remove_42 : decode cX5_remove 42 = .ok (.iconst 0, 1) := by decide +kernel
theorem dX5_remove_43 : decode cX5_remove 43 = .ok (.bastore, 1) := by decide +kernel
theorem dX5_remove_44 : decode cX5_remove 44 = .ok (.aload_n 0, 1) := by decide +kernel
theorem dX5_remove_45 : decode cX5_remove 45 = .ok (.getfield 20, 3) := by decide +kernel
theorem dX5_remove_48 : decode cX5_remove 48 = .ok (.iload_n 1, 1) := by decide +kernel
theorem dX5_remove_49 : decode cX5_remove 49 = .ok (.iaload, 1) := by decide +kernel
theorem dX5_remove_50 : decode cX5_remove 50 = .ok (.ireturn, 1) := by decide +kernel
theorem dX5_about_0 : decode cX5_about 0 = .ok (.aload_n 0, 1) := by decide +kernel
theorem dX5_about_1 : decode cX5_about 1 = .ok (.iload_n 2, 1) := by decide +kernel
theorem dX5_about_2 : decode cX5_about 2 = .ok (.ifCond .lt 8, 3) := by decide +kernel
theorem dX5_about_5 : decode cX5_about 5 = .ok (.iload_n 2, 1) := by decide +kernel
theorem dX5_about_6 : decode cX5_about 6 = .ok (.iconst 5, 1) := by decide +kernel
theorem dX5_about_7 : decode cX5_about 7 = .ok (.if_icmp .le 7, 3) := by decide +kernel
theorem dX5_about_10 : decode cX5_about 10 = .ok (.iconst 1, 1) := by decide +kernel
theorem dX5_about_11 : decode cX5_about 11 = .ok (.goto 4, 3) := by decide +kernel
theorem dX5_about_14 : decode cX5_about 14 = .ok (.iconst 0, 1) := by decide +kernel
theorem dX5_about_15 : decode cX5_about 15 = .ok (.putfield 56, 3) := by decide +kernel
theorem dX5_about_18 : decode cX5_about 18 = .ok (.aload_n 0, 1) := by decide +kernel
theorem dX5_about_19 : decode cX5_about 19 = .ok (.getfield 56, 3) := by decide +kernel
theorem dX5_about_22 : decode cX5_about 22 = .ok (.ifCond .le 5, 3) := by decide +kernel
theorem dX5_about_25 : decode cX5_about 25 = .ok (.iconst 0, 1) := by decide +kernel
theorem dX5_about_26 : decode cX5_about 26 = .ok (.ireturn, 1) := by decide +kernel
theorem dX5_about_27 : decode cX5_about 27 = .ok (.aload_n 0, 1) := by decide +kernel
theorem dX5_about_28 : decode cX5_about 28 = .ok (.iload_n 1, 1) := by decide +kernel
theorem dX5_about_29 : decode cX5_about 29 = .ok (.invokevirtual 138, 3) := by decide +kernel
theorem dX5_about_32 : decode cX5_about 32 = .ok (.ifCond .eq 6, 3) := by decide +kernel
theorem dX5_about_35 : decode cX5_about 35 = .ok (.bipush (-5), 2) := by decide +kernel
theorem dX5_about_37 : decode cX5_about 37 = .ok (.ireturn, 1) := by decide +kernel
theorem dX5_about_38 : decode cX5_about 38 = .ok (.iload_n 2, 1) := by decide +kernel
theorem dX5_about_39 : decode cX5_about 39 = .ok (.tableswitch 76 0 4 #[33, 48, 55, 62, 69], 33) := by decide +kernel
theorem dX5_about_72 : decode cX5_about 72 = .ok (.aload_n 0, 1) := by decide +kernel
theorem dX5_about_73 : decode cX5_about 73 = .ok (.getfield 17, 3) := by decide +kernel
theorem dX5_about_76 : decode cX5_about 76 = .ok (.iload_n 1, 1) := by decide +kernel
theorem dX5_about_77 : decode cX5_about 77 = .ok (.baload, 1) := by decide +kernel
theorem dX5_about_78 : decode cX5_about 78 = .ok (.ifCond .eq 7, 3) := by decide +kernel
theorem dX5_about_81 : decode cX5_about 81 = .ok (.iconst 1, 1) := by decide +kernel
theorem dX5_about_82 : decode cX5_about 82 = .ok (.goto 4, 3) := by decide +kernel
theorem dX5_about_85 : decode cX5_about 85 = .ok (.iconst 0, 1) := by decide +kernel
theorem dX5_about_86 : decode cX5_about 86 = .ok (.ireturn, 1) := by decide +kernel
theorem dX5_about_87 : decode cX5_about 87 = .ok (.aload_n 0, 1) := by decide +kernel
theorem dX5_about_88 : decode cX5_about 88 = .ok (.getfield 20, 3) := by decide +kernel
theorem dX5_about_91 : decode cX5_about 91 = .ok (.iload_n 1, 1) := by decide +kernel
theorem dX5_about_92 : decode cX5_about 92 = .ok (.iaload, 1) := by decide +kernel
theorem dX5_about_93 : decode cX5_about 93 = .ok (.ireturn, 1) := by decide +kernel
theorem dX5_about_94 : decode cX5_about 94 = .ok (.aload_n 0, 1) := by decide +kernel
theorem dX5_about_95 : decode cX5_about 95 = .ok (.getfield 38, 3) := by decide +kernel
theorem dX5_about_98 : decode cX5_about 98 = .ok (.iload_n 1, 1) := by decide +kernel
theorem dX5_about_99 : decode cX5_about 99 = .ok (.iaload, 1) := by decide +kernel
theorem dX5_about_100 : decode cX5_about 100 = .ok (.ireturn, 1) := by decide +kernel
theorem dX5_about_101 : decode cX5_about 101 = .ok (.aload_n 0, 1) := by decide +kernel
theorem dX5_about_102 : decode cX5_about 102 = .ok (.getfield 26, 3) := by decide +kernel
theorem dX5_about_105 : decode cX5_about 105 = .ok (.iload_n 1, 1) := by decide +kernel
theorem dX5_about_106 : decode cX5_about 106 = .ok (.iaload, 1) := by decide +kernel
theorem dX5_about_107 : decode cX5_about 107 = .ok (.ireturn, 1) := by decide +kernel
theorem dX5_about_108 : decode cX5_about 108 = .ok (.aload_n 0, 1) := by decide +kernel
theorem dX5_about_109 : decode cX5_about 109 = .ok (.getfield 32, 3) := by decide +kernel
theorem dX5_about_112 : decode cX5_about 112 = .ok (.iload_n 1, 1) := by decide +kernel
theorem dX5_about_113 : decode cX5_about 113 = .ok (.iaload, 1) := by decide +kernel
theorem dX5_about_114 : decode cX5_about 114 = .ok (.ireturn, 1) := by decide +kernel
theorem dX5_about_115 : decode cX5_about 115 = .ok (.iconst 0, 1) := by decide +kernel
theorem dX5_about_116 : decode cX5_about 116 = .ok (.istore_n 3, 1) := by decide +kernel
theorem dX5_about_117 : decode cX5_about 117 = .ok (.iload_n 1, 1) := by decide +kernel
theorem dX5_about_118 : decode cX5_about 118 = .ok (.istore 4, 2) := by decide +kernel
theorem dX5_about_120 : decode cX5_about 120 = .ok (.iload 4, 2) := by decide +kernel
theorem dX5_about_122 : decode cX5_about 122 = .ok (.ifCond .eq 18, 3) := by decide +kernel
theorem dX5_about_125 : decode cX5_about 125 = .ok (.iinc 3 1, 3) := by decide +kernel
theorem dX5_about_128 : decode cX5_about 128 = .ok (.aload_n 0, 1) := by decide +kernel
theorem dX5_about_129 : decode cX5_about 129 = .ok (.getfield 20, 3) := by decide +kernel
theorem dX5_about_132 : decode cX5_about 132 = .ok (.iload 4, 2) := by decide +kernel
theorem dX5_about_134 : decode cX5_about 134 = .ok (.iaload, 1) := by decide +kernel
theorem dX5_about_135 : decode cX5_about 135 = .ok (.istore 4, 2) := by decide +kernel
theorem dX5_about_137 : decode cX5_about 137 = .ok (.goto (-17), 3) := by decide +kernel
theorem dX5_about_140 : decode cX5_about 140 = .ok (.iload_n 3, 1) := by decide +kernel
theorem dX5_about_141 : decode cX5_about 141 = .ok (.ireturn, 1) := by decide +kernel
theorem dX5_entry_0 : decode cX5_entry 0 = .ok (.aload_n 0, 1) := by decide +kernel
theorem dX5_entry_1 : decode cX5_entry 1 = .ok (.iconst 0, 1) := by decide +kernel
theorem dX5_entry_2 : decode cX5_entry 2 = .ok (.putfield 56, 3) := by decide +kernel
theorem dX5_entry_5 : decode cX5_entry 5 = .ok (.aload_n 0, 1) := by decide +kernel
theorem dX5_entry_6 : decode cX5_entry 6 = .ok (.iload_n 1, 1) := by decide +kernel
theorem dX5_entry_7 : decode cX5_entry 7 = .ok (.invokevirtual 142, 3) := by decide +kernel
theorem dX5_entry_10 : decode cX5_entry 10 = .ok (.ifCond .eq 8, 3) := by decide +kernel
theorem dX5_entry_13 : decode cX5_entry 13 = .ok (.bipush (-5), 2) := by decide +kernel
theorem dX5_entry_15 : decode cX5_entry 15 = .ok (.goto 32, 3) := by decide +kernel
theorem dX5_entry_18 : decode cX5_entry 18 = .ok (.iload_n 2, 1) := by decide +kernel
theorem dX5_entry_19 : decode cX5_entry 19 = .ok (.ifCond .lt 13, 3) := by decide +kernel
theorem dX5_entry_22 : decode cX5_entry 22 = .ok (.iload_n 2, 1) := by decide +kernel
theorem dX5_entry_23 : decode cX5_entry 23 = .ok (.aload_n 0, 1) := by decide +kernel
theorem dX5_entry_24 : decode cX5_entry 24 = .ok (.getfield 38, 3) := by decide +kernel
theorem dX5_entry_27 : decode cX5_entry 27 = .ok (.iload_n 1, 1) := by decide +kernel
theorem dX5_entry_28 : decode cX5_entry 28 = .ok (.iaload, 1) := by decide +kernel
theorem dX5_entry_29 : decode cX5_entry 29 = .ok (.if_icmp .lt 7, 3) := by decide +kernel
theorem dX5_entry_32 : decode cX5_entry 32 = .ok (.iconst (-1), 1) := by decide +kernel
theorem dX5_entry_33 : decode cX5_entry 33 = .ok (.goto 14, 3) := by decide +kernel
theorem dX5_entry_36 : decode cX5_entry 36 = .ok (.aload_n 0, 1) := by decide +kernel
theorem dX5_entry_37 : decode cX5_entry 37 = .ok (.getfield 35, 3) := by decide +kernel
theorem dX5_entry_40 : decode cX5_entry 40 = .ok (.bipush 40, 2) := by decide +kernel
theorem dX5_entry_42 : decode cX5_entry 42 = .ok (.iload_n 1, 1) := by decide +kernel
theorem dX5_entry_43 : decode cX5_entry 43 = .ok (.imul, 1) := by decide +kernel
theorem dX5_entry_44 : decode cX5_entry 44 = .ok (.iload_n 2, 1) := by decide +kernel
theorem dX5_entry_45 : decode cX5_entry 45 = .ok (.iadd, 1) := by decide +kernel
theorem dX5_entry_46 : decode cX5_entry 46 = .ok (.iaload, 1) := by decide +kernel
theorem dX5_entry_47 : decode cX5_entry 47 = .ok (.ireturn, 1) := by decide +kernel
theorem dX5_isBefore_0 : decode cX5_isBefore 0 = .ok (.iconst 0, 1) := by decide +kernel
theorem dX5_isBefore_1 : decode cX5_isBefore 1 = .ok (.istore_n 3, 1) := by decide +kernel
theorem dX5_isBefore_2 : decode cX5_isBefore 2 = .ok (.iload_n 3, 1) := by decide +kernel
theorem dX5_isBefore_3 : decode cX5_isBefore 3 = .ok (.aload_n 0, 1) := by decide +kernel
theorem dX5_isBefore_4 : decode cX5_isBefore 4 = .ok (.getfield 32, 3) := by decide +kernel
theorem dX5_isBefore_7 : decode cX5_isBefore 7 = .ok (.iload_n 1, 1) := by decide +kernel
theorem dX5_isBefore_8 : decode cX5_isBefore 8 = .ok (.iaload, 1) := by decide +kernel
theorem dX5_isBefore_9 : decode cX5_isBefore 9 = .ok (.if_icmp .ge 65, 3) := by decide +kernel
theorem dX5_isBefore_12 : decode cX5_isBefore 12 = .ok (.iload_n 3, 1) := by decide +kernel
theorem dX5_isBefore_13 : decode cX5_isBefore 13 = .ok (.aload_n 0, 1) := by decide +kernel
theorem dX5_isBefore_14 : decode cX5_isBefore 14 = .ok (.getfield 32, 3) := by decide +kernel
theorem dX5_isBefore_17 : decode cX5_isBefore 17 = .ok (.iload_n 2, 1) := by decide +kernel
theorem dX5_isBefore_18 : decode cX5_isBefore 18 = .ok (.iaload, 1) := by decide +kernel
theorem dX5_isBefore_19 : decode cX5_isBefore 19 = .ok (.if_icmp .ge 55, 3) := by decide +kernel
theorem dX5_isBefore_22 : decode cX5_isBefore 22 = .ok (.aload_n 0, 1) := by decide +kernel
theorem dX5_isBefore_23 : decode cX5_isBefore 23 = .ok (.getfield 29, 3) := by decide +kernel
theorem dX5_isBefore_26 : decode cX5_isBefore 26 = .ok (.bipush 60, 2) := by decide +kernel
theorem dX5_isBefore_28 : decode cX5_isBefore 28 = .ok (.iload_n 1, 1) := by decide +kernel
theorem dX5_isBefore_29 : decode cX5_isBefore 29 = .ok (.imul, 1) := by decide +kernel
theorem dX5_isBefore_30 : decode cX5_isBefore 30 = .ok (.iload_n 3, 1) := by decide +kernel
theorem dX5_isBefore_31 : decode cX5_isBefore 31 = .ok (.iadd, 1) := by decide +kernel
theorem dX5_isBefore_32 : decode cX5_isBefore 32 = .ok (.iaload, 1) := by decide +kernel
theorem dX5_isBefore_33 : decode cX5_isBefore 33 = .ok (.istore 4, 2) := by decide +kernel
theorem dX5_isBefore_35 : decode cX5_isBefore 35 = .ok (.aload_n 0, 1) := by decide +kernel
theorem dX5_isBefore_36 : decode cX5_isBefore 36 = .ok (.getfield 29, 3) := by decide +kernel
theorem dX5_isBefore_39 : decode cX5_isBefore 39 = .ok (.bipush 60, 2) := by decide +kernel
theorem dX5_isBefore_41 : decode cX5_isBefore 41 = .ok (.iload_n 2, 1) := by decide +kernel
theorem dX5_isBefore_42 : decode cX5_isBefore 42 = .ok (.imul, 1) := by decide +kernel
theorem dX5_isBefore_43 : decode cX5_isBefore 43 = .ok (.iload_n 3, 1) := by decide +kernel
theorem dX5_isBefore_44 : decode cX5_isBefore 44 = .ok (.iadd, 1) := by decide +kernel
theorem dX5_isBefore_45 : decode cX5_isBefore 45 = .ok (.iaload, 1) := by decide +kernel
theorem dX5_isBefore_46 : decode cX5_isBefore 46 = .ok (.istore 5, 2) := by decide +kernel
theorem dX5_isBefore_48 : decode cX5_isBefore 48 = .ok (.iload 4, 2) := by decide +kernel
theorem dX5_isBefore_50 : decode cX5_isBefore 50 = .ok (.iload 5, 2) := by decide +kernel
theorem dX5_isBefore_52 : decode cX5_isBefore 52 = .ok (.if_icmp .eq 16, 3) := by decide +kernel
theorem dX5_isBefore_55 : decode cX5_isBefore 55 = .ok (.iload 4, 2) := by decide +kernel
theorem dX5_isBefore_57 : decode cX5_isBefore 57 = .ok (.iload 5, 2) := by decide +kernel
theorem dX5_isBefore_59 : decode cX5_isBefore 59 = .ok (.if_icmp .ge 7, 3) := by decide +kernel
theorem dX5_isBefore_62 : decode cX5_isBefore 62 = .ok (.iconst 1, 1) := by decide +kernel
theorem dX5_isBefore_63 : decode cX5_isBefore 63 = .ok (.goto 4, 3) := by decide +kernel
theorem dX5_isBefore_66 : decode cX5_isBefore 66 = .ok (.iconst 0, 1) := by decide +kernel
theorem dX5_isBefore_67 : decode cX5_isBefore 67 = .ok (.ireturn, 1) := by decide +kernel
theorem dX5_isBefore_68 : decode cX5_isBefore 68 = .ok (.iinc 3 1, 3) := by decide +kernel
theorem dX5_isBefore_71 : decode cX5_isBefore 71 = .ok (.goto (-69), 3) := by decide +kernel
theorem dX5_isBefore_74 : decode cX5_isBefore 74 = .ok (.aload_n 0, 1) := by decide +kernel
theorem dX5_isBefore_75 : decode cX5_isBefore 75 = .ok (.getfield 32, 3) := by decide +kernel
theorem dX5_isBefore_78 : decode cX5_isBefore 78 = .ok (.iload_n 1, 1) := by decide +kernel
theorem dX5_isBefore_79 : decode cX5_isBefore 79 = .ok (.iaload, 1) := by decide +kernel
theorem dX5_isBefore_80 : decode cX5_isBefore 80 = .ok (.aload_n 0, 1) := by decide +kernel
theorem dX5_isBefore_81 : decode cX5_isBefore 81 = .ok (.getfield 32, 3) := by decide +kernel
theorem dX5_isBefore_84 : decode cX5_isBefore 84 = .ok (.iload_n 2, 1) := by decide +kernel
theorem dX5_isBefore_85 : decode cX5_isBefore 85 = .ok (.iaload, 1) := by decide +kernel
theorem dX5_isBefore_86 : decode cX5_isBefore 86 = .ok (.if_icmp .ge 7, 3) := by decide +kernel
theorem dX5_isBefore_89 : decode cX5_isBefore 89 = .ok (.iconst 1, 1) := by decide +kernel
theorem dX5_isBefore_90 : decode cX5_isBefore 90 = .ok (.goto 4, 3) := by decide +kernel
theorem dX5_isBefore_93 : decode cX5_isBefore 93 = .ok (.iconst 0, 1) := by decide +kernel
theorem dX5_isBefore_94 : decode cX5_isBefore 94 = .ok (.ireturn, 1) := by decide +kernel
theorem dX5_sorted_0 : decode cX5_sorted 0 = .ok (.aload_n 0, 1) := by decide +kernel
theorem dX5_sorted_1 : decode cX5_sorted 1 = .ok (.iconst 0, 1) := by decide +kernel
theorem dX5_sorted_2 : decode cX5_sorted 2 = .ok (.putfield 56, 3) := by decide +kernel
theorem dX5_sorted_5 : decode cX5_sorted 5 = .ok (.aload_n 0, 1) := by decide +kernel
theorem dX5_sorted_6 : decode cX5_sorted 6 = .ok (.iload_n 1, 1) := by decide +kernel
theorem dX5_sorted_7 : decode cX5_sorted 7 = .ok (.invokevirtual 142, 3) := by decide +kernel
theorem dX5_sorted_10 : decode cX5_sorted 10 = .ok (.ifCond .eq 6, 3) := by decide +kernel
theorem dX5_sorted_13 : decode cX5_sorted 13 = .ok (.bipush (-5), 2) := by decide +kernel
theorem dX5_sorted_15 : decode cX5_sorted 15 = .ok (.ireturn, 1) := by decide +kernel
theorem dX5_sorted_16 : decode cX5_sorted 16 = .ok (.iconst 0, 1) := by decide +kernel
theorem dX5_sorted_17 : decode cX5_sorted 17 = .ok (.istore_n 3, 1) := by decide +kernel
theorem dX5_sorted_18 : decode cX5_sorted 18 = .ok (.iload_n 3, 1) := by decide +kernel
theorem dX5_sorted_19 : decode cX5_sorted 19 = .ok (.aload_n 0, 1) := by decide +kernel
theorem dX5_sorted_20 : decode cX5_sorted 20 = .ok (.getfield 38, 3) := by decide +kernel
theorem dX5_sorted_23 : decode cX5_sorted 23 = .ok (.iload_n 1, 1) := by decide +kernel
theorem dX5_sorted_24 : decode cX5_sorted 24 = .ok (.iaload, 1) := by decide +kernel
theorem dX5_sorted_25 : decode cX5_sorted 25 = .ok (.if_icmp .ge 85, 3) := by decide +kernel
theorem dX5_sorted_28 : decode cX5_sorted 28 = .ok (.aload_n 0, 1) := by decide +kernel
theorem dX5_sorted_29 : decode cX5_sorted 29 = .ok (.getfield 35, 3) := by decide +kernel
theorem dX5_sorted_32 : decode cX5_sorted 32 = .ok (.bipush 40, 2) := by decide +kernel
theorem dX5_sorted_34 : decode cX5_sorted 34 = .ok (.iload_n 1, 1) := by decide +kernel
theorem dX5_sorted_35 : decode cX5_sorted 35 = .ok (.imul, 1) := by decide +kernel
theorem dX5_sorted_36 : decode cX5_sorted 36 = .ok (.iload_n 3, 1) := by decide +kernel
theorem dX5_sorted_37 : decode cX5_sorted 37 = .ok (.iadd, 1) := by decide +kernel
theorem dX5_sorted_38 : decode cX5_sorted 38 = .ok (.iaload, 1) := by decide +kernel
theorem dX5_sorted_39 : decode cX5_sorted 39 = .ok (.istore 4, 2) := by decide +kernel
theorem dX5_sorted_41 : decode cX5_sorted 41 = .ok (.iconst 0, 1) := by decide +kernel
theorem dX5_sorted_42 : decode cX5_sorted 42 = .ok (.istore 5, 2) := by decide +kernel
theorem dX5_sorted_44 : decode cX5_sorted 44 = .ok (.iconst 0, 1) := by decide +kernel
theorem dX5_sorted_45 : decode cX5_sorted 45 = .ok (.istore 6, 2) := by decide +kernel
theorem dX5_sorted_47 : decode cX5_sorted 47 = .ok (.iload 6, 2) := by decide +kernel
theorem dX5_sorted_49 : decode cX5_sorted 49 = .ok (.aload_n 0, 1) := by decide +kernel
theorem dX5_sorted_50 : decode cX5_sorted 50 = .ok (.getfield 38, 3) := by decide +kernel
theorem dX5_sorted_53 : decode cX5_sorted 53 = .ok (.iload_n 1, 1) := by decide +kernel
theorem dX5_sorted_54 : decode cX5_sorted 54 = .ok (.iaload, 1) := by decide +kernel
theorem dX5_sorted_55 : decode cX5_sorted 55 = .ok (.if_icmp .ge 40, 3) := by decide +kernel
theorem dX5_sorted_58 : decode cX5_sorted 58 = .ok (.iload 5, 2) := by decide +kernel
theorem dX5_sorted_60 : decode cX5_sorted 60 = .ok (.aload_n 0, 1) := by decide +kernel
theorem dX5_sorted_61 : decode cX5_sorted 61 = .ok (.aload_n 0, 1) := by decide +kernel
theorem dX5_sorted_62 : decode cX5_sorted 62 = .ok (.getfield 35, 3) := by decide +kernel
theorem dX5_sorted_65 : decode cX5_sorted 65 = .ok (.bipush 40, 2) := by decide +kernel
theorem dX5_sorted_67 : decode cX5_sorted 67 = .ok (.iload_n 1, 1) := by decide +kernel
theorem dX5_sorted_68 : decode cX5_sorted 68 = .ok (.imul, 1) := by decide +kernel
theorem dX5_sorted_69 : decode cX5_sorted 69 = .ok (.iload 6, 2) := by decide +kernel
theorem dX5_sorted_71 : decode cX5_sorted 71 = .ok (.iadd, 1) := by decide +kernel
theorem dX5_sorted_72 : decode cX5_sorted 72 = .ok (.iaload, 1) := by decide +kernel
theorem dX5_sorted_73 : decode cX5_sorted 73 = .ok (.iload 4, 2) := by decide +kernel
theorem dX5_sorted_75 : decode cX5_sorted 75 = .ok (.invokevirtual 170, 3) := by decide +kernel
theorem dX5_sorted_78 : decode cX5_sorted 78 = .ok (.ifCond .eq 7, 3) := by decide +kernel
theorem dX5_sorted_81 : decode cX5_sorted 81 = .ok (.iconst 1, 1) := by decide +kernel
theorem dX5_sorted_82 : decode cX5_sorted 82 = .ok (.goto 4, 3) := by decide +kernel
theorem dX5_sorted_85 : decode cX5_sorted 85 = .ok (.iconst 0, 1) := by decide +kernel
theorem dX5_sorted_86 : decode cX5_sorted 86 = .ok (.iadd, 1) := by decide +kernel
theorem dX5_sorted_87 : decode cX5_sorted 87 = .ok (.istore 5, 2) := by decide +kernel
theorem dX5_sorted_89 : decode cX5_sorted 89 = .ok (.iinc 6 1, 3) := by decide +kernel
theorem dX5_sorted_92 : decode cX5_sorted 92 = .ok (.goto (-45), 3) := by decide +kernel
theorem dX5_sorted_95 : decode cX5_sorted 95 = .ok (.iload 5, 2) := by decide +kernel
theorem dX5_sorted_97 : decode cX5_sorted 97 = .ok (.iload_n 2, 1) := by decide +kernel
theorem dX5_sorted_98 : decode cX5_sorted 98 = .ok (.if_icmp .ne 6, 3) := by decide +kernel
theorem dX5_sorted_101 : decode cX5_sorted 101 = .ok (.iload 4, 2) := by decide +kernel
theorem dX5_sorted_103 : decode cX5_sorted 103 = .ok (.ireturn, 1) := by decide +kernel
theorem dX5_sorted_104 : decode cX5_sorted 104 = .ok (.iinc 3 1, 3) := by decide +kernel
theorem dX5_sorted_107 : decode cX5_sorted 107 = .ok (.goto (-89), 3) := by decide +kernel
theorem dX5_sorted_110 : decode cX5_sorted 110 = .ok (.iconst (-1), 1) := by decide +kernel
theorem dX5_sorted_111 : decode cX5_sorted 111 = .ok (.ireturn, 1) := by decide +kernel
theorem dX5_letter_0 : decode cX5_letter 0 = .ok (.aload_n 0, 1) := by decide +kernel
theorem dX5_letter_1 : decode cX5_letter 1 = .ok (.iload_n 2, 1) := by decide +kernel
theorem dX5_letter_2 : decode cX5_letter 2 = .ok (.ifCond .lt 8, 3) := by decide +kernel
theorem dX5_letter_5 : decode cX5_letter 5 = .ok (.iload_n 2, 1) := by decide +kernel
theorem dX5_letter_6 : decode cX5_letter 6 = .ok (.iconst 1, 1) := by decide +kernel
theorem dX5_letter_7 : decode cX5_letter 7 = .ok (.if_icmp .le 7, 3) := by decide +kernel
theorem dX5_letter_10 : decode cX5_letter 10 = .ok (.iconst 1, 1) := by decide +kernel
theorem dX5_letter_11 : decode cX5_letter 11 = .ok (.goto 4, 3) := by decide +kernel
theorem dX5_letter_14 : decode cX5_letter 14 = .ok (.iconst 0, 1) := by decide +kernel
theorem dX5_letter_15 : decode cX5_letter 15 = .ok (.putfield 56, 3) := by decide +kernel
theorem dX5_letter_18 : decode cX5_letter 18 = .ok (.aload_n 0, 1) := by decide +kernel
theorem dX5_letter_19 : decode cX5_letter 19 = .ok (.getfield 56, 3) := by decide +kernel
theorem dX5_letter_22 : decode cX5_letter 22 = .ok (.ifCond .le 5, 3) := by decide +kernel
theorem dX5_letter_25 : decode cX5_letter 25 = .ok (.iconst 0, 1) := by decide +kernel
theorem dX5_letter_26 : decode cX5_letter 26 = .ok (.ireturn, 1) := by decide +kernel
theorem dX5_letter_27 : decode cX5_letter 27 = .ok (.aload_n 0, 1) := by decide +kernel
theorem dX5_letter_28 : decode cX5_letter 28 = .ok (.iload_n 1, 1) := by decide +kernel
theorem dX5_letter_29 : decode cX5_letter 29 = .ok (.invokevirtual 138, 3) := by decide +kernel
theorem dX5_letter_32 : decode cX5_letter 32 = .ok (.ifCond .eq 6, 3) := by decide +kernel
theorem dX5_letter_35 : decode cX5_letter 35 = .ok (.bipush (-5), 2) := by decide +kernel
theorem dX5_letter_37 : decode cX5_letter 37 = .ok (.ireturn, 1) := by decide +kernel
theorem dX5_letter_38 : decode cX5_letter 38 = .ok (.iload_n 3, 1) := by decide +kernel
theorem dX5_letter_39 : decode cX5_letter 39 = .ok (.ifCond .lt 26, 3) := by decide +kernel
theorem dX5_letter_42 : decode cX5_letter 42 = .ok (.iload_n 3, 1) := by decide +kernel
theorem dX5_letter_43 : decode cX5_letter 43 = .ok (.iload_n 2, 1) := by decide +kernel
theorem dX5_letter_44 : decode cX5_letter 44 = .ok (.ifCond .ne 12, 3) := by decide +kernel
theorem dX5_letter_47 : decode cX5_letter 47 = .ok (.aload_n 0, 1) := by decide +kernel
theorem dX5_letter_48 : decode cX5_letter 48 = .ok (.getfield 26, 3) := by decide +kernel
theorem dX5_letter_51 : decode cX5_letter 51 = .ok (.iload_n 1, 1) := by decide +kernel
theorem dX5_letter_52 : decode cX5_letter 52 = .ok (.iaload, 1) := by decide +kernel
theorem dX5_letter_53 : decode cX5_letter 53 = .ok (.goto 9, 3) := by decide +kernel
theorem dX5_letter_56 : decode cX5_letter 56 = .ok (.aload_n 0, 1) := by decide +kernel
theorem dX5_letter_57 : decode cX5_letter 57 = .ok (.getfield 32, 3) := by decide +kernel
theorem dX5_letter_60 : decode cX5_letter 60 = .ok (.iload_n 1, 1) := by decide +kernel
theorem dX5_letter_61 : decode cX5_letter 61 = .ok (.iaload, 1) := by decide +kernel
theorem dX5_letter_62 : decode cX5_letter 62 = .ok (.if_icmp .lt 5, 3) := by decide +kernel
theorem dX5_letter_65 : decode cX5_letter 65 = .ok (.iconst (-1), 1) := by decide +kernel
theorem dX5_letter_66 : decode cX5_letter 66 = .ok (.ireturn, 1) := by decide +kernel
theorem dX5_letter_67 : decode cX5_letter 67 = .ok (.iload_n 2, 1) := by decide +kernel
theorem dX5_letter_68 : decode cX5_letter 68 = .ok (.ifCond .ne 17, 3) := by decide +kernel
theorem dX5_letter_71 : decode cX5_letter 71 = .ok (.aload_n 0, 1) := by decide +kernel
theorem dX5_letter_72 : decode cX5_letter 72 = .ok (.getfield 23, 3) := by decide +kernel
theorem dX5_letter_75 : decode cX5_letter 75 = .ok (.bipush 60, 2) := by decide +kernel
theorem dX5_letter_77 : decode cX5_letter 77 = .ok (.iload_n 1, 1) := by decide +kernel
theorem dX5_letter_78 : decode cX5_letter 78 = .ok (.imul, 1) := by decide +kernel
theorem dX5_letter_79 : decode cX5_letter 79 = .ok (.iload_n 3, 1) := by decide +kernel
theorem dX5_letter_80 : decode cX5_letter 80 = .ok (.iadd, 1) := by decide +kernel
theorem dX5_letter_81 : decode cX5_letter 81 = .ok (.iaload, 1) := by decide +kernel
theorem dX5_letter_82 : decode cX5_letter 82 = .ok (.goto 14, 3) := by decide +kernel
theorem dX5_letter_85 : decode cX5_letter 85 = .ok (.aload_n 0, 1) := by decide +kernel
theorem dX5_letter_86 : decode cX5_letter 86 = .ok (.getfield 29, 3) := by decide +kernel
theorem dX5_letter_89 : decode cX5_letter 89 = .ok (.bipush 60, 2) := by decide +kernel
theorem dX5_letter_91 : decode cX5_letter 91 = .ok (.iload_n 1, 1) := by decide +kernel
theorem dX5_letter_92 : decode cX5_letter 92 = .ok (.imul, 1) := by decide +kernel
theorem dX5_letter_93 : decode cX5_letter 93 = .ok (.iload_n 3, 1) := by decide +kernel
theorem dX5_letter_94 : decode cX5_letter 94 = .ok (.iadd, 1) := by decide +kernel
theorem dX5_letter_95 : decode cX5_letter 95 = .ok (.iaload, 1) := by decide +kernel
theorem dX5_letter_96 : decode cX5_letter 96 = .ok (.ireturn, 1) := by decide +kernel
theorem dX5_nodes_0 : decode cX5_nodes 0 = .ok (.aload_n 0, 1) := by decide +kernel
theorem dX5_nodes_1 : decode cX5_nodes 1 = .ok (.iconst 0, 1) := by decide +kernel
theorem dX5_nodes_2 : decode cX5_nodes 2 = .ok (.putfield 56, 3) := by decide +kernel
theorem dX5_nodes_5 : decode cX5_nodes 5 = .ok (.iconst 0, 1) := by decide +kernel
theorem dX5_nodes_6 : decode cX5_nodes 6 = .ok (.istore_n 1, 1) := by decide +kernel
theorem dX5_nodes_7 : decode cX5_nodes 7 = .ok (.iconst 0, 1) := by decide +kernel
theorem dX5_nodes_8 : decode cX5_nodes 8 = .ok (.istore_n 2, 1) := by decide +kernel
theorem dX5_nodes_9 : decode cX5_nodes 9 = .ok (.iload_n 2, 1) := by decide +kernel
theorem dX5_nodes_10 : decode cX5_nodes 10 = .ok (.sipush 200, 3) := by decide +kernel
theorem dX5_nodes_13 : decode cX5_nodes 13 = .ok (.if_icmp .ge 26, 3) := by decide +kernel
theorem dX5_nodes_16 : decode cX5_nodes 16 = .ok (.iload_n 1, 1) := by decide +kernel
theorem dX5_nodes_17 : decode cX5_nodes 17 = .ok (.aload_n 0, 1) := by decide +kernel
theorem dX5_nodes_18 : decode cX5_nodes 18 = .ok (.getfield 13, 3) := by decide +kernel
theorem dX5_nodes_21 : decode cX5_nodes 21 = .ok (.iload_n 2, 1) := by decide +kernel
theorem dX5_nodes_22 : decode cX5_nodes 22 = .ok (.baload, 1) := by decide +kernel
theorem dX5_nodes_23 : decode cX5_nodes 23 = .ok (.ifCond .eq 7, 3) := by decide +kernel
theorem dX5_nodes_26 : decode cX5_nodes 26 = .ok (.iconst 1, 1) := by decide +kernel
theorem dX5_nodes_27 : decode cX5_nodes 27 = .ok (.goto 4, 3) := by decide +kernel
theorem dX5_nodes_30 : decode cX5_nodes 30 = .ok (.iconst 0, 1) := by decide +kernel
theorem dX5_nodes_31 : decode cX5_nodes 31 = .ok (.iadd, 1) := by decide +kernel
theorem dX5_nodes_32 : decode cX5_nodes 32 = .ok (.istore_n 1, 1) := by decide +kernel
theorem dX5_nodes_33 : decode cX5_nodes 33 = .ok (.iinc 2 1, 3) := by decide +kernel
theorem dX5_nodes_36 : decode cX5_nodes 36 = .ok (.goto (-27), 3) := by decide +kernel
theorem dX5_nodes_39 : decode cX5_nodes 39 = .ok (.iload_n 1, 1) := by decide +kernel
theorem dX5_nodes_40 : decode cX5_nodes 40 = .ok (.ireturn, 1) := by decide +kernel
