theorem dX7_freeIn_5 : decode cX7_freeIn 5 = .ok (.aload_n 0, 1) := by decide +kernel
theorem dX7_freeIn_6 : decode cX7_freeIn 6 = .ok (.getfield 42, 3) := by decide +kernel
theorem dX7_freeIn_9 : decode cX7_freeIn 9 = .ok (.if_icmp .ge 24, 3) := by decide +kernel
theorem dX7_freeIn_12 : decode cX7_freeIn 12 = .ok (.aload_n 0, 1) := by decide +kernel
theorem dX7_freeIn_13 : decode cX7_freeIn 13 = .ok (.iload_n 3, 1) := by decide +kernel
theorem dX7_freeIn_14 : decode cX7_freeIn 14 = .ok (.iload_n 1, 1) := by decide +kernel
theorem dX7_freeIn_15 : decode cX7_freeIn 15 = .ok (.invokevirtual 64, 3) := by decide +kernel
theorem dX7_freeIn_18 : decode cX7_freeIn 18 = .ok (.ifCond .eq 9, 3) := by decide +kernel
theorem dX7_freeIn_21 : decode cX7_freeIn 21 = .ok (.iload_n 2, 1) := by decide +kernel
theorem dX7_freeIn_22 : decode cX7_freeIn 22 = .ok (.iconst 1, 1) := by decide +kernel
theorem dX7_freeIn_23 : decode cX7_freeIn 23 = .ok (.iload_n 3, 1) := by decide +kernel
theorem dX7_freeIn_24 : decode cX7_freeIn 24 = .ok (.ishl, 1) := by decide +kernel
theorem dX7_freeIn_25 : decode cX7_freeIn 25 = .ok (.ior, 1) := by decide +kernel
theorem dX7_freeIn_26 : decode cX7_freeIn 26 = .ok (.istore_n 2, 1) := by decide +kernel
theorem dX7_freeIn_27 : decode cX7_freeIn 27 = .ok (.iinc 3 1, 3) := by decide +kernel
theorem dX7_freeIn_30 : decode cX7_freeIn 30 = .ok (.goto (-26), 3) := by decide +kernel
theorem dX7_freeIn_33 : decode cX7_freeIn 33 = .ok (.iload_n 2, 1) := by decide +kernel
theorem dX7_freeIn_34 : decode cX7_freeIn 34 = .ok (.ireturn, 1) := by decide +kernel
theorem dX7_ownedBy_0 : decode cX7_ownedBy 0 = .ok (.iconst 0, 1) := by decide +kernel
theorem dX7_ownedBy_1 : decode cX7_ownedBy 1 = .ok (.istore_n 2, 1) := by decide +kernel
theorem dX7_ownedBy_2 : decode cX7_ownedBy 2 = .ok (.iconst 0, 1) := by decide +kernel
theorem dX7_ownedBy_3 : decode cX7_ownedBy 3 = .ok (.istore_n 3, 1) := by decide +kernel
theorem dX7_ownedBy_4 : decode cX7_ownedBy 4 = .ok (.iload_n 3, 1) := by decide +kernel
theorem dX7_ownedBy_5 : decode cX7_ownedBy 5 = .ok (.aload_n 0, 1) := by decide +kernel
theorem dX7_ownedBy_6 : decode cX7_ownedBy 6 = .ok (.getfield 42, 3) := by decide +kernel
theorem dX7_ownedBy_9 : decode cX7_ownedBy 9 = .ok (.if_icmp .ge 25, 3) := by decide +kernel
theorem dX7_ownedBy_12 : decode cX7_ownedBy 12 = .ok (.aload_n 0, 1) := by decide +kernel
theorem dX7_ownedBy_13 : decode cX7_ownedBy 13 = .ok (.getfield 15, 3) := by decide +kernel
theorem dX7_ownedBy_16 : decode cX7_ownedBy 16 = .ok (.iload_n 3, 1) := by decide +kernel
theorem dX7_ownedBy_17 : decode cX7_ownedBy 17 = .ok (.iaload, 1) := by decide +kernel
theorem dX7_ownedBy_18 : decode cX7_ownedBy 18 = .ok (.iload_n 1, 1) := by decide +kernel
theorem dX7_ownedBy_19 : decode cX7_ownedBy 19 = .ok (.if_icmp .ne 9, 3) := by decide +kernel
theorem dX7_ownedBy_22 : decode cX7_ownedBy 22 = .ok (.iload_n 2, 1) := by decide +kernel
theorem dX7_ownedBy_23 : decode cX7_ownedBy 23 = .ok (.iconst 1, 1) := by decide +kernel
theorem dX7_ownedBy_24 : decode cX7_ownedBy 24 = .ok (.iload_n 3, 1) := by decide +kernel
theorem dX7_ownedBy_25 : decode cX7_ownedBy 25 = .ok (.ishl, 1) := by decide +kernel
theorem dX7_ownedBy_26 : decode cX7_ownedBy 26 = .ok (.ior, 1) := by decide +kernel
theorem dX7_ownedBy_27 : decode cX7_ownedBy 27 = .ok (.istore_n 2, 1) := by decide +kernel
theorem dX7_ownedBy_28 : decode cX7_ownedBy 28 = .ok (.iinc 3 1, 3) := by decide +kernel
theorem dX7_ownedBy_31 : decode cX7_ownedBy 31 = .ok (.goto (-27), 3) := by decide +kernel
theorem dX7_ownedBy_34 : decode cX7_ownedBy 34 = .ok (.iload_n 2, 1) := by decide +kernel
theorem dX7_ownedBy_35 : decode cX7_ownedBy 35 = .ok (.ireturn, 1) := by decide +kernel
theorem dX8_init_0 : decode cX8_init 0 = .ok (.aload_n 0, 1) := by decide +kernel
theorem dX8_init_1 : decode cX8_init 1 = .ok (.invokespecial 1, 3) := by decide +kernel
theorem dX8_init_4 : decode cX8_init 4 = .ok (.aload_n 0, 1) := by decide +kernel
theorem dX8_init_5 : decode cX8_init 5 = .ok (.new 7, 3) := by decide +kernel
theorem dX8_init_8 : decode cX8_init 8 = .ok (.dup, 1) := by decide +kernel
theorem dX8_init_9 : decode cX8_init 9 = .ok (.invokespecial 9, 3) := by decide +kernel
theorem dX8_init_12 : decode cX8_init 12 = .ok (.putfield 10, 3) := by decide +kernel
theorem dX8_init_15 : decode cX8_init 15 = .ok (.aload_n 0, 1) := by decide +kernel
theorem dX8_init_16 : decode cX8_init 16 = .ok (.new 16, 3) := by decide +kernel
theorem dX8_init_19 : decode cX8_init 19 = .ok (.dup, 1) := by decide +kernel
theorem dX8_init_20 : decode cX8_init 20 = .ok (.invokespecial 18, 3) := by decide +kernel
theorem dX8_init_23 : decode cX8_init 23 = .ok (.putfield 19, 3) := by decide +kernel
theorem dX8_init_26 : decode cX8_init 26 = .ok (.aload_n 0, 1) := by decide +kernel
theorem dX8_init_27 : decode cX8_init 27 = .ok (.new 16, 3) := by decide +kernel
theorem dX8_init_30 : decode cX8_init 30 = .ok (.dup, 1) := by decide +kernel
theorem dX8_init_31 : decode cX8_init 31 = .ok (.invokespecial 18, 3) := by decide +kernel
theorem dX8_init_34 : decode cX8_init 34 = .ok (.putfield 23, 3) := by decide +kernel
theorem dX8_init_37 : decode cX8_init 37 = .ok (.aload_n 0, 1) := by decide +kernel
theorem dX8_init_38 : decode cX8_init 38 = .ok (.new 26, 3) := by decide +kernel
theorem dX8_init_41 : decode cX8_init 41 = .ok (.dup, 1) := by decide +kernel
theorem dX8_init_42 : decode cX8_init 42 = .ok (.aload_n 0, 1) := by decide +kernel
theorem dX8_init_43 : decode cX8_init 43 = .ok (.getfield 10, 3) := by decide +kernel
theorem dX8_init_46 : decode cX8_init 46 = .ok (.aload_n 0, 1) := by decide +kernel
theorem dX8_init_47 : decode cX8_init 47 = .ok (.getfield 23, 3) := by decide +kernel
theorem dX8_init_50 : decode cX8_init 50 = .ok (.invokespecial 28, 3) := by decide +kernel
theorem dX8_init_53 : decode cX8_init 53 = .ok (.putfield 31, 3) := by decide +kernel
theorem dX8_init_56 : decode cX8_init 56 = .ok (.aload_n 0, 1) := by decide +kernel
theorem dX8_init_57 : decode cX8_init 57 = .ok (.new 35, 3) := by decide +kernel
theorem dX8_init_60 : decode cX8_init 60 = .ok (.dup, 1) := by decide +kernel
theorem dX8_init_61 : decode cX8_init 61 = .ok (.invokespecial 37, 3) := by decide +kernel
theorem dX8_init_64 : decode cX8_init 64 = .ok (.putfield 38, 3) := by decide +kernel
theorem dX8_init_67 : decode cX8_init 67 = .ok (.aload_n 0, 1) := by decide +kernel
theorem dX8_init_68 : decode cX8_init 68 = .ok (.new 35, 3) := by decide +kernel
theorem dX8_init_71 : decode cX8_init 71 = .ok (.dup, 1) := by decide +kernel
theorem dX8_init_72 : decode cX8_init 72 = .ok (.invokespecial 37, 3) := by decide +kernel
theorem dX8_init_75 : decode cX8_init 75 = .ok (.putfield 42, 3) := by decide +kernel
theorem dX8_init_78 : decode cX8_init 78 = .ok (.aload_n 0, 1) := by decide +kernel
theorem dX8_init_79 : decode cX8_init 79 = .ok (.new 35, 3) := by decide +kernel
theorem dX8_init_82 : decode cX8_init 82 = .ok (.dup, 1) := by decide +kernel
theorem dX8_init_83 : decode cX8_init 83 = .ok (.invokespecial 37, 3) := by decide +kernel
theorem dX8_init_86 : decode cX8_init 86 = .ok (.putfield 45, 3) := by decide +kernel
theorem dX8_init_89 : decode cX8_init 89 = .ok (.aload_n 0, 1) := by decide +kernel
theorem dX8_init_90 : decode cX8_init 90 = .ok (.iconst 2, 1) := by decide +kernel
theorem dX8_init_91 : decode cX8_init 91 = .ok (.newarray .boolean, 2) := by decide +kernel
theorem dX8_init_93 : decode cX8_init 93 = .ok (.putfield 48, 3) := by decide +kernel
theorem dX8_init_96 : decode cX8_init 96 = .ok (.aload_n 0, 1) := by decide +kernel
theorem dX8_init_97 : decode cX8_init 97 = .ok (.new 52, 3) := by decide +kernel
theorem dX8_init_100 : decode cX8_init 100 = .ok (.dup, 1) := by decide +kernel
theorem dX8_init_101 : decode cX8_init 101 = .ok (.aload_n 0, 1) := by decide +kernel
theorem dX8_init_102 : decode cX8_init 102 = .ok (.getfield 19, 3) := by decide +kernel
theorem dX8_init_105 : decode cX8_init 105 = .ok (.aload_n 0, 1) := by decide +kernel
theorem dX8_init_106 : decode cX8_init 106 = .ok (.getfield 38, 3) := by decide +kernel
theorem dX8_init_109 : decode cX8_init 109 = .ok (.invokespecial 54, 3) := by decide +kernel
theorem dX8_init_112 : decode cX8_init 112 = .ok (.putfield 57, 3) := by decide +kernel
theorem dX8_init_115 : decode cX8_init 115 = .ok (.aload_n 0, 1) := by decide +kernel
theorem dX8_init_116 : decode cX8_init 116 = .ok (.new 61, 3) := by decide +kernel
theorem dX8_init_119 : decode cX8_init 119 = .ok (.dup, 1) := by decide +kernel
theorem dX8_init_120 : decode cX8_init 120 = .ok (.aload_n 0, 1) := by decide +kernel
theorem dX8_init_121 : decode cX8_init 121 = .ok (.getfield 19, 3) := by decide +kernel
theorem dX8_init_124 : decode cX8_init 124 = .ok (.aload_n 0, 1) := by decide +kernel
theorem dX8_init_125 : decode cX8_init 125 = .ok (.getfield 57, 3) := by decide +kernel
theorem dX8_init_128 : decode cX8_init 128 = .ok (.invokespecial 63, 3) := by decide +kernel
theorem dX8_init_131 : decode cX8_init 131 = .ok (.putfield 66, 3) := by decide +kernel
theorem dX8_init_134 : decode cX8_init 134 = .ok (.aload_n 0, 1) := by decide +kernel
theorem dX8_init_135 : decode cX8_init 135 = .ok (.new 70, 3) := by decide +kernel
theorem dX8_init_138 : decode cX8_init 138 = .ok (.dup, 1) := by decide +kernel
theorem dX8_init_139 : decode cX8_init 139 = .ok (.aload_n 0, 1) := by decide +kernel
theorem dX8_init_140 : decode cX8_init 140 = .ok (.getfield 19, 3) := by decide +kernel
theorem dX8_init_143 : decode cX8_init 143 = .ok (.aload_n 0, 1) := by decide +kernel
theorem dX8_init_144 : decode cX8_init 144 = .ok (.getfield 57, 3) := by decide +kernel
theorem dX8_init_147 : decode cX8_init 147 = .ok (.invokespecial 72, 3) := by decide +kernel
theorem dX8_init_150 : decode cX8_init 150 = .ok (.putfield 73, 3) := by decide +kernel
theorem dX8_init_153 : decode cX8_init 153 = .ok (.aload_n 0, 1) := by decide +kernel
theorem dX8_init_154 : decode cX8_init 154 = .ok (.new 77, 3) := by decide +kernel
theorem dX8_init_157 : decode cX8_init 157 = .ok (.dup, 1) := by decide +kernel
theorem dX8_init_158 : decode cX8_init 158 = .ok (.aload_n 0, 1) := by decide +kernel
theorem dX8_init_159 : decode cX8_init 159 = .ok (.getfield 19, 3) := by decide +kernel
theorem dX8_init_162 : decode cX8_init 162 = .ok (.invokespecial 79, 3) := by decide +kernel
theorem dX8_init_165 : decode cX8_init 165 = .ok (.putfield 82, 3) := by decide +kernel
theorem dX8_init_168 : decode cX8_init 168 = .ok (.aload_n 0, 1) := by decide +kernel
theorem dX8_init_169 : decode cX8_init 169 = .ok (.bipush 10, 2) := by decide +kernel
theorem dX8_init_171 : decode cX8_init 171 = .ok (.newarray .int, 2) := by decide +kernel
theorem dX8_init_173 : decode cX8_init 173 = .ok (.putfield 86, 3) := by decide +kernel
theorem dX8_init_176 : decode cX8_init 176 = .ok (.aload_n 0, 1) := by decide +kernel
theorem dX8_init_177 : decode cX8_init 177 = .ok (.iconst (-1), 1) := by decide +kernel
theorem dX8_init_178 : decode cX8_init 178 = .ok (.putfield 90, 3) := by decide +kernel
theorem dX8_init_181 : decode cX8_init 181 = .ok (.return_, 1) := by decide +kernel
theorem dX8_feed_0 : decode cX8_feed 0 = .ok (.iload_n 1, 1) := by decide +kernel
theorem dX8_feed_1 : decode cX8_feed 1 = .ok (.iconst 1, 1) := by decide +kernel
theorem dX8_feed_2 : decode cX8_feed 2 = .ok (.if_icmp .lt 9, 3) := by decide +kernel
theorem dX8_feed_5 : decode cX8_feed 5 = .ok (.iload_n 1, 1) := by decide +kernel
theorem dX8_feed_6 : decode cX8_feed 6 = .ok (.bipush 8, 2) := by decide +kernel
theorem dX8_feed_8 : decode cX8_feed 8 = .ok (.if_icmp .le 6, 3) := by decide +kernel
theorem dX8_feed_11 : decode cX8_feed 11 = .ok (.ldc 94, 2) := by decide +kernel
theorem dX8_feed_13 : decode cX8_feed 13 = .ok (.ireturn, 1) := by decide +kernel
theorem dX8_feed_14 : decode cX8_feed 14 = .ok (.aload_n 0, 1) := by decide +kernel
theorem dX8_feed_15 : decode cX8_feed 15 = .ok (.getfield 10, 3) := by decide +kernel
theorem dX8_feed_18 : decode cX8_feed 18 = .ok (.getfield 95, 3) := by decide +kernel
theorem dX8_feed_21 : decode cX8_feed 21 = .ok (.iload_n 1, 1) := by decide +kernel
theorem dX8_feed_22 : decode cX8_feed 22 = .ok (.iadd, 1) := by decide +kernel
theorem dX8_feed_23 : decode cX8_feed 23 = .ok (.sipush 400, 3) := by decide +kernel
theorem dX8_feed_26 : decode cX8_feed 26 = .ok (.if_icmp .le 6, 3) := by decide +kernel
theorem dX8_feed_29 : decode cX8_feed 29 = .ok (.ldc 98, 2) := by decide +kernel
theorem dX8_feed_31 : decode cX8_feed 31 = .ok (.ireturn, 1) := by decide +kernel
theorem dX8_feed_32 : decode cX8_feed 32 = .ok (.iload_n 1, 1) := by decide +kernel
theorem dX8_feed_33 : decode cX8_feed 33 = .ok (.iconst 1, 1) := by decide +kernel
theorem dX8_feed_34 : decode cX8_feed 34 = .ok (.isub, 1) := by decide +kernel
theorem dX8_feed_35 : decode cX8_feed 35 = .ok (.istore 4, 2) := by decide +kernel
theorem dX8_feed_37 : decode cX8_feed 37 = .ok (.iload 4, 2) := by decide +kernel
theorem dX8_feed_39 : decode cX8_feed 39 = .ok (.ifCond .lt 28, 3) := by decide +kernel
theorem dX8_feed_42 : decode cX8_feed 42 = .ok (.aload_n 0, 1) := by decide +kernel
theorem dX8_feed_43 : decode cX8_feed 43 = .ok (.getfield 10, 3) := by decide +kernel
theorem dX8_feed_46 : decode cX8_feed 46 = .ok (.lload_n 2, 1) := by decide +kernel
theorem dX8_feed_47 : decode cX8_feed 47 = .ok (.bipush 8, 2) := by decide +kernel
theorem dX8_feed_49 : decode cX8_feed 49 = .ok (.iload 4, 2) := by decide +kernel
theorem dX8_feed_51 : decode cX8_feed 51 = .ok (.imul, 1) := by decide +kernel
theorem dX8_feed_52 : decode cX8_feed 52 = .ok (.lushr, 1) := by decide +kernel
theorem dX8_feed_53 : decode cX8_feed 53 = .ok (.l2i, 1) := by decide +kernel
theorem dX8_feed_54 : decode cX8_feed 54 = .ok (.sipush 255, 3) := by decide +kernel
theorem dX8_feed_57 : decode cX8_feed 57 = .ok (.iand, 1) := by decide +kernel
theorem dX8_feed_58 : decode cX8_feed 58 = .ok (.invokevirtual 99, 3) := by decide +kernel
theorem dX8_feed_61 : decode cX8_feed 61 = .ok (.iinc 4 (-1), 3) := by decide +kernel
theorem dX8_feed_64 : decode cX8_feed 64 = .ok (.goto (-27), 3) := by decide +kernel
theorem dX8_feed_67 : decode cX8_feed 67 = .ok (.aload_n 0, 1) := by decide +kernel
theorem dX8_feed_68 : decode cX8_feed 68 = .ok (.getfield 10, 3) := by decide +kernel
theorem dX8_feed_71 : decode cX8_feed 71 = .ok (.getfield 95, 3) := by decide +kernel
theorem dX8_feed_74 : decode cX8_feed 74 = .ok (.ireturn, 1) := by decide +kernel
theorem dX8_town_0 : decode cX8_town 0 = .ok (.aload_n 0, 1) := by decide +kernel
theorem dX8_town_1 : decode cX8_town 1 = .ok (.getfield 31, 3) := by decide +kernel
theorem dX8_town_4 : decode cX8_town 4 = .ok (.invokevirtual 103, 3) := by decide +kernel
theorem dX8_town_7 : decode cX8_town 7 = .ok (.istore_n 1, 1) := by decide +kernel
theorem dX8_town_8 : decode cX8_town 8 = .ok (.aload_n 0, 1) := by decide +kernel
theorem dX8_town_9 : decode cX8_town 9 = .ok (.aload_n 0, 1) := by decide +kernel
theorem dX8_town_10 : decode cX8_town 10 = .ok (.getfield 31, 3) := by decide +kernel
theorem dX8_town_13 : decode cX8_town 13 = .ok (.getfield 107, 3) := by decide +kernel
theorem dX8_town_16 : decode cX8_town 16 = .ok (.putfield 90, 3) := by decide +kernel
theorem dX8_town_19 : decode cX8_town 19 = .ok (.aload_n 0, 1) := by decide +kernel
theorem dX8_town_20 : decode cX8_town 20 = .ok (.getfield 10, 3) := by decide +kernel
theorem dX8_town_23 : decode cX8_town 23 = .ok (.iconst 0, 1) := by decide +kernel
theorem dX8_town_24 : decode cX8_town 24 = .ok (.putfield 95, 3) := by decide +kernel
theorem dX8_town_27 : decode cX8_town 27 = .ok (.iload_n 1, 1) := by decide +kernel
theorem dX8_town_28 : decode cX8_town 28 = .ok (.ifCond .eq 8, 3) := by decide +kernel
theorem dX8_town_31 : decode cX8_town 31 = .ok (.bipush (-10), 2) := by decide +kernel
theorem dX8_town_33 : decode cX8_town 33 = .ok (.iload_n 1, 1) := by decide +kernel
theorem dX8_town_34 : decode cX8_town 34 = .ok (.isub, 1) := by decide +kernel
theorem dX8_town_35 : decode cX8_town 35 = .ok (.ireturn, 1) := by decide +kernel
theorem dX8_town_36 : decode cX8_town 36 = .ok (.aload_n 0, 1) := by decide +kernel
theorem dX8_town_37 : decode cX8_town 37 = .ok (.getfield 19, 3) := by decide +kernel
theorem dX8_town_40 : decode cX8_town 40 = .ok (.aload_n 0, 1) := by decide +kernel
theorem dX8_town_41 : decode cX8_town 41 = .ok (.getfield 23, 3) := by decide +kernel
theorem dX8_town_44 : decode cX8_town 44 = .ok (.invokevirtual 110, 3) := by decide +kernel
theorem dX8_town_47 : decode cX8_town 47 = .ok (.aload_n 0, 1) := by decide +kernel
theorem dX8_town_48 : decode cX8_town 48 = .ok (.getfield 38, 3) := by decide +kernel
theorem dX8_town_51 : decode cX8_town 51 = .ok (.aload_n 0, 1) := by decide +kernel
theorem dX8_town_52 : decode cX8_town 52 = .ok (.getfield 19, 3) := by decide +kernel
theorem dX8_town_55 : decode cX8_town 55 = .ok (.invokevirtual 113, 3) := by decide +kernel
theorem dX8_town_58 : decode cX8_town 58 = .ok (.aload_n 0, 1) := by decide +kernel
theorem dX8_town_59 : decode cX8_town 59 = .ok (.getfield 57, 3) := by decide +kernel
theorem dX8_town_62 : decode cX8_town 62 = .ok (.invokevirtual 116, 3) := by decide +kernel
theorem dX8_town_65 : decode cX8_town 65 = .ok (.aload_n 0, 1) := by decide +kernel
theorem dX8_town_66 : decode cX8_town 66 = .ok (.getfield 73, 3) := by decide +kernel
theorem dX8_town_69 : decode cX8_town 69 = .ok (.iconst 0, 1) := by decide +kernel
theorem dX8_town_70 : decode cX8_town 70 = .ok (.putfield 119, 3) := by decide +kernel
theorem dX8_town_73 : decode cX8_town 73 = .ok (.aload_n 0, 1) := by decide +kernel
theorem dX8_town_74 : decode cX8_town 74 = .ok (.getfield 82, 3) := by decide +kernel
theorem dX8_town_77 : decode cX8_town 77 = .ok (.iconst 0, 1) := by decide +kernel
theorem dX8_town_78 : decode cX8_town 78 = .ok (.putfield 122, 3) := by decide +kernel
theorem dX8_town_81 : decode cX8_town 81 = .ok (.aload_n 0, 1) := by decide +kernel
theorem dX8_town_82 : decode cX8_town 82 = .ok (.getfield 48, 3) := by decide +kernel
theorem dX8_town_85 : decode cX8_town 85 = .ok (.iconst 0, 1) := by decide +kernel
theorem dX8_town_86 : decode cX8_town 86 = .ok (.iconst 0, 1) := by decide +kernel
theorem dX8_town_87 : decode cX8_town 87 = .ok (.bastore, 1) := by decide +kernel
theorem dX8_town_88 : decode cX8_town 88 = .ok (.aload_n 0, 1) := by decide +kernel
theorem dX8_town_89 : decode cX8_town 89 = .ok (.getfield 48, 3) := by decide +kernel
theorem dX8_town_92 : decode cX8_town 92 = .ok (.iconst 1, 1) := by decide +kernel
theorem dX8_town_93 : decode cX8_town 93 = .ok (.iconst 0, 1) := by decide +kernel
theorem dX8_town_94 : decode cX8_town 94 = .ok (.bastore, 1) := by decide +kernel
theorem dX8_town_95 : decode cX8_town 95 = .ok (.aload_n 0, 1) := by decide +kernel
theorem dX8_town_96 : decode cX8_town 96 = .ok (.getfield 19, 3) := by decide +kernel
theorem dX8_town_99 : decode cX8_town 99 = .ok (.getfield 123, 3) := by decide +kernel
theorem dX8_town_102 : decode cX8_town 102 = .ok (.ireturn, 1) := by decide +kernel
theorem dX8_fault_0 : decode cX8_fault 0 = .ok (.aload_n 0, 1) := by decide +kernel
theorem dX8_fault_1 : decode cX8_fault 1 = .ok (.getfield 90, 3) := by decide +kernel
theorem dX8_fault_4 : decode cX8_fault 4 = .ok (.ireturn, 1) := by decide +kernel
theorem dX8_told_0 : decode cX8_told 0 = .ok (.iload_n 1, 1) := by decide +kernel
theorem dX8_told_1 : decode cX8_told 1 = .ok (.tableswitch 149 0 10 #[59, 67, 75, 83, 91, 99, 107, 115, 123, 131, 139], 59) := by decide +kernel
theorem dX8_told_60 : decode cX8_told 60 = .ok (.aload_n 0, 1) := by decide +kernel
theorem dX8_told_61 : decode cX8_told 61 = .ok (.getfield 19, 3) := by decide +kernel
theorem dX8_told_64 : decode cX8_told 64 = .ok (.getfield 123, 3) := by decide +kernel
theorem dX8_told_67 : decode cX8_told 67 = .ok (.ireturn, 1) := by decide +kernel
theorem dX8_told_68 : decode cX8_told 68 = .ok (.aload_n 0, 1) := by decide +kernel
theorem dX8_told_69 : decode cX8_told 69 = .ok (.getfield 19, 3) := by decide +kernel
theorem dX8_told_72 : decode cX8_told 72 = .ok (.getfield 126, 3) := by decide +kernel
theorem dX8_told_75 : decode cX8_told 75 = .ok (.ireturn, 1) := by decide +kernel
theorem dX8_told_76 : decode cX8_told 76 = .ok (.aload_n 0, 1) := by decide +kernel
theorem dX8_told_77 : decode cX8_told 77 = .ok (.getfield 19, 3) := by decide +kernel
theorem dX8_told_80 : decode cX8_told 80 = .ok (.getfield 129, 3) := by decide +kernel
theorem dX8_told_83 : decode cX8_told 83 = .ok (.ireturn, 1) := by decide +kernel
theorem dX8_told_84 : decode cX8_told 84 = .ok (.aload_n 0, 1) := by decide +kernel
theorem dX8_told_85 : decode cX8_told 85 = .ok (.getfield 10, 3) := by decide +kernel
theorem dX8_told_88 : decode cX8_told 88 = .ok (.getfield 95, 3) := by decide +kernel
theorem dX8_told_91 : decode cX8_told 91 = .ok (.ireturn, 1) := by decide +kernel
theorem dX8_told_92 : decode cX8_told 92 = .ok (.aload_n 0, 1) := by decide +kernel
theorem dX8_told_93 : decode cX8_told 93 = .ok (.getfield 38, 3) := by decide +kernel
theorem dX8_told_96 : decode cX8_told 96 = .ok (.getfield 132, 3) := by decide +kernel
theorem dX8_told_99 : decode cX8_told 99 = .ok (.ireturn, 1) := by decide +kernel
theorem dX8_told_100 : decode cX8_told 100 = .ok (.aload_n 0, 1) := by decide +kernel
theorem dX8_told_101 : decode cX8_told 101 = .ok (.getfield 38, 3) := by decide +kernel
theorem dX8_told_104 : decode cX8_told 104 = .ok (.getfield 135, 3) := by decide +kernel
theorem dX8_told_107 : decode cX8_told 107 = .ok (.ireturn, 1) := by decide +kernel
theorem dX8_told_108 : decode cX8_told 108 = .ok (.aload_n 0, 1) := by decide +kernel
theorem dX8_told_109 : decode cX8_told 109 = .ok (.getfield 38, 3) := by decide +kernel
theorem dX8_told_112 : decode cX8_told 112 = .ok (.getfield 138, 3) := by decide +kernel
theorem dX8_told_115 : decode cX8_told 115 = .ok (.ireturn, 1) := by decide +kernel
theorem dX8_told_116 : decode cX8_told 116 = .ok (.aload_n 0, 1) := by decide +kernel
theorem dX8_told_117 : decode cX8_told 117 = .ok (.getfield 73, 3) := by decide +kernel
theorem dX8_told_120 : decode cX8_told 120 = .ok (.getfield 119, 3) := by decide +kernel
theorem dX8_told_123 : decode cX8_told 123 = .ok (.ireturn, 1) := by decide +kernel
theorem dX8_told_124 : decode cX8_told 124 = .ok (.aload_n 0, 1) := by decide +kernel
theorem dX8_told_125 : decode cX8_told 125 = .ok (.getfield 82, 3) := by decide +kernel
theorem dX8_told_128 : decode cX8_told 128 = .ok (.getfield 122, 3) := by decide +kernel
theorem dX8_told_131 : decode cX8_told 131 = .ok (.ireturn, 1) := by decide +kernel
theorem dX8_told_132 : decode cX8_told 132 = .ok (.aload_n 0, 1) := by decide +kernel
theorem dX8_told_133 : decode cX8_told 133 = .ok (.getfield 57, 3) := by decide +kernel
theorem dX8_told_136 : decode cX8_told 136 = .ok (.getfield 141, 3) := by decide +kernel
theorem dX8_told_139 : decode cX8_told 139 = .ok (.ireturn, 1) := by decide +kernel
theorem dX8_told_140 : decode cX8_told 140 = .ok (.aload_n 0, 1) := by decide +kernel
theorem dX8_told_141 : decode cX8_told 141 = .ok (.getfield 57, 3) := by decide +kernel
theorem dX8_told_144 : decode cX8_told 144 = .ok (.iconst (-1), 1) := by decide +kernel
theorem dX8_told_145 : decode cX8_told 145 = .ok (.iconst 0, 1) := by decide +kernel
theorem dX8_told_146 : decode cX8_told 146 = .ok (.invokevirtual 142, 3) := by decide +kernel
theorem dX8_told_149 : decode cX8_told 149 = .ok (.ireturn, 1) := by decide +kernel
theorem dX8_told_150 : decode cX8_told 150 = .ok (.ldc 94, 2) := by decide +kernel
theorem dX8_told_152 : decode cX8_told 152 = .ok (.ireturn, 1) := by decide +kernel
theorem dX8_part_0 : decode cX8_part 0 = .ok (.aload_n 0, 1) := by decide +kernel
theorem dX8_part_1 : decode cX8_part 1 = .ok (.getfield 19, 3) := by decide +kernel
theorem dX8_part_4 : decode cX8_part 4 = .ok (.iload_n 1, 1) := by decide +kernel
theorem dX8_part_5 : decode cX8_part 5 = .ok (.invokevirtual 146, 3) := by decide +kernel
theorem dX8_part_8 : decode cX8_part 8 = .ok (.ifCond .ne 6, 3) := by decide +kernel
theorem dX8_part_11 : decode cX8_part 11 = .ok (.ldc 150, 2) := by decide +kernel
theorem dX8_part_13 : decode cX8_part 13 = .ok (.ireturn, 1) := by decide +kernel
theorem dX8_part_14 : decode cX8_part 14 = .ok (.iload_n 2, 1) := by decide +kernel
theorem dX8_part_15 : decode cX8_part 15 = .ok (.tableswitch 125 0 7 #[45, 55, 65, 75, 85, 95, 105, 115], 45) := by decide +kernel
theorem dX8_part_60 : decode cX8_part 60 = .ok (.aload_n 0, 1) := by decide +kernel
theorem dX8_part_61 : decode cX8_part 61 = .ok (.getfield 19, 3) := by decide +kernel
theorem dX8_part_64 : decode cX8_part 64 = .ok (.getfield 151, 3) := by decide +kernel
theorem dX8_part_67 : decode cX8_part 67 = .ok (.iload_n 1, 1) := by decide +kernel
theorem dX8_part_68 : decode cX8_part 68 = .ok (.iaload, 1) := by decide +kernel
theorem dX8_part_69 : decode cX8_part 69 = .ok (.ireturn, 1) := by decide +kernel
theorem dX8_part_70 : decode cX8_part 70 = .ok (.aload_n 0, 1) := by decide +kernel
theorem dX8_part_71 : decode cX8_part 71 = .ok (.getfield 19, 3) := by decide +kernel
theorem dX8_part_74 : decode cX8_part 74 = .ok (.getfield 154, 3) := by decide +kernel
theorem dX8_part_77 : decode cX8_part 77 = .ok (.iload_n 1, 1) := by decide +kernel
theorem dX8_part_78 : decode cX8_part 78 = .ok (.iaload, 1) := by decide +kernel
theorem dX8_part_79 : decode cX8_part 79 = .ok (.ireturn, 1) := by decide +kernel
theorem dX8_part_80 : decode cX8_part 80 = .ok (.aload_n 0, 1) := by decide +kernel
theorem dX8_part_81 : decode cX8_part 81 = .ok (.getfield 38, 3) := by decide +kernel
theorem dX8_part_84 : decode cX8_part 84 = .ok (.getfield 157, 3) := by decide +kernel
theorem dX8_part_87 : decode cX8_part 87 = .ok (.iload_n 1, 1) := by decide +kernel
theorem dX8_part_88 : decode cX8_part 88 = .ok (.iaload, 1) := by decide +kernel
theorem dX8_part_89 : decode cX8_part 89 = .ok (.ireturn, 1) := by decide +kernel
theorem dX8_part_90 : decode cX8_part 90 = .ok (.aload_n 0, 1) := by decide +kernel
theorem dX8_part_91 : decode cX8_part 91 = .ok (.getfield 38, 3) := by decide +kernel
theorem dX8_part_94 : decode cX8_part 94 = .ok (.getfield 160, 3) := by decide +kernel
theorem dX8_part_97 : decode cX8_part 97 = .ok (.iload_n 1, 1) := by decide +kernel
theorem dX8_part_98 : decode cX8_part 98 = .ok (.iaload, 1) := by decide +kernel
theorem dX8_part_99 : decode cX8_part 99 = .ok (.ireturn, 1) := by decide +kernel
theorem dX8_part_100 : decode cX8_part 100 = .ok (.aload_n 0, 1) := by decide +kernel
theorem dX8_part_101 : decode cX8_part 101 = .ok (.getfield 19, 3) := by decide +kernel
theorem dX8_part_104 : decode cX8_part 104 = .ok (.getfield 163, 3) := by decide +kernel
theorem dX8_part_107 : decode cX8_part 107 = .ok (.iload_n 1, 1) := by decide +kernel
theorem dX8_part_108 : decode cX8_part 108 = .ok (.iaload, 1) := by decide +kernel
theorem dX8_part_109 : decode cX8_part 109 = .ok (.ireturn, 1) := by decide +kernel
theorem dX8_part_110 : decode cX8_part 110 = .ok (.aload_n 0, 1) := by decide +kernel
theorem dX8_part_111 : decode cX8_part 111 = .ok (.getfield 19, 3) := by decide +kernel
theorem dX8_part_114 : decode cX8_part 114 = .ok (.getfield 166, 3) := by decide +kernel
theorem dX8_part_117 : decode cX8_part 117 = .ok (.iload_n 1, 1) := by decide +kernel
theorem dX8_part_118 : decode cX8_part 118 = .ok (.iaload, 1) := by decide +kernel
theorem dX8_part_119 : decode cX8_part 119 = .ok (.ireturn, 1) := by decide +kernel
theorem dX8_part_120 : decode cX8_part 120 = .ok (.aload_n 0, 1) := by decide +kernel
theorem dX8_part_121 : decode cX8_part 121 = .ok (.getfield 19, 3) := by decide +kernel
theorem dX8_part_124 : decode cX8_part 124 = .ok (.getfield 169, 3) := by decide +kernel
theorem dX8_part_127 : decode cX8_part 127 = .ok (.iload_n 1, 1) := by decide +kernel
theorem dX8_part_128 : decode cX8_part 128 = .ok (.iaload, 1) := by decide +kernel
theorem dX8_part_129 : decode cX8_part 129 = .ok (.ireturn, 1) := by decide +kernel
theorem dX8_part_130 : decode cX8_part 130 = .ok (.aload_n 0, 1) := by decide +kernel
theorem dX8_part_131 : decode cX8_part 131 = .ok (.getfield 38, 3) := by decide +kernel
theorem dX8_part_134 : decode cX8_part 134 = .ok (.getfield 172, 3) := by decide +kernel
theorem dX8_part_137 : decode cX8_part 137 = .ok (.iload_n 1, 1) := by decide +kernel
theorem dX8_part_138 : decode cX8_part 138 = .ok (.iaload, 1) := by decide +kernel
theorem dX8_part_139 : decode cX8_part 139 = .ok (.ireturn, 1) := by decide +kernel
theorem dX8_part_140 : decode cX8_part 140 = .ok (.ldc 94, 2) := by decide +kernel
theorem dX8_part_142 : decode cX8_part 142 = .ok (.ireturn, 1) := by decide +kernel
theorem dX8_scene_0 : decode cX8_scene 0 = .ok (.aload_n 0, 1) := by decide +kernel
theorem dX8_scene_1 : decode cX8_scene 1 = .ok (.getfield 19, 3) := by decide +kernel
theorem dX8_scene_4 : decode cX8_scene 4 = .ok (.iload_n 1, 1) := by decide +kernel
theorem dX8_scene_5 : decode cX8_scene 5 = .ok (.invokevirtual 175, 3) := by decide +kernel
theorem dX8_scene_8 : decode cX8_scene 8 = .ok (.ifCond .ne 6, 3) := by decide +kernel
theorem dX8_scene_11 : decode cX8_scene 11 = .ok (.ldc 150, 2) := by decide +kernel
theorem dX8_scene_13 : decode cX8_scene 13 = .ok (.ireturn, 1) := by decide +kernel
theorem dX8_scene_14 : decode cX8_scene 14 = .ok (.iload_n 2, 1) := by decide +kernel
theorem dX8_scene_15 : decode cX8_scene 15 = .ok (.tableswitch 55 0 2 #[25, 35, 45], 25) := by decide +kernel
theorem dX8_scene_40 : decode cX8_scene 40 = .ok (.aload_n 0, 1) := by decide +kernel
theorem dX8_scene_41 : decode cX8_scene 41 = .ok (.getfield 19, 3) := by decide +kernel
theorem dX8_scene_44 : decode cX8_scene 44 = .ok (.getfield 178, 3) := by decide +kernel
theorem dX8_scene_47 : decode cX8_scene 47 = .ok (.iload_n 1, 1) := by decide +kernel
theorem dX8_scene_48 : decode cX8_scene 48 = .ok (.iaload, 1) := by decide +kernel
theorem dX8_scene_49 : decode cX8_scene 49 = .ok (.ireturn, 1) := by decide +kernel
theorem dX8_scene_50 : decode cX8_scene 50 = .ok (.aload_n 0, 1) := by decide +kernel
theorem dX8_scene_51 : decode cX8_scene 51 = .ok (.getfield 19, 3) := by decide +kernel
theorem dX8_scene_54 : decode cX8_scene 54 = .ok (.getfield 181, 3) := by decide +kernel
theorem dX8_scene_57 : decode cX8_scene 57 = .ok (.iload_n 1, 1) := by decide +kernel
theorem dX8_scene_58 : decode cX8_scene 58 = .ok (.iaload, 1) := by decide +kernel
theorem dX8_scene_59 : decode cX8_scene 59 = .ok (.ireturn, 1) := by decide +kernel
theorem dX8_scene_60 : decode cX8_scene 60 = .ok (.aload_n 0, 1) := by decide +kernel
theorem dX8_scene_61 : decode cX8_scene 61 = .ok (.getfield 19, 3) := by decide +kernel
theorem dX8_scene_64 : decode cX8_scene 64 = .ok (.getfield 184, 3) := by decide +kernel
theorem dX8_scene_67 : decode cX8_scene 67 = .ok (.iload_n 1, 1) := by decide +kernel
theorem dX8_scene_68 : decode cX8_scene 68 = .ok (.iaload, 1) := by decide +kernel
theorem dX8_scene_69 : decode cX8_scene 69 = .ok (.ireturn, 1) := by decide +kernel
theorem dX8_scene_70 : decode cX8_scene 70 = .ok (.ldc 94, 2) := by decide +kernel
theorem dX8_scene_72 : decode cX8_scene 72 = .ok (.ireturn, 1) := by decide +kernel
theorem dX8_look_0 : decode cX8_look 0 = .ok (.iload_n 2, 1) := by decide +kernel
theorem dX8_look_1 : decode cX8_look 1 = .ok (.ifCond .lt 8, 3) := by decide +kernel
theorem dX8_look_4 : decode cX8_look 4 = .ok (.iload_n 2, 1) := by decide +kernel
theorem dX8_look_5 : decode cX8_look 5 = .ok (.iconst 2, 1) := by decide +kernel
theorem dX8_look_6 : decode cX8_look 6 = .ok (.if_icmp .le 6, 3) := by decide +kernel
theorem dX8_look_9 : decode cX8_look 9 = .ok (.ldc 94, 2) := by decide +kernel
theorem dX8_look_11 : decode cX8_look 11 = .ok (.ireturn, 1) := by decide +kernel
theorem dX8_look_12 : decode cX8_look 12 = .ok (.iload_n 1, 1) := by decide +kernel
theorem dX8_look_13 : decode cX8_look 13 = .ok (.ifCond .lt 14, 3) := by decide +kernel
theorem dX8_look_16 : decode cX8_look 16 = .ok (.iload_n 1, 1) := by decide +kernel
theorem dX8_look_17 : decode cX8_look 17 = .ok (.aload_n 0, 1) := by decide +kernel
theorem dX8_look_18 : decode cX8_look 18 = .ok (.getfield 57, 3) := by decide +kernel
theorem dX8_look_21 : decode cX8_look 21 = .ok (.getfield 141, 3) := by decide +kernel
theorem dX8_look_24 : decode cX8_look 24 = .ok (.if_icmp .lt 5, 3) := by decide +kernel
theorem dX8_look_27 : decode cX8_look 27 = .ok (.iconst (-1), 1) := by decide +kernel
theorem dX8_look_28 : decode cX8_look 28 = .ok (.ireturn, 1) := by decide +kernel
theorem dX8_look_29 : decode cX8_look 29 = .ok (.iload_n 2, 1) := by decide +kernel
theorem dX8_look_30 : decode cX8_look 30 = .ok (.ifCond .ne 14, 3) := by decide +kernel
theorem dX8_look_33 : decode cX8_look 33 = .ok (.aload_n 0, 1) := by decide +kernel
theorem dX8_look_34 : decode cX8_look 34 = .ok (.getfield 57, 3) := by decide +kernel
theorem dX8_look_37 : decode cX8_look 37 = .ok (.iload_n 1, 1) := by decide +kernel
theorem dX8_look_38 : decode cX8_look 38 = .ok (.invokevirtual 187, 3) := by decide +kernel
theorem dX8_look_41 : decode cX8_look 41 = .ok (.goto 27, 3) := by decide +kernel
theorem dX8_look_44 : decode cX8_look 44 = .ok (.iload_n 2, 1) := by decide +kernel
theorem dX8_look_45 : decode cX8_look 45 = .ok (.iconst 1, 1) := by decide +kernel
theorem dX8_look_46 : decode cX8_look 46 = .ok (.if_icmp .ne 14, 3) := by decide +kernel
theorem dX8_look_49 : decode cX8_look 49 = .ok (.aload_n 0, 1) := by decide +kernel
theorem dX8_look_50 : decode cX8_look 50 = .ok (.getfield 57, 3) := by decide +kernel
theorem dX8_look_53 : decode cX8_look 53 = .ok (.iload_n 1, 1) := by decide +kernel
theorem dX8_look_54 : decode cX8_look 54 = .ok (.invokevirtual 191, 3) := by decide +kernel
theorem dX8_look_57 : decode cX8_look 57 = .ok (.goto 11, 3) := by decide +kernel
theorem dX8_look_60 : decode cX8_look 60 = .ok (.aload_n 0, 1) := by decide +kernel
theorem dX8_look_61 : decode cX8_look 61 = .ok (.getfield 57, 3) := by decide +kernel
theorem dX8_look_64 : decode cX8_look 64 = .ok (.iload_n 1, 1) := by decide +kernel
theorem dX8_look_65 : decode cX8_look 65 = .ok (.invokevirtual 194, 3) := by decide +kernel
theorem dX8_look_68 : decode cX8_look 68 = .ok (.ireturn, 1) := by decide +kernel
theorem dX8_law_0 : decode cX8_law 0 = .ok (.iload_n 1, 1) := by decide +kernel
theorem dX8_law_1 : decode cX8_law 1 = .ok (.ifCond .lt 8, 3) := by decide +kernel
theorem dX8_law_4 : decode cX8_law 4 = .ok (.iload_n 1, 1) := by decide +kernel
theorem dX8_law_5 : decode cX8_law 5 = .ok (.iconst 1, 1) := by decide +kernel
theorem dX8_law_6 : decode cX8_law 6 = .ok (.if_icmp .le 6, 3) := by decide +kernel
theorem dX8_law_9 : decode cX8_law 9 = .ok (.ldc 94, 2) := by decide +kernel
theorem dX8_law_11 : decode cX8_law 11 = .ok (.ireturn, 1) := by decide +kernel
theorem dX8_law_12 : decode cX8_law 12 = .ok (.aload_n 0, 1) := by decide +kernel
theorem dX8_law_13 : decode cX8_law 13 = .ok (.getfield 38, 3) := by decide +kernel
theorem dX8_law_16 : decode cX8_law 16 = .ok (.getfield 132, 3) := by decide +kernel
theorem dX8_law_19 : decode cX8_law 19 = .ok (.istore_n 2, 1) := by decide +kernel
theorem dX8_law_20 : decode cX8_law 20 = .ok (.aload_n 0, 1) := by decide +kernel
theorem dX8_law_21 : decode cX8_law 21 = .ok (.getfield 38, 3) := by decide +kernel
theorem dX8_law_24 : decode cX8_law 24 = .ok (.iload_n 1, 1) := by decide +kernel
theorem dX8_law_25 : decode cX8_law 25 = .ok (.putfield 132, 3) := by decide +kernel
theorem dX8_law_28 : decode cX8_law 28 = .ok (.iload_n 2, 1) := by decide +kernel
theorem dX8_law_29 : decode cX8_law 29 = .ok (.ireturn, 1) := by decide +kernel
theorem dX8_price_0 : decode cX8_price 0 = .ok (.aload_n 0, 1) := by decide +kernel
theorem dX8_price_1 : decode cX8_price 1 = .ok (.getfield 19, 3) := by decide +kernel
theorem dX8_price_4 : decode cX8_price 4 = .ok (.iload_n 1, 1) := by decide +kernel
theorem dX8_price_5 : decode cX8_price 5 = .ok (.invokevirtual 146, 3) := by decide +kernel
theorem dX8_price_8 : decode cX8_price 8 = .ok (.ifCond .ne 6, 3) := by decide +kernel
theorem dX8_price_11 : decode cX8_price 11 = .ok (.ldc 150, 2) := by decide +kernel
theorem dX8_price_13 : decode cX8_price 13 = .ok (.ireturn, 1) := by decide +kernel
theorem dX8_price_14 : decode cX8_price 14 = .ok (.iload_n 2, 1) := by decide +kernel
theorem dX8_price_15 : decode cX8_price 15 = .ok (.ifCond .lt 9, 3) := by decide +kernel
theorem dX8_price_18 : decode cX8_price 18 = .ok (.iload_n 2, 1) := by decide +kernel
theorem dX8_price_19 : decode cX8_price 19 = .ok (.bipush 99, 2) := by decide +kernel
theorem dX8_price_21 : decode cX8_price 21 = .ok (.if_icmp .le 6, 3) := by decide +kernel
theorem dX8_price_24 : decode cX8_price 24 = .ok (.ldc 94, 2) := by decide +kernel
theorem dX8_price_26 : decode cX8_price 26 = .ok (.ireturn, 1) := by decide +kernel
theorem dX8_price_27 : decode cX8_price 27 = .ok (.aload_n 0, 1) := by decide +kernel
theorem dX8_price_28 : decode cX8_price 28 = .ok (.getfield 38, 3) := by decide +kernel
theorem dX8_price_31 : decode cX8_price 31 = .ok (.getfield 160, 3) := by decide +kernel
theorem dX8_price_34 : decode cX8_price 34 = .ok (.iload_n 1, 1) := by decide +kernel
theorem dX8_price_35 : decode cX8_price 35 = .ok (.iaload, 1) := by decide +kernel
theorem dX8_price_36 : decode cX8_price 36 = .ok (.istore_n 3, 1) := by decide +kernel
theorem dX8_price_37 : decode cX8_price 37 = .ok (.aload_n 0, 1) := by decide +kernel
theorem dX8_price_38 : decode cX8_price 38 = .ok (.getfield 38, 3) := by decide +kernel
theorem dX8_price_41 : decode cX8_price 41 = .ok (.getfield 160, 3) := by decide +kernel
theorem dX8_price_44 : decode cX8_price 44 = .ok (.iload_n 1, 1) := by decide +kernel
theorem dX8_price_45 : decode cX8_price 45 = .ok (.iload_n 2, 1) := by decide +kernel
theorem dX8_price_46 : decode cX8_price 46 = .ok (.iastore, 1) := by decide +kernel
theorem dX8_price_47 : decode cX8_price 47 = .ok (.iload_n 3, 1) := by decide +kernel
theorem dX8_price_48 : decode cX8_price 48 = .ok (.ireturn, 1) := by decide +kernel
theorem dX8_width_0 : decode cX8_width 0 = .ok (.aload_n 0, 1) := by decide +kernel
theorem dX8_width_1 : decode cX8_width 1 = .ok (.getfield 19, 3) := by decide +kernel
theorem dX8_width_4 : decode cX8_width 4 = .ok (.iload_n 1, 1) := by decide +kernel
theorem dX8_width_5 : decode cX8_width 5 = .ok (.invokevirtual 146, 3) := by decide +kernel
theorem dX8_width_8 : decode cX8_width 8 = .ok (.ifCond .ne 6, 3) := by decide +kernel
theorem dX8_width_11 : decode cX8_width 11 = .ok (.ldc 150, 2) := by decide +kernel
theorem dX8_width_13 : decode cX8_width 13 = .ok (.ireturn, 1) := by decide +kernel
theorem dX8_width_14 : decode cX8_width 14 = .ok (.iload_n 2, 1) := by decide +kernel
theorem dX8_width_15 : decode cX8_width 15 = .ok (.ifCond .lt 9, 3) := by decide +kernel
theorem dX8_width_18 : decode cX8_width 18 = .ok (.iload_n 2, 1) := by decide +kernel
theorem dX8_width_19 : decode cX8_width 19 = .ok (.bipush 9, 2) := by decide +kernel
theorem dX8_width_21 : decode cX8_width 21 = .ok (.if_icmp .le 6, 3) := by decide +kernel
theorem dX8_width_24 : decode cX8_width 24 = .ok (.ldc 94, 2) := by decide +kernel
theorem dX8_width_26 : decode cX8_width 26 = .ok (.ireturn, 1) := by decide +kernel
theorem dX8_width_27 : decode cX8_width 27 = .ok (.aload_n 0, 1) := by decide +kernel
theorem dX8_width_28 : decode cX8_width 28 = .ok (.getfield 38, 3) := by decide +kernel
theorem dX8_width_31 : decode cX8_width 31 = .ok (.getfield 157, 3) := by decide +kernel
theorem dX8_width_34 : decode cX8_width 34 = .ok (.iload_n 1, 1) := by decide +kernel
theorem dX8_width_35 : decode cX8_width 35 = .ok (.iaload, 1) := by decide +kernel
theorem dX8_width_36 : decode cX8_width 36 = .ok (.istore_n 3, 1) := by decide +kernel
theorem dX8_width_37 : decode cX8_width 37 = .ok (.aload_n 0, 1) := by decide +kernel
theorem dX8_width_38 : decode cX8_width 38 = .ok (.getfield 38, 3) := by decide +kernel
theorem dX8_width_41 : decode cX8_width 41 = .ok (.getfield 157, 3) := by decide +kernel
theorem dX8_width_44 : decode cX8_width 44 = .ok (.iload_n 1, 1) := by decide +kernel
theorem dX8_width_45 : decode cX8_width 45 = .ok (.iload_n 2, 1) := by decide +kernel
theorem dX8_width_46 : decode cX8_width 46 = .ok (.iastore, 1) := by decide +kernel
theorem dX8_width_47 : decode cX8_width 47 = .ok (.iload_n 3, 1) := by decide +kernel
theorem dX8_width_48 : decode cX8_width 48 = .ok (.ireturn, 1) := by decide +kernel
theorem dX8_cheapest_0 : decode cX8_cheapest 0 = .ok (.aload_n 0, 1) := by decide +kernel
theorem dX8_cheapest_1 : decode cX8_cheapest 1 = .ok (.getfield 19, 3) := by decide +kernel
theorem dX8_cheapest_4 : decode cX8_cheapest 4 = .ok (.iload_n 1, 1) := by decide +kernel
theorem dX8_cheapest_5 : decode cX8_cheapest 5 = .ok (.invokevirtual 175, 3) := by decide +kernel
theorem dX8_cheapest_8 : decode cX8_cheapest 8 = .ok (.ifCond .ne 6, 3) := by decide +kernel
theorem dX8_cheapest_11 : decode cX8_cheapest 11 = .ok (.ldc 150, 2) := by decide +kernel
theorem dX8_cheapest_13 : decode cX8_cheapest 13 = .ok (.ireturn, 1) := by decide +kernel
theorem dX8_cheapest_14 : decode cX8_cheapest 14 = .ok (.iload_n 2, 1) := by decide +kernel
theorem dX8_cheapest_15 : decode cX8_cheapest 15 = .ok (.ifCond .lt 8, 3) := by decide +kernel
theorem dX8_cheapest_18 : decode cX8_cheapest 18 = .ok (.iload_n 2, 1) := by decide +kernel
theorem dX8_cheapest_19 : decode cX8_cheapest 19 = .ok (.iconst 1, 1) := by decide +kernel
theorem dX8_cheapest_20 : decode cX8_cheapest 20 = .ok (.if_icmp .le 6, 3) := by decide +kernel
theorem dX8_cheapest_23 : decode cX8_cheapest 23 = .ok (.ldc 94, 2) := by decide +kernel
theorem dX8_cheapest_25 : decode cX8_cheapest 25 = .ok (.ireturn, 1) := by decide +kernel
theorem dX8_cheapest_26 : decode cX8_cheapest 26 = .ok (.aload_n 0, 1) := by decide +kernel
theorem dX8_cheapest_27 : decode cX8_cheapest 27 = .ok (.getfield 57, 3) := by decide +kernel
theorem dX8_cheapest_30 : decode cX8_cheapest 30 = .ok (.iload_n 1, 1) := by decide +kernel
theorem dX8_cheapest_31 : decode cX8_cheapest 31 = .ok (.invokevirtual 197, 3) := by decide +kernel
theorem dX8_cheapest_34 : decode cX8_cheapest 34 = .ok (.istore_n 3, 1) := by decide +kernel
theorem dX8_cheapest_35 : decode cX8_cheapest 35 = .ok (.iload_n 3, 1) := by decide +kernel
theorem dX8_cheapest_36 : decode cX8_cheapest 36 = .ok (.iconst (-1), 1) := by decide +kernel
theorem dX8_cheapest_37 : decode cX8_cheapest 37 = .ok (.if_icmp .ne 5, 3) := by decide +kernel
theorem dX8_cheapest_40 : decode cX8_cheapest 40 = .ok (.iconst (-1), 1) := by decide +kernel
theorem dX8_cheapest_41 : decode cX8_cheapest 41 = .ok (.ireturn, 1) := by decide +kernel
theorem dX8_cheapest_42 : decode cX8_cheapest 42 = .ok (.iload_n 2, 1) := by decide +kernel
theorem dX8_cheapest_43 : decode cX8_cheapest 43 = .ok (.ifCond .ne 14, 3) := by decide +kernel
theorem dX8_cheapest_46 : decode cX8_cheapest 46 = .ok (.aload_n 0, 1) := by decide +kernel
theorem dX8_cheapest_47 : decode cX8_cheapest 47 = .ok (.getfield 57, 3) := by decide +kernel
theorem dX8_cheapest_50 : decode cX8_cheapest 50 = .ok (.iload_n 3, 1) := by decide +kernel
theorem dX8_cheapest_51 : decode cX8_cheapest 51 = .ok (.invokevirtual 187, 3) := by decide +kernel
theorem dX8_cheapest_54 : decode cX8_cheapest 54 = .ok (.goto 11, 3) := by decide +kernel
theorem dX8_cheapest_57 : decode cX8_cheapest 57 = .ok (.aload_n 0, 1) := by decide +kernel
theorem dX8_cheapest_58 : decode cX8_cheapest 58 = .ok (.getfield 57, 3) := by decide +kernel
theorem dX8_cheapest_61 : decode cX8_cheapest 61 = .ok (.iload_n 3, 1) := by decide +kernel
theorem dX8_cheapest_62 : decode cX8_cheapest 62 = .ok (.invokevirtual 194, 3) := by decide +kernel
theorem dX8_cheapest_65 : decode cX8_cheapest 65 = .ok (.ireturn, 1) := by decide +kernel
theorem dX8_dressing_0 : decode cX8_dressing 0 = .ok (.iload_n 1, 1) := by decide +kernel
theorem dX8_dressing_1 : decode cX8_dressing 1 = .ok (.iconst (-1), 1) := by decide +kernel
theorem dX8_dressing_2 : decode cX8_dressing 2 = .ok (.if_icmp .eq 17, 3) := by decide +kernel
theorem dX8_dressing_5 : decode cX8_dressing 5 = .ok (.aload_n 0, 1) := by decide +kernel
theorem dX8_dressing_6 : decode cX8_dressing 6 = .ok (.getfield 19, 3) := by decide +kernel
theorem dX8_dressing_9 : decode cX8_dressing 9 = .ok (.iload_n 1, 1) := by decide +kernel
theorem dX8_dressing_10 : decode cX8_dressing 10 = .ok (.invokevirtual 175, 3) := by decide +kernel
theorem dX8_dressing_13 : decode cX8_dressing 13 = .ok (.ifCond .ne 6, 3) := by decide +kernel
theorem dX8_dressing_16 : decode cX8_dressing 16 = .ok (.ldc 150, 2) := by decide +kernel
theorem dX8_dressing_18 : decode cX8_dressing 18 = .ok (.ireturn, 1) := by decide +kernel
theorem dX8_dressing_19 : decode cX8_dressing 19 = .ok (.aload_n 0, 1) := by decide +kernel
theorem dX8_dressing_20 : decode cX8_dressing 20 = .ok (.iconst 0, 1) := by decide +kernel
theorem dX8_dressing_21 : decode cX8_dressing 21 = .ok (.invokevirtual 200, 3) := by decide +kernel
theorem dX8_dressing_24 : decode cX8_dressing 24 = .ok (.iload_n 1, 1) := by decide +kernel
theorem dX8_dressing_25 : decode cX8_dressing 25 = .ok (.iconst (-1), 1) := by decide +kernel
theorem dX8_dressing_26 : decode cX8_dressing 26 = .ok (.if_icmp .eq 14, 3) := by decide +kernel
theorem dX8_dressing_29 : decode cX8_dressing 29 = .ok (.aload_n 0, 1) := by decide +kernel
theorem dX8_dressing_30 : decode cX8_dressing 30 = .ok (.getfield 66, 3) := by decide +kernel
theorem dX8_dressing_33 : decode cX8_dressing 33 = .ok (.getfield 203, 3) := by decide +kernel
theorem dX8_dressing_36 : decode cX8_dressing 36 = .ok (.iconst (-1), 1) := by decide +kernel
theorem dX8_dressing_37 : decode cX8_dressing 37 = .ok (.if_icmp .ne 11, 3) := by decide +kernel
theorem dX8_dressing_40 : decode cX8_dressing 40 = .ok (.aload_n 0, 1) := by decide +kernel
theorem dX8_dressing_41 : decode cX8_dressing 41 = .ok (.getfield 66, 3) := by decide +kernel
theorem dX8_dressing_44 : decode cX8_dressing 44 = .ok (.getfield 203, 3) := by decide +kernel
theorem dX8_dressing_47 : decode cX8_dressing 47 = .ok (.ireturn, 1) := by decide +kernel
theorem dX8_dressing_48 : decode cX8_dressing 48 = .ok (.aload_n 0, 1) := by decide +kernel
theorem dX8_dressing_49 : decode cX8_dressing 49 = .ok (.getfield 57, 3) := by decide +kernel
theorem dX8_dressing_52 : decode cX8_dressing 52 = .ok (.aload_n 0, 1) := by decide +kernel
theorem dX8_dressing_53 : decode cX8_dressing 53 = .ok (.getfield 66, 3) := by decide +kernel
theorem dX8_dressing_56 : decode cX8_dressing 56 = .ok (.getfield 206, 3) := by decide +kernel
theorem dX8_dressing_59 : decode cX8_dressing 59 = .ok (.iload_n 1, 1) := by decide +kernel
theorem dX8_dressing_60 : decode cX8_dressing 60 = .ok (.iaload, 1) := by decide +kernel
theorem dX8_dressing_61 : decode cX8_dressing 61 = .ok (.invokevirtual 187, 3) := by decide +kernel
theorem dX8_dressing_64 : decode cX8_dressing 64 = .ok (.ireturn, 1) := by decide +kernel
theorem dX8_rent_0 : decode cX8_rent 0 = .ok (.iload_n 1, 1) := by decide +kernel
theorem dX8_rent_1 : decode cX8_rent 1 = .ok (.invokestatic 209, 3) := by decide +kernel
theorem dX8_rent_4 : decode cX8_rent 4 = .ok (.ifCond .ne 6, 3) := by decide +kernel
theorem dX8_rent_7 : decode cX8_rent 7 = .ok (.ldc 94, 2) := by decide +kernel
theorem dX8_rent_9 : decode cX8_rent 9 = .ok (.ireturn, 1) := by decide +kernel
theorem dX8_rent_10 : decode cX8_rent 10 = .ok (.aload_n 0, 1) := by decide +kernel
theorem dX8_rent_11 : decode cX8_rent 11 = .ok (.iconst 0, 1) := by decide +kernel
theorem dX8_rent_12 : decode cX8_rent 12 = .ok (.invokevirtual 200, 3) := by decide +kernel
theorem dX8_rent_15 : decode cX8_rent 15 = .ok (.aload_n 0, 1) := by decide +kernel
theorem dX8_rent_16 : decode cX8_rent 16 = .ok (.getfield 66, 3) := by decide +kernel
theorem dX8_rent_19 : decode cX8_rent 19 = .ok (.aload_n 0, 1) := by decide +kernel
theorem dX8_rent_20 : decode cX8_rent 20 = .ok (.getfield 19, 3) := by decide +kernel
theorem dX8_rent_23 : decode cX8_rent 23 = .ok (.iload_n 1, 1) := by decide +kernel
theorem dX8_rent_24 : decode cX8_rent 24 = .ok (.invokevirtual 212, 3) := by decide +kernel
theorem dX8_rent_27 : decode cX8_rent 27 = .ok (.aload_n 0, 1) := by decide +kernel
theorem dX8_rent_28 : decode cX8_rent 28 = .ok (.getfield 38, 3) := by decide +kernel
theorem dX8_rent_31 : decode cX8_rent 31 = .ok (.getfield 160, 3) := by decide +kernel
theorem dX8_rent_34 : decode cX8_rent 34 = .ok (.invokevirtual 215, 3) := by decide +kernel
theorem dX8_rent_37 : decode cX8_rent 37 = .ok (.ireturn, 1) := by decide +kernel
theorem dX8_without_0 : decode cX8_without 0 = .ok (.iload_n 1, 1) := by decide +kernel
theorem dX8_without_1 : decode cX8_without 1 = .ok (.invokestatic 209, 3) := by decide +kernel
theorem dX8_without_4 : decode cX8_without 4 = .ok (.ifCond .ne 6, 3) := by decide +kernel
theorem dX8_without_7 : decode cX8_without 7 = .ok (.ldc 94, 2) := by decide +kernel
theorem dX8_without_9 : decode cX8_without 9 = .ok (.ireturn, 1) := by decide +kernel
theorem dX8_without_10 : decode cX8_without 10 = .ok (.aload_n 0, 1) := by decide +kernel
theorem dX8_without_11 : decode cX8_without 11 = .ok (.iconst 0, 1) := by decide +kernel
theorem dX8_without_12 : decode cX8_without 12 = .ok (.invokevirtual 200, 3) := by decide +kernel
theorem dX8_without_15 : decode cX8_without 15 = .ok (.aload_n 0, 1) := by decide +kernel
theorem dX8_without_16 : decode cX8_without 16 = .ok (.getfield 66, 3) := by decide +kernel
theorem dX8_without_19 : decode cX8_without 19 = .ok (.getfield 203, 3) := by decide +kernel
theorem dX8_without_22 : decode cX8_without 22 = .ok (.istore_n 2, 1) := by decide +kernel
theorem dX8_without_23 : decode cX8_without 23 = .ok (.aload_n 0, 1) := by decide +kernel
theorem dX8_without_24 : decode cX8_without 24 = .ok (.aload_n 0, 1) := by decide +kernel
theorem dX8_without_25 : decode cX8_without 25 = .ok (.getfield 19, 3) := by decide +kernel
theorem dX8_without_28 : decode cX8_without 28 = .ok (.iload_n 1, 1) := by decide +kernel
theorem dX8_without_29 : decode cX8_without 29 = .ok (.invokevirtual 212, 3) := by decide +kernel
theorem dX8_without_32 : decode cX8_without 32 = .ok (.invokevirtual 200, 3) := by decide +kernel
theorem dX8_without_35 : decode cX8_without 35 = .ok (.aload_n 0, 1) := by decide +kernel
theorem dX8_without_36 : decode cX8_without 36 = .ok (.getfield 66, 3) := by decide +kernel
theorem dX8_without_39 : decode cX8_without 39 = .ok (.getfield 203, 3) := by decide +kernel
theorem dX8_without_42 : decode cX8_without 42 = .ok (.istore_n 3, 1) := by decide +kernel
theorem dX8_without_43 : decode cX8_without 43 = .ok (.iload_n 2, 1) := by decide +kernel
theorem dX8_without_44 : decode cX8_without 44 = .ok (.iconst (-1), 1) := by decide +kernel
theorem dX8_without_45 : decode cX8_without 45 = .ok (.if_icmp .eq 8, 3) := by decide +kernel
theorem dX8_without_48 : decode cX8_without 48 = .ok (.iload_n 3, 1) := by decide +kernel
theorem dX8_without_49 : decode cX8_without 49 = .ok (.iconst (-1), 1) := by decide +kernel
theorem dX8_without_50 : decode cX8_without 50 = .ok (.if_icmp .ne 7, 3) := by decide +kernel
theorem dX8_without_53 : decode cX8_without 53 = .ok (.iconst (-1), 1) := by decide +kernel
theorem dX8_without_54 : decode cX8_without 54 = .ok (.goto 6, 3) := by decide +kernel
theorem dX8_without_57 : decode cX8_without 57 = .ok (.iload_n 3, 1) := by decide +kernel
theorem dX8_without_58 : decode cX8_without 58 = .ok (.iload_n 2, 1) := by decide +kernel
theorem dX8_without_59 : decode cX8_without 59 = .ok (.isub, 1) := by decide +kernel
theorem dX8_without_60 : decode cX8_without 60 = .ok (.ireturn, 1) := by decide +kernel
theorem dX8_raise_0 : decode cX8_raise 0 = .ok (.iload_n 1, 1) := by decide +kernel
theorem dX8_raise_1 : decode cX8_raise 1 = .ok (.invokestatic 209, 3) := by decide +kernel
theorem dX8_raise_4 : decode cX8_raise 4 = .ok (.ifCond .eq 12, 3) := by decide +kernel
theorem dX8_raise_7 : decode cX8_raise 7 = .ok (.iload_n 2, 1) := by decide +kernel
theorem dX8_raise_8 : decode cX8_raise 8 = .ok (.ifCond .lt 8, 3) := by decide +kernel
theorem dX8_raise_11 : decode cX8_raise 11 = .ok (.iload_n 2, 1) := by decide +kernel
theorem dX8_raise_12 : decode cX8_raise 12 = .ok (.iconst 1, 1) := by decide +kernel
theorem dX8_raise_13 : decode cX8_raise 13 = .ok (.if_icmp .le 6, 3) := by decide +kernel
theorem dX8_raise_16 : decode cX8_raise 16 = .ok (.ldc 94, 2) := by decide +kernel
theorem dX8_raise_18 : decode cX8_raise 18 = .ok (.ireturn, 1) := by decide +kernel
theorem dX8_raise_19 : decode cX8_raise 19 = .ok (.aload_n 0, 1) := by decide +kernel
theorem dX8_raise_20 : decode cX8_raise 20 = .ok (.getfield 19, 3) := by decide +kernel
theorem dX8_raise_23 : decode cX8_raise 23 = .ok (.iload_n 1, 1) := by decide +kernel
theorem dX8_raise_24 : decode cX8_raise 24 = .ok (.invokevirtual 212, 3) := by decide +kernel
theorem dX8_raise_27 : decode cX8_raise 27 = .ok (.istore_n 3, 1) := by decide +kernel
theorem dX8_raise_28 : decode cX8_raise 28 = .ok (.iconst 0, 1) := by decide +kernel
theorem dX8_raise_29 : decode cX8_raise 29 = .ok (.istore 4, 2) := by decide +kernel
theorem dX8_raise_31 : decode cX8_raise 31 = .ok (.iconst (-1), 1) := by decide +kernel
theorem dX8_raise_32 : decode cX8_raise 32 = .ok (.istore 5, 2) := by decide +kernel
theorem dX8_raise_34 : decode cX8_raise 34 = .ok (.aload_n 0, 1) := by decide +kernel
theorem dX8_raise_35 : decode cX8_raise 35 = .ok (.getfield 66, 3) := by decide +kernel
theorem dX8_raise_38 : decode cX8_raise 38 = .ok (.iconst 0, 1) := by decide +kernel
theorem dX8_raise_39 : decode cX8_raise 39 = .ok (.invokevirtual 219, 3) := by decide +kernel
theorem dX8_raise_42 : decode cX8_raise 42 = .ok (.iconst 0, 1) := by decide +kernel
theorem dX8_raise_43 : decode cX8_raise 43 = .ok (.istore 6, 2) := by decide +kernel
theorem dX8_raise_45 : decode cX8_raise 45 = .ok (.iload 6, 2) := by decide +kernel
theorem dX8_raise_47 : decode cX8_raise 47 = .ok (.bipush 20, 2) := by decide +kernel
theorem dX8_raise_49 : decode cX8_raise 49 = .ok (.if_icmp .gt 70, 3) := by decide +kernel
theorem dX8_raise_52 : decode cX8_raise 52 = .ok (.aload_n 0, 1) := by decide +kernel
theorem dX8_raise_53 : decode cX8_raise 53 = .ok (.getfield 38, 3) := by decide +kernel
theorem dX8_raise_56 : decode cX8_raise 56 = .ok (.iload_n 3, 1) := by decide +kernel
theorem dX8_raise_57 : decode cX8_raise 57 = .ok (.iload 6, 2) := by decide +kernel
theorem dX8_raise_59 : decode cX8_raise 59 = .ok (.aload_n 0, 1) := by decide +kernel
theorem dX8_raise_60 : decode cX8_raise 60 = .ok (.getfield 86, 3) := by decide +kernel
theorem dX8_raise_63 : decode cX8_raise 63 = .ok (.invokevirtual 222, 3) := by decide +kernel
theorem dX8_raise_66 : decode cX8_raise 66 = .ok (.aload_n 0, 1) := by decide +kernel
theorem dX8_raise_67 : decode cX8_raise 67 = .ok (.getfield 66, 3) := by decide +kernel
theorem dX8_raise_70 : decode cX8_raise 70 = .ok (.aload_n 0, 1) := by decide +kernel
theorem dX8_raise_71 : decode cX8_raise 71 = .ok (.getfield 86, 3) := by decide +kernel
theorem dX8_raise_74 : decode cX8_raise 74 = .ok (.aload_n 0, 1) := by decide +kernel
theorem dX8_raise_75 : decode cX8_raise 75 = .ok (.getfield 38, 3) := by decide +kernel
theorem dX8_raise_78 : decode cX8_raise 78 = .ok (.getfield 132, 3) := by decide +kernel
theorem dX8_raise_81 : decode cX8_raise 81 = .ok (.invokevirtual 226, 3) := by decide +kernel
theorem dX8_raise_84 : decode cX8_raise 84 = .ok (.aload_n 0, 1) := by decide +kernel
theorem dX8_raise_85 : decode cX8_raise 85 = .ok (.getfield 66, 3) := by decide +kernel
theorem dX8_raise_88 : decode cX8_raise 88 = .ok (.iload_n 3, 1) := by decide +kernel
theorem dX8_raise_89 : decode cX8_raise 89 = .ok (.aload_n 0, 1) := by decide +kernel
theorem dX8_raise_90 : decode cX8_raise 90 = .ok (.getfield 86, 3) := by decide +kernel
theorem dX8_raise_93 : decode cX8_raise 93 = .ok (.invokevirtual 215, 3) := by decide +kernel
theorem dX8_raise_96 : decode cX8_raise 96 = .ok (.istore 7, 2) := by decide +kernel
theorem dX8_raise_98 : decode cX8_raise 98 = .ok (.iload 7, 2) := by decide +kernel
theorem dX8_raise_100 : decode cX8_raise 100 = .ok (.iload 5, 2) := by decide +kernel
theorem dX8_raise_102 : decode cX8_raise 102 = .ok (.if_icmp .le 11, 3) := by decide +kernel
theorem dX8_raise_105 : decode cX8_raise 105 = .ok (.iload 7, 2) := by decide +kernel
theorem dX8_raise_107 : decode cX8_raise 107 = .ok (.istore 5, 2) := by decide +kernel
theorem dX8_raise_109 : decode cX8_raise 109 = .ok (.iload 6, 2) := by decide +kernel
theorem dX8_raise_111 : decode cX8_raise 111 = .ok (.istore 4, 2) := by decide +kernel
theorem dX8_raise_113 : decode cX8_raise 113 = .ok (.iinc 6 1, 3) := by decide +kernel
theorem dX8_raise_116 : decode cX8_raise 116 = .ok (.goto (-71), 3) := by decide +kernel
theorem dX8_raise_119 : decode cX8_raise 119 = .ok (.iload_n 2, 1) := by decide +kernel
theorem dX8_raise_120 : decode cX8_raise 120 = .ok (.ifCond .ne 8, 3) := by decide +kernel
theorem dX8_raise_123 : decode cX8_raise 123 = .ok (.iload 4, 2) := by decide +kernel
theorem dX8_raise_125 : decode cX8_raise 125 = .ok (.goto 5, 3) := by decide +kernel
theorem dX8_raise_128 : decode cX8_raise 128 = .ok (.iload 5, 2) := by decide +kernel
theorem dX8_raise_130 : decode cX8_raise 130 = .ok (.ireturn, 1) := by decide +kernel
theorem dX8_dressBest_0 : decode cX8_dressBest 0 = .ok (.aload_n 0, 1) := by decide +kernel
theorem dX8_dressBest_1 : decode cX8_dressBest 1 = .ok (.getfield 66, 3) := by decide +kernel
theorem dX8_dressBest_4 : decode cX8_dressBest 4 = .ok (.iload_n 1, 1) := by decide +kernel
theorem dX8_dressBest_5 : decode cX8_dressBest 5 = .ok (.invokevirtual 219, 3) := by decide +kernel
theorem dX8_dressBest_8 : decode cX8_dressBest 8 = .ok (.aload_n 0, 1) := by decide +kernel
theorem dX8_dressBest_9 : decode cX8_dressBest 9 = .ok (.getfield 66, 3) := by decide +kernel
theorem dX8_dressBest_12 : decode cX8_dressBest 12 = .ok (.aload_n 0, 1) := by decide +kernel
theorem dX8_dressBest_13 : decode cX8_dressBest 13 = .ok (.getfield 38, 3) := by decide +kernel
theorem dX8_dressBest_16 : decode cX8_dressBest 16 = .ok (.getfield 160, 3) := by decide +kernel
theorem dX8_dressBest_19 : decode cX8_dressBest 19 = .ok (.aload_n 0, 1) := by decide +kernel
theorem dX8_dressBest_20 : decode cX8_dressBest 20 = .ok (.getfield 38, 3) := by decide +kernel
theorem dX8_dressBest_23 : decode cX8_dressBest 23 = .ok (.getfield 132, 3) := by decide +kernel
theorem dX8_dressBest_26 : decode cX8_dressBest 26 = .ok (.invokevirtual 226, 3) := by decide +kernel
theorem dX8_dressBest_29 : decode cX8_dressBest 29 = .ok (.return_, 1) := by decide +kernel
theorem dX8_grow_0 : decode cX8_grow 0 = .ok (.iload_n 1, 1) := by decide +kernel
theorem dX8_grow_1 : decode cX8_grow 1 = .ok (.ifCond .lt 8, 3) := by decide +kernel
theorem dX8_grow_4 : decode cX8_grow 4 = .ok (.iload_n 1, 1) := by decide +kernel
theorem dX8_grow_5 : decode cX8_grow 5 = .ok (.iconst 2, 1) := by decide +kernel
theorem dX8_grow_6 : decode cX8_grow 6 = .ok (.if_icmp .le 6, 3) := by decide +kernel
theorem dX8_grow_9 : decode cX8_grow 9 = .ok (.ldc 94, 2) := by decide +kernel
theorem dX8_grow_11 : decode cX8_grow 11 = .ok (.ireturn, 1) := by decide +kernel
theorem dX8_grow_12 : decode cX8_grow 12 = .ok (.iconst (-1), 1) := by decide +kernel
theorem dX8_grow_13 : decode cX8_grow 13 = .ok (.istore_n 2, 1) := by decide +kernel
theorem dX8_grow_14 : decode cX8_grow 14 = .ok (.iconst (-1), 1) := by decide +kernel
theorem dX8_grow_15 : decode cX8_grow 15 = .ok (.istore_n 3, 1) := by decide +kernel
theorem dX8_grow_16 : decode cX8_grow 16 = .ok (.iconst (-1), 1) := by decide +kernel
theorem dX8_grow_17 : decode cX8_grow 17 = .ok (.istore 4, 2) := by decide +kernel
theorem dX8_grow_19 : decode cX8_grow 19 = .ok (.iconst 0, 1) := by decide +kernel
theorem dX8_grow_20 : decode cX8_grow 20 = .ok (.istore 5, 2) := by decide +kernel
theorem dX8_grow_22 : decode cX8_grow 22 = .ok (.iload 5, 2) := by decide +kernel
theorem dX8_grow_24 : decode cX8_grow 24 = .ok (.aload_n 0, 1) := by decide +kernel
theorem dX8_grow_25 : decode cX8_grow 25 = .ok (.getfield 19, 3) := by decide +kernel
theorem dX8_grow_28 : decode cX8_grow 28 = .ok (.getfield 123, 3) := by decide +kernel
theorem dX8_grow_31 : decode cX8_grow 31 = .ok (.if_icmp .ge 58, 3) := by decide +kernel
theorem dX8_grow_34 : decode cX8_grow 34 = .ok (.iconst 0, 1) := by decide +kernel
theorem dX8_grow_35 : decode cX8_grow 35 = .ok (.istore 6, 2) := by decide +kernel
theorem dX8_grow_37 : decode cX8_grow 37 = .ok (.iload 6, 2) := by decide +kernel
theorem dX8_grow_39 : decode cX8_grow 39 = .ok (.bipush 9, 2) := by decide +kernel
theorem dX8_grow_41 : decode cX8_grow 41 = .ok (.if_icmp .gt 42, 3) := by decide +kernel
theorem dX8_grow_44 : decode cX8_grow 44 = .ok (.aload_n 0, 1) := by decide +kernel
theorem dX8_grow_45 : decode cX8_grow 45 = .ok (.getfield 57, 3) := by decide +kernel
theorem dX8_grow_48 : decode cX8_grow 48 = .ok (.iload 5, 2) := by decide +kernel
theorem dX8_grow_50 : decode cX8_grow 50 = .ok (.iload 6, 2) := by decide +kernel
theorem dX8_grow_52 : decode cX8_grow 52 = .ok (.invokevirtual 142, 3) := by decide +kernel
theorem dX8_grow_55 : decode cX8_grow 55 = .ok (.invokestatic 230, 3) := by decide +kernel
theorem dX8_grow_58 : decode cX8_grow 58 = .ok (.istore 7, 2) := by decide +kernel
theorem dX8_grow_60 : decode cX8_grow 60 = .ok (.iload 7, 2) := by decide +kernel
theorem dX8_grow_62 : decode cX8_grow 62 = .ok (.iload 4, 2) := by decide +kernel
theorem dX8_grow_64 : decode cX8_grow 64 = .ok (.if_icmp .le 13, 3) := by decide +kernel
theorem dX8_grow_67 : decode cX8_grow 67 = .ok (.iload 7, 2) := by decide +kernel
theorem dX8_grow_69 : decode cX8_grow 69 = .ok (.istore 4, 2) := by decide +kernel
theorem dX8_grow_71 : decode cX8_grow 71 = .ok (.iload 5, 2) := by decide +kernel
theorem dX8_grow_73 : decode cX8_grow 73 = .ok (.istore_n 2, 1) := by decide +kernel
theorem dX8_grow_74 : decode cX8_grow 74 = .ok (.iload 6, 2) := by decide +kernel
theorem dX8_grow_76 : decode cX8_grow 76 = .ok (.istore_n 3, 1) := by decide +kernel
theorem dX8_grow_77 : decode cX8_grow 77 = .ok (.iinc 6 1, 3) := by decide +kernel
theorem dX8_grow_80 : decode cX8_grow 80 = .ok (.goto (-43), 3) := by decide +kernel
theorem dX8_grow_83 : decode cX8_grow 83 = .ok (.iinc 5 1, 3) := by decide +kernel
theorem dX8_grow_86 : decode cX8_grow 86 = .ok (.goto (-64), 3) := by decide +kernel
theorem dX8_grow_89 : decode cX8_grow 89 = .ok (.iload_n 1, 1) := by decide +kernel
theorem dX8_grow_90 : decode cX8_grow 90 = .ok (.ifCond .ne 7, 3) := by decide +kernel
theorem dX8_grow_93 : decode cX8_grow 93 = .ok (.iload_n 2, 1) := by decide +kernel
theorem dX8_grow_94 : decode cX8_grow 94 = .ok (.goto 14, 3) := by decide +kernel
theorem dX8_grow_97 : decode cX8_grow 97 = .ok (.iload_n 1, 1) := by decide +kernel
theorem dX8_grow_98 : decode cX8_grow 98 = .ok (.iconst 1, 1) := by decide +kernel
theorem dX8_grow_99 : decode cX8_grow 99 = .ok (.if_icmp .ne 7, 3) := by decide +kernel
theorem dX8_grow_102 : decode cX8_grow 102 = .ok (.iload_n 3, 1) := by decide +kernel
theorem dX8_grow_103 : decode cX8_grow 103 = .ok (.goto 5, 3) := by decide +kernel
theorem dX8_grow_106 : decode cX8_grow 106 = .ok (.iload 4, 2) := by decide +kernel
theorem dX8_grow_108 : decode cX8_grow 108 = .ok (.ireturn, 1) := by decide +kernel
theorem dX8_wedding_0 : decode cX8_wedding 0 = .ok (.iload_n 1, 1) := by decide +kernel
theorem dX8_wedding_1 : decode cX8_wedding 1 = .ok (.invokestatic 235, 3) := by decide +kernel
theorem dX8_wedding_4 : decode cX8_wedding 4 = .ok (.ifCond .eq 12, 3) := by decide +kernel
theorem dX8_wedding_7 : decode cX8_wedding 7 = .ok (.iload_n 2, 1) := by decide +kernel
theorem dX8_wedding_8 : decode cX8_wedding 8 = .ok (.ifCond .lt 8, 3) := by decide +kernel
theorem dX8_wedding_11 : decode cX8_wedding 11 = .ok (.iload_n 2, 1) := by decide +kernel
theorem dX8_wedding_12 : decode cX8_wedding 12 = .ok (.iconst 1, 1) := by decide +kernel
theorem dX8_wedding_13 : decode cX8_wedding 13 = .ok (.if_icmp .le 6, 3) := by decide +kernel
theorem dX8_wedding_16 : decode cX8_wedding 16 = .ok (.ldc 94, 2) := by decide +kernel
theorem dX8_wedding_18 : decode cX8_wedding 18 = .ok (.ireturn, 1) := by decide +kernel
theorem dX8_wedding_19 : decode cX8_wedding 19 = .ok (.iconst (-1), 1) := by decide +kernel
theorem dX8_wedding_20 : decode cX8_wedding 20 = .ok (.istore_n 3, 1) := by decide +kernel
theorem dX8_wedding_21 : decode cX8_wedding 21 = .ok (.iconst (-1), 1) := by decide +kernel
theorem dX8_wedding_22 : decode cX8_wedding 22 = .ok (.istore 4, 2) := by decide +kernel
theorem dX8_wedding_24 : decode cX8_wedding 24 = .ok (.aload_n 0, 1) := by decide +kernel
theorem dX8_wedding_25 : decode cX8_wedding 25 = .ok (.getfield 19, 3) := by decide +kernel
theorem dX8_wedding_28 : decode cX8_wedding 28 = .ok (.iload_n 1, 1) := by decide +kernel
theorem dX8_wedding_29 : decode cX8_wedding 29 = .ok (.invokevirtual 238, 3) := by decide +kernel
theorem dX8_wedding_32 : decode cX8_wedding 32 = .ok (.istore 5, 2) := by decide +kernel
theorem dX8_wedding_34 : decode cX8_wedding 34 = .ok (.iconst 0, 1) := by decide +kernel
theorem dX8_wedding_35 : decode cX8_wedding 35 = .ok (.istore 6, 2) := by decide +kernel
theorem dX8_wedding_37 : decode cX8_wedding 37 = .ok (.iload 6, 2) := by decide +kernel
theorem dX8_wedding_39 : decode cX8_wedding 39 = .ok (.aload_n 0, 1) := by decide +kernel
theorem dX8_wedding_40 : decode cX8_wedding 40 = .ok (.getfield 57, 3) := by decide +kernel
theorem dX8_wedding_43 : decode cX8_wedding 43 = .ok (.getfield 141, 3) := by decide +kernel
theorem dX8_wedding_46 : decode cX8_wedding 46 = .ok (.if_icmp .ge 105, 3) := by decide +kernel
theorem dX8_wedding_49 : decode cX8_wedding 49 = .ok (.iload 6, 2) := by decide +kernel
theorem dX8_wedding_51 : decode cX8_wedding 51 = .ok (.iconst 1, 1) := by decide +kernel
theorem dX8_wedding_52 : decode cX8_wedding 52 = .ok (.iadd, 1) := by decide +kernel
theorem dX8_wedding_53 : decode cX8_wedding 53 = .ok (.istore 7, 2) := by decide +kernel
theorem dX8_wedding_55 : decode cX8_wedding 55 = .ok (.iload 7, 2) := by decide +kernel
theorem dX8_wedding_57 : decode cX8_wedding 57 = .ok (.aload_n 0, 1) := by decide +kernel
theorem dX8_wedding_58 : decode cX8_wedding 58 = .ok (.getfield 57, 3) := by decide +kernel
theorem dX8_wedding_61 : decode cX8_wedding 61 = .ok (.getfield 141, 3) := by decide +kernel
theorem dX8_wedding_64 : decode cX8_wedding 64 = .ok (.if_icmp .ge 81, 3) := by decide +kernel
theorem dX8_wedding_67 : decode cX8_wedding 67 = .ok (.aload_n 0, 1) := by decide +kernel
theorem dX8_wedding_68 : decode cX8_wedding 68 = .ok (.getfield 57, 3) := by decide +kernel
theorem dX8_wedding_71 : decode cX8_wedding 71 = .ok (.iload 6, 2) := by decide +kernel
theorem dX8_wedding_73 : decode cX8_wedding 73 = .ok (.iload 7, 2) := by decide +kernel
theorem dX8_wedding_75 : decode cX8_wedding 75 = .ok (.iload 5, 2) := by decide +kernel
theorem dX8_wedding_77 : decode cX8_wedding 77 = .ok (.invokevirtual 241, 3) := by decide +kernel
theorem dX8_wedding_80 : decode cX8_wedding 80 = .ok (.ifCond .eq 59, 3) := by decide +kernel
theorem dX8_wedding_83 : decode cX8_wedding 83 = .ok (.aload_n 0, 1) := by decide +kernel
theorem dX8_wedding_84 : decode cX8_wedding 84 = .ok (.getfield 57, 3) := by decide +kernel
theorem dX8_wedding_87 : decode cX8_wedding 87 = .ok (.iload 6, 2) := by decide +kernel
theorem dX8_wedding_89 : decode cX8_wedding 89 = .ok (.invokevirtual 194, 3) := by decide +kernel
theorem dX8_wedding_92 : decode cX8_wedding 92 = .ok (.aload_n 0, 1) := by decide +kernel
theorem dX8_wedding_93 : decode cX8_wedding 93 = .ok (.getfield 57, 3) := by decide +kernel
theorem dX8_wedding_96 : decode cX8_wedding 96 = .ok (.iload 7, 2) := by decide +kernel
theorem dX8_wedding_98 : decode cX8_wedding 98 = .ok (.invokevirtual 194, 3) := by decide +kernel
theorem dX8_wedding_101 : decode cX8_wedding 101 = .ok (.iadd, 1) := by decide +kernel
theorem dX8_wedding_102 : decode cX8_wedding 102 = .ok (.istore 8, 2) := by decide +kernel
theorem dX8_wedding_104 : decode cX8_wedding 104 = .ok (.iload_n 3, 1) := by decide +kernel
theorem dX8_wedding_105 : decode cX8_wedding 105 = .ok (.iconst (-1), 1) := by decide +kernel
theorem dX8_wedding_106 : decode cX8_wedding 106 = .ok (.if_icmp .eq 9, 3) := by decide +kernel
theorem dX8_wedding_109 : decode cX8_wedding 109 = .ok (.iload 8, 2) := by decide +kernel
theorem dX8_wedding_111 : decode cX8_wedding 111 = .ok (.iload_n 3, 1) := by decide +kernel
theorem dX8_wedding_112 : decode cX8_wedding 112 = .ok (.if_icmp .ge 27, 3) := by decide +kernel
theorem dX8_wedding_115 : decode cX8_wedding 115 = .ok (.iload 8, 2) := by decide +kernel
theorem dX8_wedding_117 : decode cX8_wedding 117 = .ok (.istore_n 3, 1) := by decide +kernel
theorem dX8_wedding_118 : decode cX8_wedding 118 = .ok (.aload_n 0, 1) := by decide +kernel
theorem dX8_wedding_119 : decode cX8_wedding 119 = .ok (.getfield 57, 3) := by decide +kernel
theorem dX8_wedding_122 : decode cX8_wedding 122 = .ok (.iload 6, 2) := by decide +kernel
theorem dX8_wedding_124 : decode cX8_wedding 124 = .ok (.invokevirtual 187, 3) := by decide +kernel
theorem dX8_wedding_127 : decode cX8_wedding 127 = .ok (.aload_n 0, 1) := by decide +kernel
theorem dX8_wedding_128 : decode cX8_wedding 128 = .ok (.getfield 57, 3) := by decide +kernel
theorem dX8_wedding_131 : decode cX8_wedding 131 = .ok (.iload 7, 2) := by decide +kernel
theorem dX8_wedding_133 : decode cX8_wedding 133 = .ok (.invokevirtual 187, 3) := by decide +kernel
theorem dX8_wedding_136 : decode cX8_wedding 136 = .ok (.ior, 1) := by decide +kernel
theorem dX8_wedding_137 : decode cX8_wedding 137 = .ok (.istore 4, 2) := by decide +kernel
theorem dX8_wedding_139 : decode cX8_wedding 139 = .ok (.iinc 7 1, 3) := by decide +kernel
theorem dX8_wedding_142 : decode cX8_wedding 142 = .ok (.goto (-87), 3) := by decide +kernel
theorem dX8_wedding_145 : decode cX8_wedding 145 = .ok (.iinc 6 1, 3) := by decide +kernel
theorem dX8_wedding_148 : decode cX8_wedding 148 = .ok (.goto (-111), 3) := by decide +kernel
theorem dX8_wedding_151 : decode cX8_wedding 151 = .ok (.iload_n 2, 1) := by decide +kernel
theorem dX8_wedding_152 : decode cX8_wedding 152 = .ok (.ifCond .ne 7, 3) := by decide +kernel
theorem dX8_wedding_155 : decode cX8_wedding 155 = .ok (.iload_n 3, 1) := by decide +kernel
theorem dX8_wedding_156 : decode cX8_wedding 156 = .ok (.goto 5, 3) := by decide +kernel
theorem dX8_wedding_159 : decode cX8_wedding 159 = .ok (.iload 4, 2) := by decide +kernel
theorem dX8_wedding_161 : decode cX8_wedding 161 = .ok (.ireturn, 1) := by decide +kernel
theorem dX8_see_0 : decode cX8_see 0 = .ok (.iload_n 1, 1) := by decide +kernel
theorem dX8_see_1 : decode cX8_see 1 = .ok (.invokestatic 235, 3) := by decide +kernel
theorem dX8_see_4 : decode cX8_see 4 = .ok (.ifCond .eq 13, 3) := by decide +kernel
theorem dX8_see_7 : decode cX8_see 7 = .ok (.iload_n 2, 1) := by decide +kernel
theorem dX8_see_8 : decode cX8_see 8 = .ok (.ifCond .lt 9, 3) := by decide +kernel
theorem dX8_see_11 : decode cX8_see 11 = .ok (.iload_n 2, 1) := by decide +kernel
theorem dX8_see_12 : decode cX8_see 12 = .ok (.bipush 27, 2) := by decide +kernel
theorem dX8_see_14 : decode cX8_see 14 = .ok (.if_icmp .le 6, 3) := by decide +kernel
theorem dX8_see_17 : decode cX8_see 17 = .ok (.ldc 94, 2) := by decide +kernel
theorem dX8_see_19 : decode cX8_see 19 = .ok (.ireturn, 1) := by decide +kernel
theorem dX8_see_20 : decode cX8_see 20 = .ok (.aload_n 0, 1) := by decide +kernel
theorem dX8_see_21 : decode cX8_see 21 = .ok (.getfield 73, 3) := by decide +kernel
theorem dX8_see_24 : decode cX8_see 24 = .ok (.iload_n 1, 1) := by decide +kernel
theorem dX8_see_25 : decode cX8_see 25 = .ok (.iload_n 2, 1) := by decide +kernel
theorem dX8_see_26 : decode cX8_see 26 = .ok (.invokevirtual 245, 3) := by decide +kernel
theorem dX8_see_29 : decode cX8_see 29 = .ok (.ifCond .eq 13, 3) := by decide +kernel
theorem dX8_see_32 : decode cX8_see 32 = .ok (.aload_n 0, 1) := by decide +kernel
theorem dX8_see_33 : decode cX8_see 33 = .ok (.getfield 73, 3) := by decide +kernel
theorem dX8_see_36 : decode cX8_see 36 = .ok (.getfield 119, 3) := by decide +kernel
theorem dX8_see_39 : decode cX8_see 39 = .ok (.goto 5, 3) := by decide +kernel
theorem dX8_see_42 : decode cX8_see 42 = .ok (.ldc 98, 2) := by decide +kernel
theorem dX8_see_44 : decode cX8_see 44 = .ok (.ireturn, 1) := by decide +kernel
theorem dX8_seen_0 : decode cX8_seen 0 = .ok (.iload_n 2, 1) := by decide +kernel
theorem dX8_seen_1 : decode cX8_seen 1 = .ok (.ifCond .lt 8, 3) := by decide +kernel
theorem dX8_seen_4 : decode cX8_seen 4 = .ok (.iload_n 2, 1) := by decide +kernel
theorem dX8_seen_5 : decode cX8_seen 5 = .ok (.iconst 1, 1) := by decide +kernel
theorem dX8_seen_6 : decode cX8_seen 6 = .ok (.if_icmp .le 6, 3) := by decide +kernel
theorem dX8_seen_9 : decode cX8_seen 9 = .ok (.ldc 94, 2) := by decide +kernel
theorem dX8_seen_11 : decode cX8_seen 11 = .ok (.ireturn, 1) := by decide +kernel
theorem dX8_seen_12 : decode cX8_seen 12 = .ok (.iload_n 1, 1) := by decide +kernel
theorem dX8_seen_13 : decode cX8_seen 13 = .ok (.ifCond .lt 14, 3) := by decide +kernel
theorem dX8_seen_16 : decode cX8_seen 16 = .ok (.iload_n 1, 1) := by decide +kernel
theorem dX8_seen_17 : decode cX8_seen 17 = .ok (.aload_n 0, 1) := by decide +kernel
theorem dX8_seen_18 : decode cX8_seen 18 = .ok (.getfield 73, 3) := by decide +kernel
theorem dX8_seen_21 : decode cX8_seen 21 = .ok (.getfield 119, 3) := by decide +kernel
theorem dX8_seen_24 : decode cX8_seen 24 = .ok (.if_icmp .lt 5, 3) := by decide +kernel
theorem dX8_seen_27 : decode cX8_seen 27 = .ok (.iconst (-1), 1) := by decide +kernel
theorem dX8_seen_28 : decode cX8_seen 28 = .ok (.ireturn, 1) := by decide +kernel
theorem dX8_seen_29 : decode cX8_seen 29 = .ok (.iload_n 2, 1) := by decide +kernel
theorem dX8_seen_30 : decode cX8_seen 30 = .ok (.ifCond .ne 14, 3) := by decide +kernel
theorem dX8_seen_33 : decode cX8_seen 33 = .ok (.aload_n 0, 1) := by decide +kernel
theorem dX8_seen_34 : decode cX8_seen 34 = .ok (.getfield 73, 3) := by decide +kernel
theorem dX8_seen_37 : decode cX8_seen 37 = .ok (.iload_n 1, 1) := by decide +kernel
theorem dX8_seen_38 : decode cX8_seen 38 = .ok (.invokevirtual 248, 3) := by decide +kernel
theorem dX8_seen_41 : decode cX8_seen 41 = .ok (.goto 11, 3) := by decide +kernel
theorem dX8_seen_44 : decode cX8_seen 44 = .ok (.aload_n 0, 1) := by decide +kernel
theorem dX8_seen_45 : decode cX8_seen 45 = .ok (.getfield 73, 3) := by decide +kernel
theorem dX8_seen_48 : decode cX8_seen 48 = .ok (.iload_n 1, 1) := by decide +kernel
theorem dX8_seen_49 : decode cX8_seen 49 = .ok (.invokevirtual 251, 3) := by decide +kernel
theorem dX8_seen_52 : decode cX8_seen 52 = .ok (.ireturn, 1) := by decide +kernel
theorem dX8_strange_0 : decode cX8_strange 0 = .ok (.aload_n 0, 1) := by decide +kernel
theorem dX8_strange_1 : decode cX8_strange 1 = .ok (.getfield 73, 3) := by decide +kernel
theorem dX8_strange_4 : decode cX8_strange 4 = .ok (.invokevirtual 254, 3) := by decide +kernel
theorem dX8_strange_7 : decode cX8_strange 7 = .ok (.ireturn, 1) := by decide +kernel
theorem dX8_day_0 : decode cX8_day 0 = .ok (.iload_n 1, 1) := by decide +kernel
theorem dX8_day_1 : decode cX8_day 1 = .ok (.iconst 1, 1) := by decide +kernel
theorem dX8_day_2 : decode cX8_day 2 = .ok (.if_icmp .lt 9, 3) := by decide +kernel
theorem dX8_day_5 : decode cX8_day 5 = .ok (.iload_n 1, 1) := by decide +kernel
theorem dX8_day_6 : decode cX8_day 6 = .ok (.bipush 9, 2) := by decide +kernel
theorem dX8_day_8 : decode cX8_day 8 = .ok (.if_icmp .le 6, 3) := by decide +kernel
theorem dX8_day_11 : decode cX8_day 11 = .ok (.ldc 94, 2) := by decide +kernel
theorem dX8_day_13 : decode cX8_day 13 = .ok (.ireturn, 1) := by decide +kernel
theorem dX8_day_14 : decode cX8_day 14 = .ok (.iconst 0, 1) := by decide +kernel
theorem dX8_day_15 : decode cX8_day 15 = .ok (.istore_n 2, 1) := by decide +kernel
theorem dX8_day_16 : decode cX8_day 16 = .ok (.iconst 0, 1) := by decide +kernel
theorem dX8_day_17 : decode cX8_day 17 = .ok (.istore_n 3, 1) := by decide +kernel
theorem dX8_day_18 : decode cX8_day 18 = .ok (.iload_n 3, 1) := by decide +kernel
theorem dX8_day_19 : decode cX8_day 19 = .ok (.iload_n 1, 1) := by decide +kernel
theorem dX8_day_20 : decode cX8_day 20 = .ok (.if_icmp .ge 16, 3) := by decide +kernel
theorem dX8_day_23 : decode cX8_day 23 = .ok (.iload_n 2, 1) := by decide +kernel
theorem dX8_day_24 : decode cX8_day 24 = .ok (.aload_n 0, 1) := by decide +kernel
theorem dX8_day_25 : decode cX8_day 25 = .ok (.invokevirtual 257, 3) := by decide +kernel
theorem dX8_day_28 : decode cX8_day 28 = .ok (.iadd, 1) := by decide +kernel
theorem dX8_day_29 : decode cX8_day 29 = .ok (.istore_n 2, 1) := by decide +kernel
theorem dX8_day_30 : decode cX8_day 30 = .ok (.iinc 3 1, 3) := by decide +kernel
theorem dX8_day_33 : decode cX8_day 33 = .ok (.goto (-15), 3) := by decide +kernel
theorem dX8_day_36 : decode cX8_day 36 = .ok (.iload_n 2, 1) := by decide +kernel
theorem dX8_day_37 : decode cX8_day 37 = .ok (.ireturn, 1) := by decide +kernel
theorem dX8_drift_0 : decode cX8_drift 0 = .ok (.iload_n 1, 1) := by decide +kernel
theorem dX8_drift_1 : decode cX8_drift 1 = .ok (.iconst 1, 1) := by decide +kernel
theorem dX8_drift_2 : decode cX8_drift 2 = .ok (.if_icmp .lt 9, 3) := by decide +kernel
theorem dX8_drift_5 : decode cX8_drift 5 = .ok (.iload_n 1, 1) := by decide +kernel
theorem dX8_drift_6 : decode cX8_drift 6 = .ok (.bipush 9, 2) := by decide +kernel
theorem dX8_drift_8 : decode cX8_drift 8 = .ok (.if_icmp .le 6, 3) := by decide +kernel
theorem dX8_drift_11 : decode cX8_drift 11 = .ok (.ldc 94, 2) := by decide +kernel
theorem dX8_drift_13 : decode cX8_drift 13 = .ok (.ireturn, 1) := by decide +kernel
theorem dX8_drift_14 : decode cX8_drift 14 = .ok (.iconst 0, 1) := by decide +kernel
theorem dX8_drift_15 : decode cX8_drift 15 = .ok (.istore_n 2, 1) := by decide +kernel
theorem dX8_drift_16 : decode cX8_drift 16 = .ok (.iconst 0, 1) := by decide +kernel
theorem dX8_drift_17 : decode cX8_drift 17 = .ok (.istore_n 3, 1) := by decide +kernel
theorem dX8_drift_18 : decode cX8_drift 18 = .ok (.iload_n 3, 1) := by decide +kernel
theorem dX8_drift_19 : decode cX8_drift 19 = .ok (.iload_n 1, 1) := by decide +kernel
theorem dX8_drift_20 : decode cX8_drift 20 = .ok (.if_icmp .ge 30, 3) := by decide +kernel
theorem dX8_drift_23 : decode cX8_drift 23 = .ok (.aload_n 0, 1) := by decide +kernel
theorem dX8_drift_24 : decode cX8_drift 24 = .ok (.getfield 38, 3) := by decide +kernel
theorem dX8_drift_27 : decode cX8_drift 27 = .ok (.aload_n 0, 1) := by decide +kernel
theorem dX8_drift_28 : decode cX8_drift 28 = .ok (.getfield 19, 3) := by decide +kernel
theorem dX8_drift_31 : decode cX8_drift 31 = .ok (.getfield 123, 3) := by decide +kernel
theorem dX8_drift_34 : decode cX8_drift 34 = .ok (.invokevirtual 260, 3) := by decide +kernel
theorem dX8_drift_37 : decode cX8_drift 37 = .ok (.iload_n 2, 1) := by decide +kernel
theorem dX8_drift_38 : decode cX8_drift 38 = .ok (.aload_n 0, 1) := by decide +kernel
theorem dX8_drift_39 : decode cX8_drift 39 = .ok (.invokevirtual 257, 3) := by decide +kernel
theorem dX8_drift_42 : decode cX8_drift 42 = .ok (.iadd, 1) := by decide +kernel
theorem dX8_drift_43 : decode cX8_drift 43 = .ok (.istore_n 2, 1) := by decide +kernel
theorem dX8_drift_44 : decode cX8_drift 44 = .ok (.iinc 3 1, 3) := by decide +kernel
theorem dX8_drift_47 : decode cX8_drift 47 = .ok (.goto (-29), 3) := by decide +kernel
theorem dX8_drift_50 : decode cX8_drift 50 = .ok (.iload_n 2, 1) := by decide +kernel
theorem dX8_drift_51 : decode cX8_drift 51 = .ok (.ireturn, 1) := by decide +kernel
theorem dX8_passDay_0 : decode cX8_passDay 0 = .ok (.aload_n 0, 1) := by decide +kernel
theorem dX8_passDay_1 : decode cX8_passDay 1 = .ok (.iconst 0, 1) := by decide +kernel
theorem dX8_passDay_2 : decode cX8_passDay 2 = .ok (.invokevirtual 200, 3) := by decide +kernel
theorem dX8_passDay_5 : decode cX8_passDay 5 = .ok (.aload_n 0, 1) := by decide +kernel
theorem dX8_passDay_6 : decode cX8_passDay 6 = .ok (.getfield 38, 3) := by decide +kernel
theorem dX8_passDay_9 : decode cX8_passDay 9 = .ok (.dup, 1) := by decide +kernel
theorem dX8_passDay_10 : decode cX8_passDay 10 = .ok (.getfield 138, 3) := by decide +kernel
theorem dX8_passDay_13 : decode cX8_passDay 13 = .ok (.iconst 1, 1) := by decide +kernel
theorem dX8_passDay_14 : decode cX8_passDay 14 = .ok (.iadd, 1) := by decide +kernel
theorem dX8_passDay_15 : decode cX8_passDay 15 = .ok (.putfield 138, 3) := by decide +kernel
theorem dX8_passDay_18 : decode cX8_passDay 18 = .ok (.aload_n 0, 1) := by decide +kernel
theorem dX8_passDay_19 : decode cX8_passDay 19 = .ok (.getfield 66, 3) := by decide +kernel
theorem dX8_passDay_22 : decode cX8_passDay 22 = .ok (.getfield 203, 3) := by decide +kernel
theorem dX8_passDay_25 : decode cX8_passDay 25 = .ok (.iconst (-1), 1) := by decide +kernel
theorem dX8_passDay_26 : decode cX8_passDay 26 = .ok (.if_icmp .ne 5, 3) := by decide +kernel
theorem dX8_passDay_29 : decode cX8_passDay 29 = .ok (.iconst 0, 1) := by decide +kernel
theorem dX8_passDay_30 : decode cX8_passDay 30 = .ok (.ireturn, 1) := by decide +kernel
theorem dX8_passDay_31 : decode cX8_passDay 31 = .ok (.iconst 0, 1) := by decide +kernel
theorem dX8_passDay_32 : decode cX8_passDay 32 = .ok (.istore_n 1, 1) := by decide +kernel
theorem dX8_passDay_33 : decode cX8_passDay 33 = .ok (.iload_n 1, 1) := by decide +kernel
theorem dX8_passDay_34 : decode cX8_passDay 34 = .ok (.bipush 12, 2) := by decide +kernel
theorem dX8_passDay_36 : decode cX8_passDay 36 = .ok (.if_icmp .ge 25, 3) := by decide +kernel
theorem dX8_passDay_39 : decode cX8_passDay 39 = .ok (.aload_n 0, 1) := by decide +kernel
theorem dX8_passDay_40 : decode cX8_passDay 40 = .ok (.getfield 38, 3) := by decide +kernel
theorem dX8_passDay_43 : decode cX8_passDay 43 = .ok (.aload_n 0, 1) := by decide +kernel
theorem dX8_passDay_44 : decode cX8_passDay 44 = .ok (.getfield 66, 3) := by decide +kernel
theorem dX8_passDay_47 : decode cX8_passDay 47 = .ok (.getfield 263, 3) := by decide +kernel
theorem dX8_passDay_50 : decode cX8_passDay 50 = .ok (.iload_n 1, 1) := by decide +kernel
theorem dX8_passDay_51 : decode cX8_passDay 51 = .ok (.iaload, 1) := by decide +kernel
theorem dX8_passDay_52 : decode cX8_passDay 52 = .ok (.invokevirtual 264, 3) := by decide +kernel
theorem dX8_passDay_55 : decode cX8_passDay 55 = .ok (.iinc 1 1, 3) := by decide +kernel
theorem dX8_passDay_58 : decode cX8_passDay 58 = .ok (.goto (-25), 3) := by decide +kernel
theorem dX8_passDay_61 : decode cX8_passDay 61 = .ok (.aload_n 0, 1) := by decide +kernel
theorem dX8_passDay_62 : decode cX8_passDay 62 = .ok (.getfield 38, 3) := by decide +kernel
theorem dX8_passDay_65 : decode cX8_passDay 65 = .ok (.invokevirtual 267, 3) := by decide +kernel
theorem dX8_passDay_68 : decode cX8_passDay 68 = .ok (.aload_n 0, 1) := by decide +kernel
theorem dX8_passDay_69 : decode cX8_passDay 69 = .ok (.getfield 38, 3) := by decide +kernel
theorem dX8_passDay_72 : decode cX8_passDay 72 = .ok (.ldc_w 270, 3) := by decide +kernel
theorem dX8_passDay_75 : decode cX8_passDay 75 = .ok (.aload_n 0, 1) := by decide +kernel
theorem dX8_passDay_76 : decode cX8_passDay 76 = .ok (.getfield 38, 3) := by decide +kernel
theorem dX8_passDay_79 : decode cX8_passDay 79 = .ok (.getfield 135, 3) := by decide +kernel
theorem dX8_passDay_82 : decode cX8_passDay 82 = .ok (.aload_n 0, 1) := by decide +kernel
theorem dX8_passDay_83 : decode cX8_passDay 83 = .ok (.getfield 66, 3) := by decide +kernel
theorem dX8_passDay_86 : decode cX8_passDay 86 = .ok (.getfield 203, 3) := by decide +kernel
theorem dX8_passDay_89 : decode cX8_passDay 89 = .ok (.iadd, 1) := by decide +kernel
theorem dX8_passDay_90 : decode cX8_passDay 90 = .ok (.invokestatic 271, 3) := by decide +kernel
theorem dX8_passDay_93 : decode cX8_passDay 93 = .ok (.putfield 135, 3) := by decide +kernel
theorem dX8_passDay_96 : decode cX8_passDay 96 = .ok (.aload_n 0, 1) := by decide +kernel
theorem dX8_passDay_97 : decode cX8_passDay 97 = .ok (.getfield 66, 3) := by decide +kernel
theorem dX8_passDay_100 : decode cX8_passDay 100 = .ok (.getfield 203, 3) := by decide +kernel
theorem dX8_passDay_103 : decode cX8_passDay 103 = .ok (.ireturn, 1) := by decide +kernel
theorem dX8_write_0 : decode cX8_write 0 = .ok (.aload_n 0, 1) := by decide +kernel
theorem dX8_write_1 : decode cX8_write 1 = .ok (.getfield 19, 3) := by decide +kernel
theorem dX8_write_4 : decode cX8_write 4 = .ok (.iload_n 2, 1) := by decide +kernel
theorem dX8_write_5 : decode cX8_write 5 = .ok (.invokevirtual 146, 3) := by decide +kernel
theorem dX8_write_8 : decode cX8_write 8 = .ok (.ifCond .ne 6, 3) := by decide +kernel
theorem dX8_write_11 : decode cX8_write 11 = .ok (.ldc 150, 2) := by decide +kernel
theorem dX8_write_13 : decode cX8_write 13 = .ok (.ireturn, 1) := by decide +kernel
theorem dX8_write_14 : decode cX8_write 14 = .ok (.iload_n 1, 1) := by decide +kernel
theorem dX8_write_15 : decode cX8_write 15 = .ok (.invokestatic 235, 3) := by decide +kernel
theorem dX8_write_18 : decode cX8_write 18 = .ok (.ifCond .ne 6, 3) := by decide +kernel
theorem dX8_write_21 : decode cX8_write 21 = .ok (.ldc 94, 2) := by decide +kernel
theorem dX8_write_23 : decode cX8_write 23 = .ok (.ireturn, 1) := by decide +kernel
theorem dX8_write_24 : decode cX8_write 24 = .ok (.aload_n 0, 1) := by decide +kernel
theorem dX8_write_25 : decode cX8_write 25 = .ok (.getfield 82, 3) := by decide +kernel
theorem dX8_write_28 : decode cX8_write 28 = .ok (.iload_n 1, 1) := by decide +kernel
theorem dX8_write_29 : decode cX8_write 29 = .ok (.iload_n 2, 1) := by decide +kernel
theorem dX8_write_30 : decode cX8_write 30 = .ok (.invokevirtual 276, 3) := by decide +kernel
theorem dX8_write_33 : decode cX8_write 33 = .ok (.ifCond .eq 13, 3) := by decide +kernel
theorem dX8_write_36 : decode cX8_write 36 = .ok (.aload_n 0, 1) := by decide +kernel
theorem dX8_write_37 : decode cX8_write 37 = .ok (.getfield 82, 3) := by decide +kernel
theorem dX8_write_40 : decode cX8_write 40 = .ok (.getfield 122, 3) := by decide +kernel
theorem dX8_write_43 : decode cX8_write 43 = .ok (.goto 5, 3) := by decide +kernel
theorem dX8_write_46 : decode cX8_write 46 = .ok (.ldc 98, 2) := by decide +kernel
theorem dX8_write_48 : decode cX8_write 48 = .ok (.ireturn, 1) := by decide +kernel
theorem dX8_tear_0 : decode cX8_tear 0 = .ok (.aload_n 0, 1) := by decide +kernel
theorem dX8_tear_1 : decode cX8_tear 1 = .ok (.getfield 82, 3) := by decide +kernel
theorem dX8_tear_4 : decode cX8_tear 4 = .ok (.getfield 122, 3) := by decide +kernel
theorem dX8_tear_7 : decode cX8_tear 7 = .ok (.aload_n 0, 1) := by decide +kernel
theorem dX8_tear_8 : decode cX8_tear 8 = .ok (.getfield 73, 3) := by decide +kernel
theorem dX8_tear_11 : decode cX8_tear 11 = .ok (.getfield 119, 3) := by decide +kernel
theorem dX8_tear_14 : decode cX8_tear 14 = .ok (.iadd, 1) := by decide +kernel
theorem dX8_tear_15 : decode cX8_tear 15 = .ok (.istore_n 1, 1) := by decide +kernel
theorem dX8_tear_16 : decode cX8_tear 16 = .ok (.aload_n 0, 1) := by decide +kernel
theorem dX8_tear_17 : decode cX8_tear 17 = .ok (.getfield 82, 3) := by decide +kernel
theorem dX8_tear_20 : decode cX8_tear 20 = .ok (.iconst 0, 1) := by decide +kernel
theorem dX8_tear_21 : decode cX8_tear 21 = .ok (.putfield 122, 3) := by decide +kernel
theorem dX8_tear_24 : decode cX8_tear 24 = .ok (.aload_n 0, 1) := by decide +kernel
theorem dX8_tear_25 : decode cX8_tear 25 = .ok (.getfield 73, 3) := by decide +kernel
theorem dX8_tear_28 : decode cX8_tear 28 = .ok (.iconst 0, 1) := by decide +kernel
theorem dX8_tear_29 : decode cX8_tear 29 = .ok (.putfield 119, 3) := by decide +kernel
theorem dX8_tear_32 : decode cX8_tear 32 = .ok (.iload_n 1, 1) := by decide +kernel
theorem dX8_tear_33 : decode cX8_tear 33 = .ok (.ireturn, 1) := by decide +kernel
theorem dX8_judge_0 : decode cX8_judge 0 = .ok (.aload_n 0, 1) := by decide +kernel
theorem dX8_judge_1 : decode cX8_judge 1 = .ok (.getfield 82, 3) := by decide +kernel
theorem dX8_judge_4 : decode cX8_judge 4 = .ok (.aload_n 0, 1) := by decide +kernel
theorem dX8_judge_5 : decode cX8_judge 5 = .ok (.getfield 38, 3) := by decide +kernel
theorem dX8_judge_8 : decode cX8_judge 8 = .ok (.getfield 132, 3) := by decide +kernel
theorem dX8_judge_11 : decode cX8_judge 11 = .ok (.invokevirtual 277, 3) := by decide +kernel
theorem dX8_judge_14 : decode cX8_judge 14 = .ok (.ireturn, 1) := by decide +kernel
theorem dX8_seed_0 : decode cX8_seed 0 = .ok (.iload_n 1, 1) := by decide +kernel
theorem dX8_seed_1 : decode cX8_seed 1 = .ok (.ifCond .ge 6, 3) := by decide +kernel
theorem dX8_seed_4 : decode cX8_seed 4 = .ok (.ldc 94, 2) := by decide +kernel
theorem dX8_seed_6 : decode cX8_seed 6 = .ok (.ireturn, 1) := by decide +kernel
theorem dX8_seed_7 : decode cX8_seed 7 = .ok (.aload_n 0, 1) := by decide +kernel
theorem dX8_seed_8 : decode cX8_seed 8 = .ok (.getfield 38, 3) := by decide +kernel
theorem dX8_seed_11 : decode cX8_seed 11 = .ok (.getfield 280, 3) := by decide +kernel
theorem dX8_seed_14 : decode cX8_seed 14 = .ok (.istore_n 2, 1) := by decide +kernel
theorem dX8_seed_15 : decode cX8_seed 15 = .ok (.aload_n 0, 1) := by decide +kernel
theorem dX8_seed_16 : decode cX8_seed 16 = .ok (.getfield 38, 3) := by decide +kernel
theorem dX8_seed_19 : decode cX8_seed 19 = .ok (.iload_n 1, 1) := by decide +kernel
theorem dX8_seed_20 : decode cX8_seed 20 = .ok (.putfield 280, 3) := by decide +kernel
theorem dX8_seed_23 : decode cX8_seed 23 = .ok (.iload_n 2, 1) := by decide +kernel
theorem dX8_seed_24 : decode cX8_seed 24 = .ok (.ireturn, 1) := by decide +kernel
theorem dX8_keep_0 : decode cX8_keep 0 = .ok (.iload_n 1, 1) := by decide +kernel
theorem dX8_keep_1 : decode cX8_keep 1 = .ok (.ifCond .lt 8, 3) := by decide +kernel
theorem dX8_keep_4 : decode cX8_keep 4 = .ok (.iload_n 1, 1) := by decide +kernel
theorem dX8_keep_5 : decode cX8_keep 5 = .ok (.iconst 2, 1) := by decide +kernel
theorem dX8_keep_6 : decode cX8_keep 6 = .ok (.if_icmp .lt 6, 3) := by decide +kernel
theorem dX8_keep_9 : decode cX8_keep 9 = .ok (.ldc 150, 2) := by decide +kernel
theorem dX8_keep_11 : decode cX8_keep 11 = .ok (.ireturn, 1) := by decide +kernel
theorem dX8_keep_12 : decode cX8_keep 12 = .ok (.aload_n 0, 1) := by decide +kernel
theorem dX8_keep_13 : decode cX8_keep 13 = .ok (.iload_n 1, 1) := by decide +kernel
theorem dX8_keep_14 : decode cX8_keep 14 = .ok (.invokevirtual 283, 3) := by decide +kernel
theorem dX8_keep_17 : decode cX8_keep 17 = .ok (.aload_n 0, 1) := by decide +kernel
theorem dX8_keep_18 : decode cX8_keep 18 = .ok (.getfield 38, 3) := by decide +kernel
theorem dX8_keep_21 : decode cX8_keep 21 = .ok (.invokevirtual 287, 3) := by decide +kernel
theorem dX8_keep_24 : decode cX8_keep 24 = .ok (.aload_n 0, 1) := by decide +kernel
theorem dX8_keep_25 : decode cX8_keep 25 = .ok (.getfield 48, 3) := by decide +kernel
theorem dX8_keep_28 : decode cX8_keep 28 = .ok (.iload_n 1, 1) := by decide +kernel
theorem dX8_keep_29 : decode cX8_keep 29 = .ok (.iconst 1, 1) := by decide +kernel
theorem dX8_keep_30 : decode cX8_keep 30 = .ok (.bastore, 1) := by decide +kernel
theorem dX8_keep_31 : decode cX8_keep 31 = .ok (.iconst 1, 1) := by decide +kernel
theorem dX8_keep_32 : decode cX8_keep 32 = .ok (.ireturn, 1) := by decide +kernel
theorem dX8_goBack_0 : decode cX8_goBack 0 = .ok (.iload_n 1, 1) := by decide +kernel
theorem dX8_goBack_1 : decode cX8_goBack 1 = .ok (.ifCond .lt 8, 3) := by decide +kernel
theorem dX8_goBack_4 : decode cX8_goBack 4 = .ok (.iload_n 1, 1) := by decide +kernel
theorem dX8_goBack_5 : decode cX8_goBack 5 = .ok (.iconst 2, 1) := by decide +kernel
theorem dX8_goBack_6 : decode cX8_goBack 6 = .ok (.if_icmp .lt 6, 3) := by decide +kernel
theorem dX8_goBack_9 : decode cX8_goBack 9 = .ok (.ldc 150, 2) := by decide +kernel
theorem dX8_goBack_11 : decode cX8_goBack 11 = .ok (.ireturn, 1) := by decide +kernel
theorem dX8_goBack_12 : decode cX8_goBack 12 = .ok (.aload_n 0, 1) := by decide +kernel
theorem dX8_goBack_13 : decode cX8_goBack 13 = .ok (.getfield 48, 3) := by decide +kernel
theorem dX8_goBack_16 : decode cX8_goBack 16 = .ok (.iload_n 1, 1) := by decide +kernel
theorem dX8_goBack_17 : decode cX8_goBack 17 = .ok (.baload, 1) := by decide +kernel
theorem dX8_goBack_18 : decode cX8_goBack 18 = .ok (.ifCond .ne 7, 3) := by decide +kernel
theorem dX8_goBack_21 : decode cX8_goBack 21 = .ok (.ldc_w 290, 3) := by decide +kernel
theorem dX8_goBack_24 : decode cX8_goBack 24 = .ok (.ireturn, 1) := by decide +kernel
theorem dX8_goBack_25 : decode cX8_goBack 25 = .ok (.aload_n 0, 1) := by decide +kernel
theorem dX8_goBack_26 : decode cX8_goBack 26 = .ok (.getfield 38, 3) := by decide +kernel
theorem dX8_goBack_29 : decode cX8_goBack 29 = .ok (.aload_n 0, 1) := by decide +kernel
theorem dX8_goBack_30 : decode cX8_goBack 30 = .ok (.iload_n 1, 1) := by decide +kernel
theorem dX8_goBack_31 : decode cX8_goBack 31 = .ok (.invokevirtual 283, 3) := by decide +kernel
theorem dX8_goBack_34 : decode cX8_goBack 34 = .ok (.invokevirtual 287, 3) := by decide +kernel
theorem dX8_goBack_37 : decode cX8_goBack 37 = .ok (.iconst 1, 1) := by decide +kernel
theorem dX8_goBack_38 : decode cX8_goBack 38 = .ok (.ireturn, 1) := by decide +kernel
theorem dX8_imageAt_0 : decode cX8_imageAt 0 = .ok (.iload_n 1, 1) := by decide +kernel
theorem dX8_imageAt_1 : decode cX8_imageAt 1 = .ok (.ifCond .ne 10, 3) := by decide +kernel
theorem dX8_imageAt_4 : decode cX8_imageAt 4 = .ok (.aload_n 0, 1) := by decide +kernel
theorem dX8_imageAt_5 : decode cX8_imageAt 5 = .ok (.getfield 42, 3) := by decide +kernel
theorem dX8_imageAt_8 : decode cX8_imageAt 8 = .ok (.goto 7, 3) := by decide +kernel
theorem dX8_imageAt_11 : decode cX8_imageAt 11 = .ok (.aload_n 0, 1) := by decide +kernel
theorem dX8_imageAt_12 : decode cX8_imageAt 12 = .ok (.getfield 45, 3) := by decide +kernel
theorem dX8_imageAt_15 : decode cX8_imageAt 15 = .ok (.areturn, 1) := by decide +kernel
theorem dX8_isLandlord_0 : decode cX8_isLandlord 0 = .ok (.iload_n 0, 1) := by decide +kernel
theorem dX8_isLandlord_1 : decode cX8_isLandlord 1 = .ok (.ifCond .lt 12, 3) := by decide +kernel
theorem dX8_isLandlord_4 : decode cX8_isLandlord 4 = .ok (.iload_n 0, 1) := by decide +kernel
theorem dX8_isLandlord_5 : decode cX8_isLandlord 5 = .ok (.iconst 4, 1) := by decide +kernel
theorem dX8_isLandlord_6 : decode cX8_isLandlord 6 = .ok (.if_icmp .ge 7, 3) := by decide +kernel
theorem dX8_isLandlord_9 : decode cX8_isLandlord 9 = .ok (.iconst 1, 1) := by decide +kernel
theorem dX8_isLandlord_10 : decode cX8_isLandlord 10 = .ok (.goto 4, 3) := by decide +kernel
theorem dX8_isLandlord_13 : decode cX8_isLandlord 13 = .ok (.iconst 0, 1) := by decide +kernel
theorem dX8_isLandlord_14 : decode cX8_isLandlord 14 = .ok (.ireturn, 1) := by decide +kernel
theorem dX8_isHour_0 : decode cX8_isHour 0 = .ok (.iload_n 0, 1) := by decide +kernel
theorem dX8_isHour_1 : decode cX8_isHour 1 = .ok (.ifCond .lt 13, 3) := by decide +kernel
theorem dX8_isHour_4 : decode cX8_isHour 4 = .ok (.iload_n 0, 1) := by decide +kernel
theorem dX8_isHour_5 : decode cX8_isHour 5 = .ok (.bipush 12, 2) := by decide +kernel
theorem dX8_isHour_7 : decode cX8_isHour 7 = .ok (.if_icmp .ge 7, 3) := by decide +kernel
theorem dX8_isHour_10 : decode cX8_isHour 10 = .ok (.iconst 1, 1) := by decide +kernel
theorem dX8_isHour_11 : decode cX8_isHour 11 = .ok (.goto 4, 3) := by decide +kernel
theorem dX8_isHour_14 : decode cX8_isHour 14 = .ok (.iconst 0, 1) := by decide +kernel
theorem dX8_isHour_15 : decode cX8_isHour 15 = .ok (.ireturn, 1) := by decide +kernel
theorem dX8_has_0 : decode cX8_has 0 = .ok (.iload_n 0, 1) := by decide +kernel
theorem dX8_has_1 : decode cX8_has 1 = .ok (.iload_n 1, 1) := by decide +kernel
theorem dX8_has_2 : decode cX8_has 2 = .ok (.ishr, 1) := by decide +kernel
theorem dX8_has_3 : decode cX8_has 3 = .ok (.iconst 1, 1) := by decide +kernel
theorem dX8_has_4 : decode cX8_has 4 = .ok (.iand, 1) := by decide +kernel
theorem dX8_has_5 : decode cX8_has 5 = .ok (.ifCond .eq 7, 3) := by decide +kernel
theorem dX8_has_8 : decode cX8_has 8 = .ok (.iconst 1, 1) := by decide +kernel
theorem dX8_has_9 : decode cX8_has 9 = .ok (.goto 4, 3) := by decide +kernel
theorem dX8_has_12 : decode cX8_has 12 = .ok (.iconst 0, 1) := by decide +kernel
theorem dX8_has_13 : decode cX8_has 13 = .ok (.ireturn, 1) := by decide +kernel
theorem dX8_sumOver_0 : decode cX8_sumOver 0 = .ok (.iconst 0, 1) := by decide +kernel
theorem dX8_sumOver_1 : decode cX8_sumOver 1 = .ok (.istore_n 2, 1) := by decide +kernel
theorem dX8_sumOver_2 : decode cX8_sumOver 2 = .ok (.iconst 0, 1) := by decide +kernel
theorem dX8_sumOver_3 : decode cX8_sumOver 3 = .ok (.istore_n 3, 1) := by decide +kernel
theorem dX8_sumOver_4 : decode cX8_sumOver 4 = .ok (.iload_n 3, 1) := by decide +kernel
theorem dX8_sumOver_5 : decode cX8_sumOver 5 = .ok (.aload_n 1, 1) := by decide +kernel
theorem dX8_sumOver_6 : decode cX8_sumOver 6 = .ok (.arraylength, 1) := by decide +kernel
theorem dX8_sumOver_7 : decode cX8_sumOver 7 = .ok (.if_icmp .ge 23, 3) := by decide +kernel
theorem dX8_sumOver_10 : decode cX8_sumOver 10 = .ok (.iload_n 0, 1) := by decide +kernel
theorem dX8_sumOver_11 : decode cX8_sumOver 11 = .ok (.iload_n 3, 1) := by decide +kernel
theorem dX8_sumOver_12 : decode cX8_sumOver 12 = .ok (.invokestatic 291, 3) := by decide +kernel
theorem dX8_sumOver_15 : decode cX8_sumOver 15 = .ok (.ifCond .eq 9, 3) := by decide +kernel
theorem dX8_sumOver_18 : decode cX8_sumOver 18 = .ok (.iload_n 2, 1) := by decide +kernel
theorem dX8_sumOver_19 : decode cX8_sumOver 19 = .ok (.aload_n 1, 1) := by decide +kernel
theorem dX8_sumOver_20 : decode cX8_sumOver 20 = .ok (.iload_n 3, 1) := by decide +kernel
theorem dX8_sumOver_21 : decode cX8_sumOver 21 = .ok (.iaload, 1) := by decide +kernel
theorem dX8_sumOver_22 : decode cX8_sumOver 22 = .ok (.iadd, 1) := by decide +kernel
theorem dX8_sumOver_23 : decode cX8_sumOver 23 = .ok (.istore_n 2, 1) := by decide +kernel
theorem dX8_sumOver_24 : decode cX8_sumOver 24 = .ok (.iinc 3 1, 3) := by decide +kernel
theorem dX8_sumOver_27 : decode cX8_sumOver 27 = .ok (.goto (-23), 3) := by decide +kernel
theorem dX8_sumOver_30 : decode cX8_sumOver 30 = .ok (.iload_n 2, 1) := by decide +kernel
theorem dX8_sumOver_31 : decode cX8_sumOver 31 = .ok (.ireturn, 1) := by decide +kernel
theorem dX8_copyRow_0 : decode cX8_copyRow 0 = .ok (.aload_n 0, 1) := by decide +kernel
theorem dX8_copyRow_1 : decode cX8_copyRow 1 = .ok (.arraylength, 1) := by decide +kernel
theorem dX8_copyRow_2 : decode cX8_copyRow 2 = .ok (.aload_n 1, 1) := by decide +kernel
theorem dX8_copyRow_3 : decode cX8_copyRow 3 = .ok (.arraylength, 1) := by decide +kernel
theorem dX8_copyRow_4 : decode cX8_copyRow 4 = .ok (.invokestatic 271, 3) := by decide +kernel
theorem dX8_copyRow_7 : decode cX8_copyRow 7 = .ok (.istore_n 2, 1) := by decide +kernel
theorem dX8_copyRow_8 : decode cX8_copyRow 8 = .ok (.iconst 0, 1) := by decide +kernel
theorem dX8_copyRow_9 : decode cX8_copyRow 9 = .ok (.istore_n 3, 1) := by decide +kernel
theorem dX8_copyRow_10 : decode cX8_copyRow 10 = .ok (.iload_n 3, 1) := by decide +kernel
theorem dX8_copyRow_11 : decode cX8_copyRow 11 = .ok (.iload_n 2, 1) := by decide +kernel
theorem dX8_copyRow_12 : decode cX8_copyRow 12 = .ok (.if_icmp .ge 15, 3) := by decide +kernel
theorem dX8_copyRow_15 : decode cX8_copyRow 15 = .ok (.aload_n 1, 1) := by decide +kernel
theorem dX8_copyRow_16 : decode cX8_copyRow 16 = .ok (.iload_n 3, 1) := by decide +kernel
theorem dX8_copyRow_17 : decode cX8_copyRow 17 = .ok (.aload_n 0, 1) := by decide +kernel
theorem dX8_copyRow_18 : decode cX8_copyRow 18 = .ok (.iload_n 3, 1) := by decide +kernel
theorem dX8_copyRow_19 : decode cX8_copyRow 19 = .ok (.iaload, 1) := by decide +kernel
theorem dX8_copyRow_20 : decode cX8_copyRow 20 = .ok (.iastore, 1) := by decide +kernel
theorem dX8_copyRow_21 : decode cX8_copyRow 21 = .ok (.iinc 3 1, 3) := by decide +kernel
theorem dX8_copyRow_24 : decode cX8_copyRow 24 = .ok (.goto (-14), 3) := by decide +kernel
theorem dX8_copyRow_27 : decode cX8_copyRow 27 = .ok (.return_, 1) := by decide +kernel
theorem dX9_init_0 : decode cX9_init 0 = .ok (.aload_n 0, 1) := by decide +kernel
theorem dX9_init_1 : decode cX9_init 1 = .ok (.invokespecial 1, 3) := by decide +kernel
theorem dX9_init_4 : decode cX9_init 4 = .ok (.aload_n 0, 1) := by decide +kernel
theorem dX9_init_5 : decode cX9_init 5 = .ok (.sipush 160, 3) := by decide +kernel
theorem dX9_init_8 : decode cX9_init 8 = .ok (.newarray .int, 2) := by decide +kernel
theorem dX9_init_10 : decode cX9_init 10 = .ok (.putfield 7, 3) := by decide +kernel
theorem dX9_init_13 : decode cX9_init 13 = .ok (.aload_n 0, 1) := by decide +kernel
theorem dX9_init_14 : decode cX9_init 14 = .ok (.iconst 2, 1) := by decide +kernel
theorem dX9_init_15 : decode cX9_init 15 = .ok (.newarray .boolean, 2) := by decide +kernel
theorem dX9_init_17 : decode cX9_init 17 = .ok (.putfield 13, 3) := by decide +kernel
theorem dX9_init_20 : decode cX9_init 20 = .ok (.aload_n 0, 1) := by decide +kernel
theorem dX9_init_21 : decode cX9_init 21 = .ok (.bipush 20, 2) := by decide +kernel
theorem dX9_init_23 : decode cX9_init 23 = .ok (.newarray .int, 2) := by decide +kernel
theorem dX9_init_25 : decode cX9_init 25 = .ok (.putfield 17, 3) := by decide +kernel
theorem dX9_init_28 : decode cX9_init 28 = .ok (.aload_n 0, 1) := by decide +kernel
theorem dX9_init_29 : decode cX9_init 29 = .ok (.bipush 20, 2) := by decide +kernel
theorem dX9_init_31 : decode cX9_init 31 = .ok (.newarray .int, 2) := by decide +kernel
theorem dX9_init_33 : decode cX9_init 33 = .ok (.putfield 20, 3) := by decide +kernel
theorem dX9_init_36 : decode cX9_init 36 = .ok (.aload_n 0, 1) := by decide +kernel
theorem dX9_init_37 : decode cX9_init 37 = .ok (.bipush 20, 2) := by decide +kernel
theorem dX9_init_39 : decode cX9_init 39 = .ok (.newarray .int, 2) := by decide +kernel
theorem dX9_init_41 : decode cX9_init 41 = .ok (.putfield 23, 3) := by decide +kernel
theorem dX9_init_44 : decode cX9_init 44 = .ok (.aload_n 0, 1) := by decide +kernel
theorem dX9_init_45 : decode cX9_init 45 = .ok (.bipush 20, 2) := by decide +kernel
theorem dX9_init_47 : decode cX9_init 47 = .ok (.newarray .int, 2) := by decide +kernel
theorem dX9_init_49 : decode cX9_init 49 = .ok (.putfield 26, 3) := by decide +kernel
theorem dX9_init_52 : decode cX9_init 52 = .ok (.aload_n 0, 1) := by decide +kernel
theorem dX9_init_53 : decode cX9_init 53 = .ok (.bipush 20, 2) := by decide +kernel
theorem dX9_init_55 : decode cX9_init 55 = .ok (.newarray .int, 2) := by decide +kernel
theorem dX9_init_57 : decode cX9_init 57 = .ok (.putfield 29, 3) := by decide +kernel
theorem dX9_init_60 : decode cX9_init 60 = .ok (.aload_n 0, 1) := by decide +kernel
theorem dX9_init_61 : decode cX9_init 61 = .ok (.bipush 20, 2) := by decide +kernel
theorem dX9_init_63 : decode cX9_init 63 = .ok (.newarray .int, 2) := by decide +kernel
theorem dX9_init_65 : decode cX9_init 65 = .ok (.putfield 32, 3) := by decide +kernel
theorem dX9_init_68 : decode cX9_init 68 = .ok (.aload_n 0, 1) := by decide +kernel
theorem dX9_init_69 : decode cX9_init 69 = .ok (.bipush 20, 2) := by decide +kernel
theorem dX9_init_71 : decode cX9_init 71 = .ok (.newarray .int, 2) := by decide +kernel
theorem dX9_init_73 : decode cX9_init 73 = .ok (.putfield 35, 3) := by decide +kernel
theorem dX9_init_76 : decode cX9_init 76 = .ok (.aload_n 0, 1) := by decide +kernel
theorem dX9_init_77 : decode cX9_init 77 = .ok (.bipush 16, 2) := by decide +kernel
theorem dX9_init_79 : decode cX9_init 79 = .ok (.newarray .int, 2) := by decide +kernel
theorem dX9_init_81 : decode cX9_init 81 = .ok (.putfield 38, 3) := by decide +kernel
theorem dX9_init_84 : decode cX9_init 84 = .ok (.aload_n 0, 1) := by decide +kernel
theorem dX9_init_85 : decode cX9_init 85 = .ok (.bipush 16, 2) := by decide +kernel
theorem dX9_init_87 : decode cX9_init 87 = .ok (.newarray .int, 2) := by decide +kernel
theorem dX9_init_89 : decode cX9_init 89 = .ok (.putfield 41, 3) := by decide +kernel
theorem dX9_init_92 : decode cX9_init 92 = .ok (.aload_n 0, 1) := by decide +kernel
theorem dX9_init_93 : decode cX9_init 93 = .ok (.bipush 16, 2) := by decide +kernel
theorem dX9_init_95 : decode cX9_init 95 = .ok (.newarray .int, 2) := by decide +kernel
theorem dX9_init_97 : decode cX9_init 97 = .ok (.putfield 44, 3) := by decide +kernel
theorem dX9_init_100 : decode cX9_init 100 = .ok (.aload_n 0, 1) := by decide +kernel
theorem dX9_init_101 : decode cX9_init 101 = .ok (.bipush 8, 2) := by decide +kernel
theorem dX9_init_103 : decode cX9_init 103 = .ok (.newarray .int, 2) := by decide +kernel
theorem dX9_init_105 : decode cX9_init 105 = .ok (.putfield 47, 3) := by decide +kernel
theorem dX9_init_108 : decode cX9_init 108 = .ok (.aload_n 0, 1) := by decide +kernel
theorem dX9_init_109 : decode cX9_init 109 = .ok (.sipush 400, 3) := by decide +kernel
theorem dX9_init_112 : decode cX9_init 112 = .ok (.newarray .int, 2) := by decide +kernel
theorem dX9_init_114 : decode cX9_init 114 = .ok (.putfield 50, 3) := by decide +kernel
theorem dX9_init_117 : decode cX9_init 117 = .ok (.aload_n 0, 1) := by decide +kernel
theorem dX9_init_118 : decode cX9_init 118 = .ok (.iconst (-1), 1) := by decide +kernel
theorem dX9_init_119 : decode cX9_init 119 = .ok (.putfield 53, 3) := by decide +kernel
theorem dX9_init_122 : decode cX9_init 122 = .ok (.aload_n 0, 1) := by decide +kernel
theorem dX9_init_123 : decode cX9_init 123 = .ok (.bipush 64, 2) := by decide +kernel
theorem dX9_init_125 : decode cX9_init 125 = .ok (.newarray .int, 2) := by decide +kernel
theorem dX9_init_127 : decode cX9_init 127 = .ok (.putfield 57, 3) := by decide +kernel
theorem dX9_init_130 : decode cX9_init 130 = .ok (.aload_n 0, 1) := by decide +kernel
theorem dX9_init_131 : decode cX9_init 131 = .ok (.sipush 12288, 3) := by decide +kernel
theorem dX9_init_134 : decode cX9_init 134 = .ok (.newarray .boolean, 2) := by decide +kernel
theorem dX9_init_136 : decode cX9_init 136 = .ok (.putfield 60, 3) := by decide +kernel
theorem dX9_init_139 : decode cX9_init 139 = .ok (.aload_n 0, 1) := by decide +kernel
theorem dX9_init_140 : decode cX9_init 140 = .ok (.sipush 13312, 3) := by decide +kernel
theorem dX9_init_143 : decode cX9_init 143 = .ok (.newarray .int, 2) := by decide +kernel
theorem dX9_init_145 : decode cX9_init 145 = .ok (.putfield 63, 3) := by decide +kernel
theorem dX9_init_148 : decode cX9_init 148 = .ok (.aload_n 0, 1) := by decide +kernel
theorem dX9_init_149 : decode cX9_init 149 = .ok (.sipush 1024, 3) := by decide +kernel
theorem dX9_init_152 : decode cX9_init 152 = .ok (.newarray .boolean, 2) := by decide +kernel
theorem dX9_init_154 : decode cX9_init 154 = .ok (.putfield 66, 3) := by decide +kernel
theorem dX9_init_157 : decode cX9_init 157 = .ok (.aload_n 0, 1) := by decide +kernel
theorem dX9_init_158 : decode cX9_init 158 = .ok (.sipush 1024, 3) := by decide +kernel
theorem dX9_init_161 : decode cX9_init 161 = .ok (.newarray .boolean, 2) := by decide +kernel
theorem dX9_init_163 : decode cX9_init 163 = .ok (.putfield 69, 3) := by decide +kernel
theorem dX9_init_166 : decode cX9_init 166 = .ok (.aload_n 0, 1) := by decide +kernel
theorem dX9_init_167 : decode cX9_init 167 = .ok (.bipush 12, 2) := by decide +kernel
theorem dX9_init_169 : decode cX9_init 169 = .ok (.newarray .int, 2) := by decide +kernel
theorem dX9_init_171 : decode cX9_init 171 = .ok (.putfield 72, 3) := by decide +kernel
theorem dX9_init_174 : decode cX9_init 174 = .ok (.aload_n 0, 1) := by decide +kernel
theorem dX9_init_175 : decode cX9_init 175 = .ok (.bipush 20, 2) := by decide +kernel
theorem dX9_init_177 : decode cX9_init 177 = .ok (.newarray .int, 2) := by decide +kernel
theorem dX9_init_179 : decode cX9_init 179 = .ok (.putfield 75, 3) := by decide +kernel
theorem dX9_init_182 : decode cX9_init 182 = .ok (.aload_n 0, 1) := by decide +kernel
theorem dX9_init_183 : decode cX9_init 183 = .ok (.bipush 20, 2) := by decide +kernel
theorem dX9_init_185 : decode cX9_init 185 = .ok (.newarray .int, 2) := by decide +kernel
theorem dX9_init_187 : decode cX9_init 187 = .ok (.putfield 78, 3) := by decide +kernel
theorem dX9_init_190 : decode cX9_init 190 = .ok (.aload_n 0, 1) := by decide +kernel
theorem dX9_init_191 : decode cX9_init 191 = .ok (.bipush 40, 2) := by decide +kernel
theorem dX9_init_193 : decode cX9_init 193 = .ok (.newarray .int, 2) := by decide +kernel
theorem dX9_init_195 : decode cX9_init 195 = .ok (.putfield 81, 3) := by decide +kernel
theorem dX9_init_198 : decode cX9_init 198 = .ok (.aload_n 0, 1) := by decide +kernel
theorem dX9_init_199 : decode cX9_init 199 = .ok (.bipush 40, 2) := by decide +kernel
theorem dX9_init_201 : decode cX9_init 201 = .ok (.newarray .int, 2) := by decide +kernel
theorem dX9_init_203 : decode cX9_init 203 = .ok (.putfield 84, 3) := by decide +kernel
theorem dX9_init_206 : decode cX9_init 206 = .ok (.return_, 1) := by decide +kernel
theorem dX9_in_0 : decode cX9_in 0 = .ok (.lload_n 0, 1) := by decide +kernel
theorem dX9_in_1 : decode cX9_in 1 = .ok (.lload_n 2, 1) := by decide +kernel
theorem dX9_in_2 : decode cX9_in 2 = .ok (.lcmp, 1) := by decide +kernel
theorem dX9_in_3 : decode cX9_in 3 = .ok (.ifCond .lt 14, 3) := by decide +kernel
theorem dX9_in_6 : decode cX9_in 6 = .ok (.lload_n 0, 1) := by decide +kernel
theorem dX9_in_7 : decode cX9_in 7 = .ok (.lload 4, 2) := by decide +kernel
theorem dX9_in_9 : decode cX9_in 9 = .ok (.lcmp, 1) := by decide +kernel
theorem dX9_in_10 : decode cX9_in 10 = .ok (.ifCond .gt 7, 3) := by decide +kernel
theorem dX9_in_13 : decode cX9_in 13 = .ok (.iconst 1, 1) := by decide +kernel
theorem dX9_in_14 : decode cX9_in 14 = .ok (.goto 4, 3) := by decide +kernel
theorem dX9_in_17 : decode cX9_in 17 = .ok (.iconst 0, 1) := by decide +kernel
theorem dX9_in_18 : decode cX9_in 18 = .ok (.ireturn, 1) := by decide +kernel
theorem dX9_one_0 : decode cX9_one 0 = .ok (.iload_n 0, 1) := by decide +kernel
theorem dX9_one_1 : decode cX9_one 1 = .ok (.ifCond .eq 7, 3) := by decide +kernel
theorem dX9_one_4 : decode cX9_one 4 = .ok (.iconst 1, 1) := by decide +kernel
theorem dX9_one_5 : decode cX9_one 5 = .ok (.goto 4, 3) := by decide +kernel
theorem dX9_one_8 : decode cX9_one 8 = .ok (.iconst 0, 1) := by decide +kernel
theorem dX9_one_9 : decode cX9_one 9 = .ok (.ireturn, 1) := by decide +kernel
theorem dX9_has_0 : decode cX9_has 0 = .ok (.iload_n 0, 1) := by decide +kernel
theorem dX9_has_1 : decode cX9_has 1 = .ok (.iload_n 1, 1) := by decide +kernel
theorem dX9_has_2 : decode cX9_has 2 = .ok (.ishr, 1) := by decide +kernel
theorem dX9_has_3 : decode cX9_has 3 = .ok (.iconst 1, 1) := by decide +kernel
theorem dX9_has_4 : decode cX9_has 4 = .ok (.iand, 1) := by decide +kernel
theorem dX9_has_5 : decode cX9_has 5 = .ok (.iconst 1, 1) := by decide +kernel
theorem dX9_has_6 : decode cX9_has 6 = .ok (.if_icmp .ne 7, 3) := by decide +kernel
theorem dX9_has_9 : decode cX9_has 9 = .ok (.iconst 1, 1) := by decide +kernel
theorem dX9_has_10 : decode cX9_has 10 = .ok (.goto 4, 3) := by decide +kernel
theorem dX9_has_13 : decode cX9_has 13 = .ok (.iconst 0, 1) := by decide +kernel
theorem dX9_has_14 : decode cX9_has 14 = .ok (.ireturn, 1) := by decide +kernel
theorem dX9_ones_0 : decode cX9_ones 0 = .ok (.iconst 0, 1) := by decide +kernel
theorem dX9_ones_1 : decode cX9_ones 1 = .ok (.istore_n 1, 1) := by decide +kernel
theorem dX9_ones_2 : decode cX9_ones 2 = .ok (.iconst 0, 1) := by decide +kernel
theorem dX9_ones_3 : decode cX9_ones 3 = .ok (.istore_n 2, 1) := by decide +kernel
theorem dX9_ones_4 : decode cX9_ones 4 = .ok (.iload_n 2, 1) := by decide +kernel
theorem dX9_ones_5 : decode cX9_ones 5 = .ok (.bipush 28, 2) := by decide +kernel
theorem dX9_ones_7 : decode cX9_ones 7 = .ok (.if_icmp .ge 17, 3) := by decide +kernel
theorem dX9_ones_10 : decode cX9_ones 10 = .ok (.iload_n 1, 1) := by decide +kernel
theorem dX9_ones_11 : decode cX9_ones 11 = .ok (.iload_n 0, 1) := by decide +kernel
theorem dX9_ones_12 : decode cX9_ones 12 = .ok (.iload_n 2, 1) := by decide +kernel
theorem dX9_ones_13 : decode cX9_ones 13 = .ok (.ishr, 1) := by decide +kernel
theorem dX9_ones_14 : decode cX9_ones 14 = .ok (.iconst 1, 1) := by decide +kernel
theorem dX9_ones_15 : decode cX9_ones 15 = .ok (.iand, 1) := by decide +kernel
theorem dX9_ones_16 : decode cX9_ones 16 = .ok (.iadd, 1) := by decide +kernel
theorem dX9_ones_17 : decode cX9_ones 17 = .ok (.istore_n 1, 1) := by decide +kernel
theorem dX9_ones_18 : decode cX9_ones 18 = .ok (.iinc 2 1, 3) := by decide +kernel
theorem dX9_ones_21 : decode cX9_ones 21 = .ok (.goto (-17), 3) := by decide +kernel
theorem dX9_ones_24 : decode cX9_ones 24 = .ok (.iload_n 1, 1) := by decide +kernel
theorem dX9_ones_25 : decode cX9_ones 25 = .ok (.ireturn, 1) := by decide +kernel
theorem dX9_feed_0 : decode cX9_feed 0 = .ok (.iload_n 1, 1) := by decide +kernel
theorem dX9_feed_1 : decode cX9_feed 1 = .ok (.i2l, 1) := by decide +kernel
theorem dX9_feed_2 : decode cX9_feed 2 = .ok (.lconst 1, 1) := by decide +kernel
theorem dX9_feed_3 : decode cX9_feed 3 = .ok (.ldc2_w 87, 3) := by decide +kernel
theorem dX9_feed_6 : decode cX9_feed 6 = .ok (.invokestatic 89, 3) := by decide +kernel
theorem dX9_feed_9 : decode cX9_feed 9 = .ok (.ifCond .ne 6, 3) := by decide +kernel
theorem dX9_feed_12 : decode cX9_feed 12 = .ok (.ldc 93, 2) := by decide +kernel
theorem dX9_feed_14 : decode cX9_feed 14 = .ok (.ireturn, 1) := by decide +kernel
theorem dX9_feed_15 : decode cX9_feed 15 = .ok (.aload_n 0, 1) := by decide +kernel
theorem dX9_feed_16 : decode cX9_feed 16 = .ok (.getfield 94, 3) := by decide +kernel
theorem dX9_feed_19 : decode cX9_feed 19 = .ok (.iload_n 1, 1) := by decide +kernel
theorem dX9_feed_20 : decode cX9_feed 20 = .ok (.iadd, 1) := by decide +kernel
theorem dX9_feed_21 : decode cX9_feed 21 = .ok (.sipush 400, 3) := by decide +kernel
theorem dX9_feed_24 : decode cX9_feed 24 = .ok (.if_icmp .le 6, 3) := by decide +kernel
theorem dX9_feed_27 : decode cX9_feed 27 = .ok (.ldc 97, 2) := by decide +kernel
theorem dX9_feed_29 : decode cX9_feed 29 = .ok (.ireturn, 1) := by decide +kernel
theorem dX9_feed_30 : decode cX9_feed 30 = .ok (.iload_n 1, 1) := by decide +kernel
theorem dX9_feed_31 : decode cX9_feed 31 = .ok (.iconst 1, 1) := by decide +kernel
theorem dX9_feed_32 : decode cX9_feed 32 = .ok (.isub, 1) := by decide +kernel
theorem dX9_feed_33 : decode cX9_feed 33 = .ok (.istore 4, 2) := by decide +kernel
theorem dX9_feed_35 : decode cX9_feed 35 = .ok (.iload 4, 2) := by decide +kernel
theorem dX9_feed_37 : decode cX9_feed 37 = .ok (.ifCond .lt 40, 3) := by decide +kernel
theorem dX9_feed_40 : decode cX9_feed 40 = .ok (.aload_n 0, 1) := by decide +kernel
theorem dX9_feed_41 : decode cX9_feed 41 = .ok (.getfield 50, 3) := by decide +kernel
theorem dX9_feed_44 : decode cX9_feed 44 = .ok (.aload_n 0, 1) := by decide +kernel
theorem dX9_feed_45 : decode cX9_feed 45 = .ok (.getfield 94, 3) := by decide +kernel
theorem dX9_feed_48 : decode cX9_feed 48 = .ok (.lload_n 2, 1) := by decide +kernel
theorem dX9_feed_49 : decode cX9_feed 49 = .ok (.bipush 8, 2) := by decide +kernel
theorem dX9_feed_51 : decode cX9_feed 51 = .ok (.iload 4, 2) := by decide +kernel
theorem dX9_feed_53 : decode cX9_feed 53 = .ok (.imul, 1) := by decide +kernel
theorem dX9_feed_54 : decode cX9_feed 54 = .ok (.lshr, 1) := by decide +kernel
theorem dX9_feed_55 : decode cX9_feed 55 = .ok (.ldc2_w 98, 3) := by decide +kernel
theorem dX9_feed_58 : decode cX9_feed 58 = .ok (.land, 1) := by decide +kernel
theorem dX9_feed_59 : decode cX9_feed 59 = .ok (.l2i, 1) := by decide +kernel
theorem dX9_feed_60 : decode cX9_feed 60 = .ok (.iastore, 1) := by decide +kernel
theorem dX9_feed_61 : decode cX9_feed 61 = .ok (.aload_n 0, 1) := by decide +kernel
theorem dX9_feed_62 : decode cX9_feed 62 = .ok (.dup, 1) := by decide +kernel
theorem dX9_feed_63 : decode cX9_feed 63 = .ok (.getfield 94, 3) := by decide +kernel
theorem dX9_feed_66 : decode cX9_feed 66 = .ok (.iconst 1, 1) := by decide +kernel
theorem dX9_feed_67 : decode cX9_feed 67 = .ok (.iadd, 1) := by decide +kernel
theorem dX9_feed_68 : decode cX9_feed 68 = .ok (.putfield 94, 3) := by decide +kernel
theorem dX9_feed_71 : decode cX9_feed 71 = .ok (.iinc 4 (-1), 3) := by decide +kernel
theorem dX9_feed_74 : decode cX9_feed 74 = .ok (.goto (-39), 3) := by decide +kernel
theorem dX9_feed_77 : decode cX9_feed 77 = .ok (.aload_n 0, 1) := by decide +kernel
theorem dX9_feed_78 : decode cX9_feed 78 = .ok (.getfield 94, 3) := by decide +kernel
theorem dX9_feed_81 : decode cX9_feed 81 = .ok (.ireturn, 1) := by decide +kernel
theorem dX9_here_0 : decode cX9_here 0 = .ok (.aload_n 0, 1) := by decide +kernel
theorem dX9_here_1 : decode cX9_here 1 = .ok (.getfield 100, 3) := by decide +kernel
theorem dX9_here_4 : decode cX9_here 4 = .ok (.aload_n 0, 1) := by decide +kernel
theorem dX9_here_5 : decode cX9_here 5 = .ok (.getfield 94, 3) := by decide +kernel
theorem dX9_here_8 : decode cX9_here 8 = .ok (.if_icmp .ge 30, 3) := by decide +kernel
theorem dX9_here_11 : decode cX9_here 11 = .ok (.aload_n 0, 1) := by decide +kernel
theorem dX9_here_12 : decode cX9_here 12 = .ok (.getfield 50, 3) := by decide +kernel
theorem dX9_here_15 : decode cX9_here 15 = .ok (.aload_n 0, 1) := by decide +kernel
theorem dX9_here_16 : decode cX9_here 16 = .ok (.getfield 100, 3) := by decide +kernel
theorem dX9_here_19 : decode cX9_here 19 = .ok (.iaload, 1) := by decide +kernel
theorem dX9_here_20 : decode cX9_here 20 = .ok (.bipush 32, 2) := by decide +kernel
theorem dX9_here_22 : decode cX9_here 22 = .ok (.if_icmp .ne 16, 3) := by decide +kernel
theorem dX9_here_25 : decode cX9_here 25 = .ok (.aload_n 0, 1) := by decide +kernel
theorem dX9_here_26 : decode cX9_here 26 = .ok (.dup, 1) := by decide +kernel
theorem dX9_here_27 : decode cX9_here 27 = .ok (.getfield 100, 3) := by decide +kernel
theorem dX9_here_30 : decode cX9_here 30 = .ok (.iconst 1, 1) := by decide +kernel
theorem dX9_here_31 : decode cX9_here 31 = .ok (.iadd, 1) := by decide +kernel
theorem dX9_here_32 : decode cX9_here 32 = .ok (.putfield 100, 3) := by decide +kernel
theorem dX9_here_35 : decode cX9_here 35 = .ok (.goto (-35), 3) := by decide +kernel
theorem dX9_here_38 : decode cX9_here 38 = .ok (.aload_n 0, 1) := by decide +kernel
theorem dX9_here_39 : decode cX9_here 39 = .ok (.getfield 100, 3) := by decide +kernel
theorem dX9_here_42 : decode cX9_here 42 = .ok (.aload_n 0, 1) := by decide +kernel
theorem dX9_here_43 : decode cX9_here 43 = .ok (.getfield 94, 3) := by decide +kernel
theorem dX9_here_46 : decode cX9_here 46 = .ok (.if_icmp .ge 15, 3) := by decide +kernel
theorem dX9_here_49 : decode cX9_here 49 = .ok (.aload_n 0, 1) := by decide +kernel
theorem dX9_here_50 : decode cX9_here 50 = .ok (.getfield 50, 3) := by decide +kernel
theorem dX9_here_53 : decode cX9_here 53 = .ok (.aload_n 0, 1) := by decide +kernel
theorem dX9_here_54 : decode cX9_here 54 = .ok (.getfield 100, 3) := by decide +kernel
theorem dX9_here_57 : decode cX9_here 57 = .ok (.iaload, 1) := by decide +kernel
theorem dX9_here_58 : decode cX9_here 58 = .ok (.goto 4, 3) := by decide +kernel
theorem dX9_here_61 : decode cX9_here 61 = .ok (.iconst (-1), 1) := by decide +kernel
theorem dX9_here_62 : decode cX9_here 62 = .ok (.ireturn, 1) := by decide +kernel
theorem dX9_want_0 : decode cX9_want 0 = .ok (.iload_n 1, 1) := by decide +kernel
theorem dX9_want_1 : decode cX9_want 1 = .ok (.ifCond .ne 20, 3) := by decide +kernel
theorem dX9_want_4 : decode cX9_want 4 = .ok (.aload_n 0, 1) := by decide +kernel
theorem dX9_want_5 : decode cX9_want 5 = .ok (.getfield 103, 3) := by decide +kernel
theorem dX9_want_8 : decode cX9_want 8 = .ok (.ifCond .ne 13, 3) := by decide +kernel
theorem dX9_want_11 : decode cX9_want 11 = .ok (.aload_n 0, 1) := by decide +kernel
theorem dX9_want_12 : decode cX9_want 12 = .ok (.iload_n 2, 1) := by decide +kernel
theorem dX9_want_13 : decode cX9_want 13 = .ok (.putfield 103, 3) := by decide +kernel
theorem dX9_want_16 : decode cX9_want 16 = .ok (.aload_n 0, 1) := by decide +kernel
theorem dX9_want_17 : decode cX9_want 17 = .ok (.iload_n 3, 1) := by decide +kernel
theorem dX9_want_18 : decode cX9_want 18 = .ok (.putfield 53, 3) := by decide +kernel
theorem dX9_want_21 : decode cX9_want 21 = .ok (.aload_n 0, 1) := by decide +kernel
theorem dX9_want_22 : decode cX9_want 22 = .ok (.getfield 103, 3) := by decide +kernel
theorem dX9_want_25 : decode cX9_want 25 = .ok (.ifCond .ne 7, 3) := by decide +kernel
theorem dX9_want_28 : decode cX9_want 28 = .ok (.iconst 1, 1) := by decide +kernel
theorem dX9_want_29 : decode cX9_want 29 = .ok (.goto 4, 3) := by decide +kernel
theorem dX9_want_32 : decode cX9_want 32 = .ok (.iconst 0, 1) := by decide +kernel
theorem dX9_want_33 : decode cX9_want 33 = .ok (.ireturn, 1) := by decide +kernel
theorem dX9_takeWord_0 : decode cX9_takeWord 0 = .ok (.aload_n 0, 1) := by decide +kernel
theorem dX9_takeWord_1 : decode cX9_takeWord 1 = .ok (.invokevirtual 106, 3) := by decide +kernel
theorem dX9_takeWord_4 : decode cX9_takeWord 4 = .ok (.istore_n 1, 1) := by decide +kernel
theorem dX9_takeWord_5 : decode cX9_takeWord 5 = .ok (.aload_n 0, 1) := by decide +kernel
theorem dX9_takeWord_6 : decode cX9_takeWord 6 = .ok (.aload_n 0, 1) := by decide +kernel
theorem dX9_takeWord_7 : decode cX9_takeWord 7 = .ok (.getfield 100, 3) := by decide +kernel
theorem dX9_takeWord_10 : decode cX9_takeWord 10 = .ok (.putfield 110, 3) := by decide +kernel
theorem dX9_takeWord_13 : decode cX9_takeWord 13 = .ok (.aload_n 0, 1) := by decide +kernel
theorem dX9_takeWord_14 : decode cX9_takeWord 14 = .ok (.getfield 100, 3) := by decide +kernel
theorem dX9_takeWord_17 : decode cX9_takeWord 17 = .ok (.aload_n 0, 1) := by decide +kernel
theorem dX9_takeWord_18 : decode cX9_takeWord 18 = .ok (.getfield 94, 3) := by decide +kernel
theorem dX9_takeWord_21 : decode cX9_takeWord 21 = .ok (.if_icmp .ge 38, 3) := by decide +kernel
theorem dX9_takeWord_24 : decode cX9_takeWord 24 = .ok (.aload_n 0, 1) := by decide +kernel
theorem dX9_takeWord_25 : decode cX9_takeWord 25 = .ok (.getfield 50, 3) := by decide +kernel
theorem dX9_takeWord_28 : decode cX9_takeWord 28 = .ok (.aload_n 0, 1) := by decide +kernel
theorem dX9_takeWord_29 : decode cX9_takeWord 29 = .ok (.getfield 100, 3) := by decide +kernel
theorem dX9_takeWord_32 : decode cX9_takeWord 32 = .ok (.iaload, 1) := by decide +kernel
theorem dX9_takeWord_33 : decode cX9_takeWord 33 = .ok (.i2l, 1) := by decide +kernel
theorem dX9_takeWord_34 : decode cX9_takeWord 34 = .ok (.ldc2_w 113, 3) := by decide +kernel
theorem dX9_takeWord_37 : decode cX9_takeWord 37 = .ok (.ldc2_w 115, 3) := by decide +kernel
theorem dX9_takeWord_40 : decode cX9_takeWord 40 = .ok (.invokestatic 89, 3) := by decide +kernel
theorem dX9_takeWord_43 : decode cX9_takeWord 43 = .ok (.ifCond .eq 16, 3) := by decide +kernel
theorem dX9_takeWord_46 : decode cX9_takeWord 46 = .ok (.aload_n 0, 1) := by decide +kernel
theorem dX9_takeWord_47 : decode cX9_takeWord 47 = .ok (.dup, 1) := by decide +kernel
theorem dX9_takeWord_48 : decode cX9_takeWord 48 = .ok (.getfield 100, 3) := by decide +kernel
theorem dX9_takeWord_51 : decode cX9_takeWord 51 = .ok (.iconst 1, 1) := by decide +kernel
theorem dX9_takeWord_52 : decode cX9_takeWord 52 = .ok (.iadd, 1) := by decide +kernel
theorem dX9_takeWord_53 : decode cX9_takeWord 53 = .ok (.putfield 100, 3) := by decide +kernel
theorem dX9_takeWord_56 : decode cX9_takeWord 56 = .ok (.goto (-43), 3) := by decide +kernel
theorem dX9_takeWord_59 : decode cX9_takeWord 59 = .ok (.aload_n 0, 1) := by decide +kernel
theorem dX9_takeWord_60 : decode cX9_takeWord 60 = .ok (.aload_n 0, 1) := by decide +kernel
theorem dX9_takeWord_61 : decode cX9_takeWord 61 = .ok (.getfield 100, 3) := by decide +kernel
theorem dX9_takeWord_64 : decode cX9_takeWord 64 = .ok (.aload_n 0, 1) := by decide +kernel
theorem dX9_takeWord_65 : decode cX9_takeWord 65 = .ok (.getfield 110, 3) := by decide +kernel
theorem dX9_takeWord_68 : decode cX9_takeWord 68 = .ok (.isub, 1) := by decide +kernel
theorem dX9_takeWord_69 : decode cX9_takeWord 69 = .ok (.putfield 117, 3) := by decide +kernel
theorem dX9_takeWord_72 : decode cX9_takeWord 72 = .ok (.return_, 1) := by decide +kernel
theorem dX9_isWord_0 : decode cX9_isWord 0 = .ok (.aload_n 0, 1) := by decide +kernel
theorem dX9_isWord_1 : decode cX9_isWord 1 = .ok (.getfield 117, 3) := by decide +kernel
theorem dX9_isWord_4 : decode cX9_isWord 4 = .ok (.iload_n 1, 1) := by decide +kernel
theorem dX9_isWord_5 : decode cX9_isWord 5 = .ok (.if_icmp .ne 7, 3) := by decide +kernel
theorem dX9_isWord_8 : decode cX9_isWord 8 = .ok (.iconst 1, 1) := by decide +kernel
theorem dX9_isWord_9 : decode cX9_isWord 9 = .ok (.goto 4, 3) := by decide +kernel
theorem dX9_isWord_12 : decode cX9_isWord 12 = .ok (.iconst 0, 1) := by decide +kernel
theorem dX9_isWord_13 : decode cX9_isWord 13 = .ok (.istore 7, 2) := by decide +kernel
theorem dX9_isWord_15 : decode cX9_isWord 15 = .ok (.iconst 0, 1) := by decide +kernel
theorem dX9_isWord_16 : decode cX9_isWord 16 = .ok (.istore 8, 2) := by decide +kernel
theorem dX9_isWord_18 : decode cX9_isWord 18 = .ok (.iload 8, 2) := by decide +kernel
theorem dX9_isWord_20 : decode cX9_isWord 20 = .ok (.iload_n 1, 1) := by decide +kernel
theorem dX9_isWord_21 : decode cX9_isWord 21 = .ok (.if_icmp .ge 79, 3) := by decide +kernel
theorem dX9_isWord_24 : decode cX9_isWord 24 = .ok (.iload 7, 2) := by decide +kernel
theorem dX9_isWord_26 : decode cX9_isWord 26 = .ok (.ifCond .eq 74, 3) := by decide +kernel
theorem dX9_isWord_29 : decode cX9_isWord 29 = .ok (.aload_n 0, 1) := by decide +kernel
theorem dX9_isWord_30 : decode cX9_isWord 30 = .ok (.getfield 50, 3) := by decide +kernel
theorem dX9_isWord_33 : decode cX9_isWord 33 = .ok (.aload_n 0, 1) := by decide +kernel
theorem dX9_isWord_34 : decode cX9_isWord 34 = .ok (.getfield 110, 3) := by decide +kernel
theorem dX9_isWord_37 : decode cX9_isWord 37 = .ok (.iload 8, 2) := by decide +kernel
theorem dX9_isWord_39 : decode cX9_isWord 39 = .ok (.iadd, 1) := by decide +kernel
theorem dX9_isWord_40 : decode cX9_isWord 40 = .ok (.iaload, 1) := by decide +kernel
theorem dX9_isWord_41 : decode cX9_isWord 41 = .ok (.iload 8, 2) := by decide +kernel
theorem dX9_isWord_43 : decode cX9_isWord 43 = .ok (.ifCond .ne 7, 3) := by decide +kernel
theorem dX9_isWord_46 : decode cX9_isWord 46 = .ok (.iload_n 2, 1) := by decide +kernel
theorem dX9_isWord_47 : decode cX9_isWord 47 = .ok (.goto 37, 3) := by decide +kernel
theorem dX9_isWord_50 : decode cX9_isWord 50 = .ok (.iload 8, 2) := by decide +kernel
theorem dX9_isWord_52 : decode cX9_isWord 52 = .ok (.iconst 1, 1) := by decide +kernel
theorem dX9_isWord_53 : decode cX9_isWord 53 = .ok (.if_icmp .ne 7, 3) := by decide +kernel
theorem dX9_isWord_56 : decode cX9_isWord 56 = .ok (.iload_n 3, 1) := by decide +kernel
theorem dX9_isWord_57 : decode cX9_isWord 57 = .ok (.goto 27, 3) := by decide +kernel
theorem dX9_isWord_60 : decode cX9_isWord 60 = .ok (.iload 8, 2) := by decide +kernel
theorem dX9_isWord_62 : decode cX9_isWord 62 = .ok (.iconst 2, 1) := by decide +kernel
theorem dX9_isWord_63 : decode cX9_isWord 63 = .ok (.if_icmp .ne 8, 3) := by decide +kernel
theorem dX9_isWord_66 : decode cX9_isWord 66 = .ok (.iload 4, 2) := by decide +kernel
theorem dX9_isWord_68 : decode cX9_isWord 68 = .ok (.goto 16, 3) := by decide +kernel
theorem dX9_isWord_71 : decode cX9_isWord 71 = .ok (.iload 8, 2) := by decide +kernel
theorem dX9_isWord_73 : decode cX9_isWord 73 = .ok (.iconst 3, 1) := by decide +kernel
theorem dX9_isWord_74 : decode cX9_isWord 74 = .ok (.if_icmp .ne 8, 3) := by decide +kernel
theorem dX9_isWord_77 : decode cX9_isWord 77 = .ok (.iload 5, 2) := by decide +kernel
theorem dX9_isWord_79 : decode cX9_isWord 79 = .ok (.goto 5, 3) := by decide +kernel
theorem dX9_isWord_82 : decode cX9_isWord 82 = .ok (.iload 6, 2) := by decide +kernel
theorem dX9_isWord_84 : decode cX9_isWord 84 = .ok (.if_icmp .ne 7, 3) := by decide +kernel
theorem dX9_isWord_87 : decode cX9_isWord 87 = .ok (.iconst 1, 1) := by decide +kernel
theorem dX9_isWord_88 : decode cX9_isWord 88 = .ok (.goto 4, 3) := by decide +kernel
theorem dX9_isWord_91 : decode cX9_isWord 91 = .ok (.iconst 0, 1) := by decide +kernel
theorem dX9_isWord_92 : decode cX9_isWord 92 = .ok (.istore 7, 2) := by decide +kernel
theorem dX9_isWord_94 : decode cX9_isWord 94 = .ok (.iinc 8 1, 3) := by decide +kernel
theorem dX9_isWord_97 : decode cX9_isWord 97 = .ok (.goto (-79), 3) := by decide +kernel
theorem dX9_isWord_100 : decode cX9_isWord 100 = .ok (.iload 7, 2) := by decide +kernel
theorem dX9_isWord_102 : decode cX9_isWord 102 = .ok (.ireturn, 1) := by decide +kernel
theorem dX9_takeNumber_0 : decode cX9_takeNumber 0 = .ok (.aload_n 0, 1) := by decide +kernel
theorem dX9_takeNumber_1 : decode cX9_takeNumber 1 = .ok (.getfield 103, 3) := by decide +kernel
theorem dX9_takeNumber_4 : decode cX9_takeNumber 4 = .ok (.ifCond .le 5, 3) := by decide +kernel
theorem dX9_takeNumber_7 : decode cX9_takeNumber 7 = .ok (.iconst 0, 1) := by decide +kernel
theorem dX9_takeNumber_8 : decode cX9_takeNumber 8 = .ok (.ireturn, 1) := by decide +kernel
theorem dX9_takeNumber_9 : decode cX9_takeNumber 9 = .ok (.aload_n 0, 1) := by decide +kernel
theorem dX9_takeNumber_10 : decode cX9_takeNumber 10 = .ok (.invokevirtual 106, 3) := by decide +kernel
theorem dX9_takeNumber_13 : decode cX9_takeNumber 13 = .ok (.istore_n 3, 1) := by decide +kernel
theorem dX9_takeNumber_14 : decode cX9_takeNumber 14 = .ok (.aload_n 0, 1) := by decide +kernel
theorem dX9_takeNumber_15 : decode cX9_takeNumber 15 = .ok (.aload_n 0, 1) := by decide +kernel
theorem dX9_takeNumber_16 : decode cX9_takeNumber 16 = .ok (.getfield 100, 3) := by decide +kernel
theorem dX9_takeNumber_19 : decode cX9_takeNumber 19 = .ok (.putfield 110, 3) := by decide +kernel
theorem dX9_takeNumber_22 : decode cX9_takeNumber 22 = .ok (.aload_n 0, 1) := by decide +kernel
