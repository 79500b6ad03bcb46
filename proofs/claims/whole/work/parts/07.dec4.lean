theorem dX9_findLeast_49 : decode cX9_findLeast 49 = .ok (.iastore, 1) := by decide +kernel
theorem dX9_findLeast_50 : decode cX9_findLeast 50 = .ok (.iconst 1, 1) := by decide +kernel
theorem dX9_findLeast_51 : decode cX9_findLeast 51 = .ok (.istore_n 3, 1) := by decide +kernel
theorem dX9_findLeast_52 : decode cX9_findLeast 52 = .ok (.iload_n 3, 1) := by decide +kernel
theorem dX9_findLeast_53 : decode cX9_findLeast 53 = .ok (.sipush 1024, 3) := by decide +kernel
theorem dX9_findLeast_56 : decode cX9_findLeast 56 = .ok (.if_icmp .ge 67, 3) := by decide +kernel
theorem dX9_findLeast_59 : decode cX9_findLeast 59 = .ok (.iload_n 2, 1) := by decide +kernel
theorem dX9_findLeast_60 : decode cX9_findLeast 60 = .ok (.ifCond .le 63, 3) := by decide +kernel
theorem dX9_findLeast_63 : decode cX9_findLeast 63 = .ok (.aload_n 0, 1) := by decide +kernel
theorem dX9_findLeast_64 : decode cX9_findLeast 64 = .ok (.getfield 7, 3) := by decide +kernel
theorem dX9_findLeast_67 : decode cX9_findLeast 67 = .ok (.iload_n 1, 1) := by decide +kernel
theorem dX9_findLeast_68 : decode cX9_findLeast 68 = .ok (.bipush 31, 2) := by decide +kernel
theorem dX9_findLeast_70 : decode cX9_findLeast 70 = .ok (.iadd, 1) := by decide +kernel
theorem dX9_findLeast_71 : decode cX9_findLeast 71 = .ok (.iaload, 1) := by decide +kernel
theorem dX9_findLeast_72 : decode cX9_findLeast 72 = .ok (.iconst 1, 1) := by decide +kernel
theorem dX9_findLeast_73 : decode cX9_findLeast 73 = .ok (.if_icmp .ne 50, 3) := by decide +kernel
theorem dX9_findLeast_76 : decode cX9_findLeast 76 = .ok (.aload_n 0, 1) := by decide +kernel
theorem dX9_findLeast_77 : decode cX9_findLeast 77 = .ok (.getfield 63, 3) := by decide +kernel
theorem dX9_findLeast_80 : decode cX9_findLeast 80 = .ok (.sipush 1024, 3) := by decide +kernel
theorem dX9_findLeast_83 : decode cX9_findLeast 83 = .ok (.iload_n 2, 1) := by decide +kernel
theorem dX9_findLeast_84 : decode cX9_findLeast 84 = .ok (.imul, 1) := by decide +kernel
theorem dX9_findLeast_85 : decode cX9_findLeast 85 = .ok (.iload_n 3, 1) := by decide +kernel
theorem dX9_findLeast_86 : decode cX9_findLeast 86 = .ok (.iadd, 1) := by decide +kernel
theorem dX9_findLeast_87 : decode cX9_findLeast 87 = .ok (.aload_n 0, 1) := by decide +kernel
theorem dX9_findLeast_88 : decode cX9_findLeast 88 = .ok (.getfield 60, 3) := by decide +kernel
theorem dX9_findLeast_91 : decode cX9_findLeast 91 = .ok (.sipush 1024, 3) := by decide +kernel
theorem dX9_findLeast_94 : decode cX9_findLeast 94 = .ok (.iload_n 2, 1) := by decide +kernel
theorem dX9_findLeast_95 : decode cX9_findLeast 95 = .ok (.iconst 1, 1) := by decide +kernel
theorem dX9_findLeast_96 : decode cX9_findLeast 96 = .ok (.isub, 1) := by decide +kernel
theorem dX9_findLeast_97 : decode cX9_findLeast 97 = .ok (.imul, 1) := by decide +kernel
theorem dX9_findLeast_98 : decode cX9_findLeast 98 = .ok (.iload_n 3, 1) := by decide +kernel
theorem dX9_findLeast_99 : decode cX9_findLeast 99 = .ok (.iadd, 1) := by decide +kernel
theorem dX9_findLeast_100 : decode cX9_findLeast 100 = .ok (.baload, 1) := by decide +kernel
theorem dX9_findLeast_101 : decode cX9_findLeast 101 = .ok (.ifCond .eq 13, 3) := by decide +kernel
theorem dX9_findLeast_104 : decode cX9_findLeast 104 = .ok (.aload_n 0, 1) := by decide +kernel
theorem dX9_findLeast_105 : decode cX9_findLeast 105 = .ok (.iload_n 1, 1) := by decide +kernel
theorem dX9_findLeast_106 : decode cX9_findLeast 106 = .ok (.iload_n 2, 1) := by decide +kernel
theorem dX9_findLeast_107 : decode cX9_findLeast 107 = .ok (.iload_n 3, 1) := by decide +kernel
theorem dX9_findLeast_108 : decode cX9_findLeast 108 = .ok (.invokevirtual 213, 3) := by decide +kernel
theorem dX9_findLeast_111 : decode cX9_findLeast 111 = .ok (.goto 5, 3) := by decide +kernel
theorem dX9_findLeast_114 : decode cX9_findLeast 114 = .ok (.ldc 209, 2) := by decide +kernel
theorem dX9_findLeast_116 : decode cX9_findLeast 116 = .ok (.iastore, 1) := by decide +kernel
theorem dX9_findLeast_117 : decode cX9_findLeast 117 = .ok (.iinc 3 1, 3) := by decide +kernel
theorem dX9_findLeast_120 : decode cX9_findLeast 120 = .ok (.goto (-68), 3) := by decide +kernel
theorem dX9_findLeast_123 : decode cX9_findLeast 123 = .ok (.iinc 2 (-1), 3) := by decide +kernel
theorem dX9_findLeast_126 : decode cX9_findLeast 126 = .ok (.goto (-97), 3) := by decide +kernel
theorem dX9_findLeast_129 : decode cX9_findLeast 129 = .ok (.return_, 1) := by decide +kernel
theorem dX9_leastIn_0 : decode cX9_leastIn 0 = .ok (.aload_n 0, 1) := by decide +kernel
theorem dX9_leastIn_1 : decode cX9_leastIn 1 = .ok (.iload_n 1, 1) := by decide +kernel
theorem dX9_leastIn_2 : decode cX9_leastIn 2 = .ok (.invokevirtual 217, 3) := by decide +kernel
theorem dX9_leastIn_5 : decode cX9_leastIn 5 = .ok (.aload_n 0, 1) := by decide +kernel
theorem dX9_leastIn_6 : decode cX9_leastIn 6 = .ok (.iload_n 1, 1) := by decide +kernel
theorem dX9_leastIn_7 : decode cX9_leastIn 7 = .ok (.invokevirtual 221, 3) := by decide +kernel
theorem dX9_leastIn_10 : decode cX9_leastIn 10 = .ok (.aload_n 0, 1) := by decide +kernel
theorem dX9_leastIn_11 : decode cX9_leastIn 11 = .ok (.getfield 63, 3) := by decide +kernel
theorem dX9_leastIn_14 : decode cX9_leastIn 14 = .ok (.iconst 0, 1) := by decide +kernel
theorem dX9_leastIn_15 : decode cX9_leastIn 15 = .ok (.iaload, 1) := by decide +kernel
theorem dX9_leastIn_16 : decode cX9_leastIn 16 = .ok (.ldc 209, 2) := by decide +kernel
theorem dX9_leastIn_18 : decode cX9_leastIn 18 = .ok (.if_icmp .lt 7, 3) := by decide +kernel
theorem dX9_leastIn_21 : decode cX9_leastIn 21 = .ok (.iconst (-1), 1) := by decide +kernel
theorem dX9_leastIn_22 : decode cX9_leastIn 22 = .ok (.goto 9, 3) := by decide +kernel
theorem dX9_leastIn_25 : decode cX9_leastIn 25 = .ok (.aload_n 0, 1) := by decide +kernel
theorem dX9_leastIn_26 : decode cX9_leastIn 26 = .ok (.getfield 63, 3) := by decide +kernel
theorem dX9_leastIn_29 : decode cX9_leastIn 29 = .ok (.iconst 0, 1) := by decide +kernel
theorem dX9_leastIn_30 : decode cX9_leastIn 30 = .ok (.iaload, 1) := by decide +kernel
theorem dX9_leastIn_31 : decode cX9_leastIn 31 = .ok (.ireturn, 1) := by decide +kernel
theorem dX9_findWorn_0 : decode cX9_findWorn 0 = .ok (.iconst 0, 1) := by decide +kernel
theorem dX9_findWorn_1 : decode cX9_findWorn 1 = .ok (.istore_n 2, 1) := by decide +kernel
theorem dX9_findWorn_2 : decode cX9_findWorn 2 = .ok (.iconst 0, 1) := by decide +kernel
theorem dX9_findWorn_3 : decode cX9_findWorn 3 = .ok (.istore_n 3, 1) := by decide +kernel
theorem dX9_findWorn_4 : decode cX9_findWorn 4 = .ok (.iload_n 3, 1) := by decide +kernel
theorem dX9_findWorn_5 : decode cX9_findWorn 5 = .ok (.bipush 12, 2) := by decide +kernel
theorem dX9_findWorn_7 : decode cX9_findWorn 7 = .ok (.if_icmp .ge 171, 3) := by decide +kernel
theorem dX9_findWorn_10 : decode cX9_findWorn 10 = .ok (.iconst 0, 1) := by decide +kernel
theorem dX9_findWorn_11 : decode cX9_findWorn 11 = .ok (.istore 4, 2) := by decide +kernel
theorem dX9_findWorn_13 : decode cX9_findWorn 13 = .ok (.iconst 0, 1) := by decide +kernel
theorem dX9_findWorn_14 : decode cX9_findWorn 14 = .ok (.istore 5, 2) := by decide +kernel
theorem dX9_findWorn_16 : decode cX9_findWorn 16 = .ok (.iload 5, 2) := by decide +kernel
theorem dX9_findWorn_18 : decode cX9_findWorn 18 = .ok (.ifCond .ne 127, 3) := by decide +kernel
theorem dX9_findWorn_21 : decode cX9_findWorn 21 = .ok (.aload_n 0, 1) := by decide +kernel
theorem dX9_findWorn_22 : decode cX9_findWorn 22 = .ok (.getfield 7, 3) := by decide +kernel
theorem dX9_findWorn_25 : decode cX9_findWorn 25 = .ok (.iload_n 1, 1) := by decide +kernel
theorem dX9_findWorn_26 : decode cX9_findWorn 26 = .ok (.bipush 31, 2) := by decide +kernel
theorem dX9_findWorn_28 : decode cX9_findWorn 28 = .ok (.iadd, 1) := by decide +kernel
theorem dX9_findWorn_29 : decode cX9_findWorn 29 = .ok (.iaload, 1) := by decide +kernel
theorem dX9_findWorn_30 : decode cX9_findWorn 30 = .ok (.ifCond .ne 7, 3) := by decide +kernel
theorem dX9_findWorn_33 : decode cX9_findWorn 33 = .ok (.iconst 0, 1) := by decide +kernel
theorem dX9_findWorn_34 : decode cX9_findWorn 34 = .ok (.goto 5, 3) := by decide +kernel
theorem dX9_findWorn_37 : decode cX9_findWorn 37 = .ok (.iload 4, 2) := by decide +kernel
theorem dX9_findWorn_39 : decode cX9_findWorn 39 = .ok (.istore 6, 2) := by decide +kernel
theorem dX9_findWorn_41 : decode cX9_findWorn 41 = .ok (.aload_n 0, 1) := by decide +kernel
theorem dX9_findWorn_42 : decode cX9_findWorn 42 = .ok (.getfield 60, 3) := by decide +kernel
theorem dX9_findWorn_45 : decode cX9_findWorn 45 = .ok (.sipush 1024, 3) := by decide +kernel
theorem dX9_findWorn_48 : decode cX9_findWorn 48 = .ok (.iload_n 3, 1) := by decide +kernel
theorem dX9_findWorn_49 : decode cX9_findWorn 49 = .ok (.imul, 1) := by decide +kernel
theorem dX9_findWorn_50 : decode cX9_findWorn 50 = .ok (.iload 4, 2) := by decide +kernel
theorem dX9_findWorn_52 : decode cX9_findWorn 52 = .ok (.iadd, 1) := by decide +kernel
theorem dX9_findWorn_53 : decode cX9_findWorn 53 = .ok (.baload, 1) := by decide +kernel
theorem dX9_findWorn_54 : decode cX9_findWorn 54 = .ok (.ifCond .eq 67, 3) := by decide +kernel
theorem dX9_findWorn_57 : decode cX9_findWorn 57 = .ok (.aload_n 0, 1) := by decide +kernel
theorem dX9_findWorn_58 : decode cX9_findWorn 58 = .ok (.getfield 7, 3) := by decide +kernel
theorem dX9_findWorn_61 : decode cX9_findWorn 61 = .ok (.iload_n 1, 1) := by decide +kernel
theorem dX9_findWorn_62 : decode cX9_findWorn 62 = .ok (.bipush 31, 2) := by decide +kernel
theorem dX9_findWorn_64 : decode cX9_findWorn 64 = .ok (.iadd, 1) := by decide +kernel
theorem dX9_findWorn_65 : decode cX9_findWorn 65 = .ok (.iaload, 1) := by decide +kernel
theorem dX9_findWorn_66 : decode cX9_findWorn 66 = .ok (.ifCond .eq 10, 3) := by decide +kernel
theorem dX9_findWorn_69 : decode cX9_findWorn 69 = .ok (.iload 4, 2) := by decide +kernel
theorem dX9_findWorn_71 : decode cX9_findWorn 71 = .ok (.iload_n 2, 1) := by decide +kernel
theorem dX9_findWorn_72 : decode cX9_findWorn 72 = .ok (.iand, 1) := by decide +kernel
theorem dX9_findWorn_73 : decode cX9_findWorn 73 = .ok (.ifCond .ne 48, 3) := by decide +kernel
theorem dX9_findWorn_76 : decode cX9_findWorn 76 = .ok (.aload_n 0, 1) := by decide +kernel
theorem dX9_findWorn_77 : decode cX9_findWorn 77 = .ok (.iload_n 1, 1) := by decide +kernel
theorem dX9_findWorn_78 : decode cX9_findWorn 78 = .ok (.bipush 10, 2) := by decide +kernel
theorem dX9_findWorn_80 : decode cX9_findWorn 80 = .ok (.iadd, 1) := by decide +kernel
theorem dX9_findWorn_81 : decode cX9_findWorn 81 = .ok (.iload 4, 2) := by decide +kernel
theorem dX9_findWorn_83 : decode cX9_findWorn 83 = .ok (.invokevirtual 171, 3) := by decide +kernel
theorem dX9_findWorn_86 : decode cX9_findWorn 86 = .ok (.aload_n 0, 1) := by decide +kernel
theorem dX9_findWorn_87 : decode cX9_findWorn 87 = .ok (.getfield 63, 3) := by decide +kernel
theorem dX9_findWorn_90 : decode cX9_findWorn 90 = .ok (.sipush 1024, 3) := by decide +kernel
theorem dX9_findWorn_93 : decode cX9_findWorn 93 = .ok (.iload_n 3, 1) := by decide +kernel
theorem dX9_findWorn_94 : decode cX9_findWorn 94 = .ok (.iconst 1, 1) := by decide +kernel
theorem dX9_findWorn_95 : decode cX9_findWorn 95 = .ok (.iadd, 1) := by decide +kernel
theorem dX9_findWorn_96 : decode cX9_findWorn 96 = .ok (.imul, 1) := by decide +kernel
theorem dX9_findWorn_97 : decode cX9_findWorn 97 = .ok (.iload 6, 2) := by decide +kernel
theorem dX9_findWorn_99 : decode cX9_findWorn 99 = .ok (.iadd, 1) := by decide +kernel
theorem dX9_findWorn_100 : decode cX9_findWorn 100 = .ok (.iaload, 1) := by decide +kernel
theorem dX9_findWorn_101 : decode cX9_findWorn 101 = .ok (.iadd, 1) := by decide +kernel
theorem dX9_findWorn_102 : decode cX9_findWorn 102 = .ok (.aload_n 0, 1) := by decide +kernel
theorem dX9_findWorn_103 : decode cX9_findWorn 103 = .ok (.getfield 63, 3) := by decide +kernel
theorem dX9_findWorn_106 : decode cX9_findWorn 106 = .ok (.sipush 1024, 3) := by decide +kernel
theorem dX9_findWorn_109 : decode cX9_findWorn 109 = .ok (.iload_n 3, 1) := by decide +kernel
theorem dX9_findWorn_110 : decode cX9_findWorn 110 = .ok (.imul, 1) := by decide +kernel
theorem dX9_findWorn_111 : decode cX9_findWorn 111 = .ok (.iload_n 2, 1) := by decide +kernel
theorem dX9_findWorn_112 : decode cX9_findWorn 112 = .ok (.iadd, 1) := by decide +kernel
theorem dX9_findWorn_113 : decode cX9_findWorn 113 = .ok (.iaload, 1) := by decide +kernel
theorem dX9_findWorn_114 : decode cX9_findWorn 114 = .ok (.if_icmp .ne 7, 3) := by decide +kernel
theorem dX9_findWorn_117 : decode cX9_findWorn 117 = .ok (.iconst 1, 1) := by decide +kernel
theorem dX9_findWorn_118 : decode cX9_findWorn 118 = .ok (.goto 4, 3) := by decide +kernel
theorem dX9_findWorn_121 : decode cX9_findWorn 121 = .ok (.iconst 0, 1) := by decide +kernel
theorem dX9_findWorn_122 : decode cX9_findWorn 122 = .ok (.istore 5, 2) := by decide +kernel
theorem dX9_findWorn_124 : decode cX9_findWorn 124 = .ok (.iload 4, 2) := by decide +kernel
theorem dX9_findWorn_126 : decode cX9_findWorn 126 = .ok (.iload 5, 2) := by decide +kernel
theorem dX9_findWorn_128 : decode cX9_findWorn 128 = .ok (.ifCond .ne 7, 3) := by decide +kernel
theorem dX9_findWorn_131 : decode cX9_findWorn 131 = .ok (.iconst 1, 1) := by decide +kernel
theorem dX9_findWorn_132 : decode cX9_findWorn 132 = .ok (.goto 4, 3) := by decide +kernel
theorem dX9_findWorn_135 : decode cX9_findWorn 135 = .ok (.iconst 0, 1) := by decide +kernel
theorem dX9_findWorn_136 : decode cX9_findWorn 136 = .ok (.invokestatic 224, 3) := by decide +kernel
theorem dX9_findWorn_139 : decode cX9_findWorn 139 = .ok (.iadd, 1) := by decide +kernel
theorem dX9_findWorn_140 : decode cX9_findWorn 140 = .ok (.istore 4, 2) := by decide +kernel
theorem dX9_findWorn_142 : decode cX9_findWorn 142 = .ok (.goto (-126), 3) := by decide +kernel
theorem dX9_findWorn_145 : decode cX9_findWorn 145 = .ok (.aload_n 0, 1) := by decide +kernel
theorem dX9_findWorn_146 : decode cX9_findWorn 146 = .ok (.getfield 72, 3) := by decide +kernel
theorem dX9_findWorn_149 : decode cX9_findWorn 149 = .ok (.iload_n 3, 1) := by decide +kernel
theorem dX9_findWorn_150 : decode cX9_findWorn 150 = .ok (.iload 4, 2) := by decide +kernel
theorem dX9_findWorn_152 : decode cX9_findWorn 152 = .ok (.iastore, 1) := by decide +kernel
theorem dX9_findWorn_153 : decode cX9_findWorn 153 = .ok (.aload_n 0, 1) := by decide +kernel
theorem dX9_findWorn_154 : decode cX9_findWorn 154 = .ok (.getfield 7, 3) := by decide +kernel
theorem dX9_findWorn_157 : decode cX9_findWorn 157 = .ok (.iload_n 1, 1) := by decide +kernel
theorem dX9_findWorn_158 : decode cX9_findWorn 158 = .ok (.bipush 31, 2) := by decide +kernel
theorem dX9_findWorn_160 : decode cX9_findWorn 160 = .ok (.iadd, 1) := by decide +kernel
theorem dX9_findWorn_161 : decode cX9_findWorn 161 = .ok (.iaload, 1) := by decide +kernel
theorem dX9_findWorn_162 : decode cX9_findWorn 162 = .ok (.ifCond .ne 7, 3) := by decide +kernel
theorem dX9_findWorn_165 : decode cX9_findWorn 165 = .ok (.iconst 0, 1) := by decide +kernel
theorem dX9_findWorn_166 : decode cX9_findWorn 166 = .ok (.goto 5, 3) := by decide +kernel
theorem dX9_findWorn_169 : decode cX9_findWorn 169 = .ok (.iload 4, 2) := by decide +kernel
theorem dX9_findWorn_171 : decode cX9_findWorn 171 = .ok (.istore_n 2, 1) := by decide +kernel
theorem dX9_findWorn_172 : decode cX9_findWorn 172 = .ok (.iinc 3 1, 3) := by decide +kernel
theorem dX9_findWorn_175 : decode cX9_findWorn 175 = .ok (.goto (-171), 3) := by decide +kernel
theorem dX9_findWorn_178 : decode cX9_findWorn 178 = .ok (.return_, 1) := by decide +kernel
theorem dX9_lookOf_0 : decode cX9_lookOf 0 = .ok (.aload_n 0, 1) := by decide +kernel
theorem dX9_lookOf_1 : decode cX9_lookOf 1 = .ok (.getfield 72, 3) := by decide +kernel
theorem dX9_lookOf_4 : decode cX9_lookOf 4 = .ok (.aload_n 0, 1) := by decide +kernel
theorem dX9_lookOf_5 : decode cX9_lookOf 5 = .ok (.getfield 38, 3) := by decide +kernel
theorem dX9_lookOf_8 : decode cX9_lookOf 8 = .ok (.iload_n 1, 1) := by decide +kernel
theorem dX9_lookOf_9 : decode cX9_lookOf 9 = .ok (.iaload, 1) := by decide +kernel
theorem dX9_lookOf_10 : decode cX9_lookOf 10 = .ok (.iaload, 1) := by decide +kernel
theorem dX9_lookOf_11 : decode cX9_lookOf 11 = .ok (.istore_n 2, 1) := by decide +kernel
theorem dX9_lookOf_12 : decode cX9_lookOf 12 = .ok (.iconst (-1), 1) := by decide +kernel
theorem dX9_lookOf_13 : decode cX9_lookOf 13 = .ok (.istore_n 3, 1) := by decide +kernel
theorem dX9_lookOf_14 : decode cX9_lookOf 14 = .ok (.iconst 0, 1) := by decide +kernel
theorem dX9_lookOf_15 : decode cX9_lookOf 15 = .ok (.istore 4, 2) := by decide +kernel
theorem dX9_lookOf_17 : decode cX9_lookOf 17 = .ok (.iload 4, 2) := by decide +kernel
theorem dX9_lookOf_19 : decode cX9_lookOf 19 = .ok (.iload_n 1, 1) := by decide +kernel
theorem dX9_lookOf_20 : decode cX9_lookOf 20 = .ok (.if_icmp .gt 44, 3) := by decide +kernel
theorem dX9_lookOf_23 : decode cX9_lookOf 23 = .ok (.aload_n 0, 1) := by decide +kernel
theorem dX9_lookOf_24 : decode cX9_lookOf 24 = .ok (.getfield 38, 3) := by decide +kernel
theorem dX9_lookOf_27 : decode cX9_lookOf 27 = .ok (.iload 4, 2) := by decide +kernel
theorem dX9_lookOf_29 : decode cX9_lookOf 29 = .ok (.iaload, 1) := by decide +kernel
theorem dX9_lookOf_30 : decode cX9_lookOf 30 = .ok (.aload_n 0, 1) := by decide +kernel
theorem dX9_lookOf_31 : decode cX9_lookOf 31 = .ok (.getfield 38, 3) := by decide +kernel
theorem dX9_lookOf_34 : decode cX9_lookOf 34 = .ok (.iload_n 1, 1) := by decide +kernel
theorem dX9_lookOf_35 : decode cX9_lookOf 35 = .ok (.iaload, 1) := by decide +kernel
theorem dX9_lookOf_36 : decode cX9_lookOf 36 = .ok (.if_icmp .ne 22, 3) := by decide +kernel
theorem dX9_lookOf_39 : decode cX9_lookOf 39 = .ok (.aload_n 0, 1) := by decide +kernel
theorem dX9_lookOf_40 : decode cX9_lookOf 40 = .ok (.iload 4, 2) := by decide +kernel
theorem dX9_lookOf_42 : decode cX9_lookOf 42 = .ok (.iload_n 2, 1) := by decide +kernel
theorem dX9_lookOf_43 : decode cX9_lookOf 43 = .ok (.invokevirtual 228, 3) := by decide +kernel
theorem dX9_lookOf_46 : decode cX9_lookOf 46 = .ok (.istore_n 3, 1) := by decide +kernel
theorem dX9_lookOf_47 : decode cX9_lookOf 47 = .ok (.iload_n 2, 1) := by decide +kernel
theorem dX9_lookOf_48 : decode cX9_lookOf 48 = .ok (.aload_n 0, 1) := by decide +kernel
theorem dX9_lookOf_49 : decode cX9_lookOf 49 = .ok (.getfield 57, 3) := by decide +kernel
theorem dX9_lookOf_52 : decode cX9_lookOf 52 = .ok (.iload_n 3, 1) := by decide +kernel
theorem dX9_lookOf_53 : decode cX9_lookOf 53 = .ok (.iaload, 1) := by decide +kernel
theorem dX9_lookOf_54 : decode cX9_lookOf 54 = .ok (.iconst (-1), 1) := by decide +kernel
theorem dX9_lookOf_55 : decode cX9_lookOf 55 = .ok (.ixor, 1) := by decide +kernel
theorem dX9_lookOf_56 : decode cX9_lookOf 56 = .ok (.iand, 1) := by decide +kernel
theorem dX9_lookOf_57 : decode cX9_lookOf 57 = .ok (.istore_n 2, 1) := by decide +kernel
theorem dX9_lookOf_58 : decode cX9_lookOf 58 = .ok (.iinc 4 1, 3) := by decide +kernel
theorem dX9_lookOf_61 : decode cX9_lookOf 61 = .ok (.goto (-44), 3) := by decide +kernel
theorem dX9_lookOf_64 : decode cX9_lookOf 64 = .ok (.aload_n 0, 1) := by decide +kernel
theorem dX9_lookOf_65 : decode cX9_lookOf 65 = .ok (.getfield 57, 3) := by decide +kernel
theorem dX9_lookOf_68 : decode cX9_lookOf 68 = .ok (.iload_n 3, 1) := by decide +kernel
theorem dX9_lookOf_69 : decode cX9_lookOf 69 = .ok (.iaload, 1) := by decide +kernel
theorem dX9_lookOf_70 : decode cX9_lookOf 70 = .ok (.ireturn, 1) := by decide +kernel
theorem dX9_firstLook_0 : decode cX9_firstLook 0 = .ok (.iconst (-1), 1) := by decide +kernel
theorem dX9_firstLook_1 : decode cX9_firstLook 1 = .ok (.istore_n 3, 1) := by decide +kernel
theorem dX9_firstLook_2 : decode cX9_firstLook 2 = .ok (.aload_n 0, 1) := by decide +kernel
theorem dX9_firstLook_3 : decode cX9_firstLook 3 = .ok (.getfield 165, 3) := by decide +kernel
theorem dX9_firstLook_6 : decode cX9_firstLook 6 = .ok (.iconst 1, 1) := by decide +kernel
theorem dX9_firstLook_7 : decode cX9_firstLook 7 = .ok (.isub, 1) := by decide +kernel
theorem dX9_firstLook_8 : decode cX9_firstLook 8 = .ok (.istore 4, 2) := by decide +kernel
theorem dX9_firstLook_10 : decode cX9_firstLook 10 = .ok (.iload 4, 2) := by decide +kernel
theorem dX9_firstLook_12 : decode cX9_firstLook 12 = .ok (.ifCond .lt 85, 3) := by decide +kernel
theorem dX9_firstLook_15 : decode cX9_firstLook 15 = .ok (.aload_n 0, 1) := by decide +kernel
theorem dX9_firstLook_16 : decode cX9_firstLook 16 = .ok (.getfield 57, 3) := by decide +kernel
theorem dX9_firstLook_19 : decode cX9_firstLook 19 = .ok (.iload 4, 2) := by decide +kernel
theorem dX9_firstLook_21 : decode cX9_firstLook 21 = .ok (.iaload, 1) := by decide +kernel
theorem dX9_firstLook_22 : decode cX9_firstLook 22 = .ok (.iload_n 2, 1) := by decide +kernel
theorem dX9_firstLook_23 : decode cX9_firstLook 23 = .ok (.iconst (-1), 1) := by decide +kernel
theorem dX9_firstLook_24 : decode cX9_firstLook 24 = .ok (.ixor, 1) := by decide +kernel
theorem dX9_firstLook_25 : decode cX9_firstLook 25 = .ok (.iand, 1) := by decide +kernel
theorem dX9_firstLook_26 : decode cX9_firstLook 26 = .ok (.ifCond .ne 23, 3) := by decide +kernel
theorem dX9_firstLook_29 : decode cX9_firstLook 29 = .ok (.aload_n 0, 1) := by decide +kernel
theorem dX9_firstLook_30 : decode cX9_firstLook 30 = .ok (.iconst 0, 1) := by decide +kernel
theorem dX9_firstLook_31 : decode cX9_firstLook 31 = .ok (.aload_n 0, 1) := by decide +kernel
theorem dX9_firstLook_32 : decode cX9_firstLook 32 = .ok (.getfield 57, 3) := by decide +kernel
theorem dX9_firstLook_35 : decode cX9_firstLook 35 = .ok (.iload 4, 2) := by decide +kernel
theorem dX9_firstLook_37 : decode cX9_firstLook 37 = .ok (.iaload, 1) := by decide +kernel
theorem dX9_firstLook_38 : decode cX9_firstLook 38 = .ok (.iload_n 1, 1) := by decide +kernel
theorem dX9_firstLook_39 : decode cX9_firstLook 39 = .ok (.invokevirtual 201, 3) := by decide +kernel
theorem dX9_firstLook_42 : decode cX9_firstLook 42 = .ok (.ifCond .eq 7, 3) := by decide +kernel
theorem dX9_firstLook_45 : decode cX9_firstLook 45 = .ok (.iconst 1, 1) := by decide +kernel
theorem dX9_firstLook_46 : decode cX9_firstLook 46 = .ok (.goto 4, 3) := by decide +kernel
theorem dX9_firstLook_49 : decode cX9_firstLook 49 = .ok (.iconst 0, 1) := by decide +kernel
theorem dX9_firstLook_50 : decode cX9_firstLook 50 = .ok (.istore 5, 2) := by decide +kernel
theorem dX9_firstLook_52 : decode cX9_firstLook 52 = .ok (.iload 5, 2) := by decide +kernel
theorem dX9_firstLook_54 : decode cX9_firstLook 54 = .ok (.ifCond .eq 35, 3) := by decide +kernel
theorem dX9_firstLook_57 : decode cX9_firstLook 57 = .ok (.aload_n 0, 1) := by decide +kernel
theorem dX9_firstLook_58 : decode cX9_firstLook 58 = .ok (.iload_n 1, 1) := by decide +kernel
theorem dX9_firstLook_59 : decode cX9_firstLook 59 = .ok (.iconst 1, 1) := by decide +kernel
theorem dX9_firstLook_60 : decode cX9_firstLook 60 = .ok (.iadd, 1) := by decide +kernel
theorem dX9_firstLook_61 : decode cX9_firstLook 61 = .ok (.aload_n 0, 1) := by decide +kernel
theorem dX9_firstLook_62 : decode cX9_firstLook 62 = .ok (.getfield 38, 3) := by decide +kernel
theorem dX9_firstLook_65 : decode cX9_firstLook 65 = .ok (.iload_n 1, 1) := by decide +kernel
theorem dX9_firstLook_66 : decode cX9_firstLook 66 = .ok (.iaload, 1) := by decide +kernel
theorem dX9_firstLook_67 : decode cX9_firstLook 67 = .ok (.iload_n 2, 1) := by decide +kernel
theorem dX9_firstLook_68 : decode cX9_firstLook 68 = .ok (.aload_n 0, 1) := by decide +kernel
theorem dX9_firstLook_69 : decode cX9_firstLook 69 = .ok (.getfield 57, 3) := by decide +kernel
theorem dX9_firstLook_72 : decode cX9_firstLook 72 = .ok (.iload 4, 2) := by decide +kernel
theorem dX9_firstLook_74 : decode cX9_firstLook 74 = .ok (.iaload, 1) := by decide +kernel
theorem dX9_firstLook_75 : decode cX9_firstLook 75 = .ok (.iconst (-1), 1) := by decide +kernel
theorem dX9_firstLook_76 : decode cX9_firstLook 76 = .ok (.ixor, 1) := by decide +kernel
theorem dX9_firstLook_77 : decode cX9_firstLook 77 = .ok (.iand, 1) := by decide +kernel
theorem dX9_firstLook_78 : decode cX9_firstLook 78 = .ok (.invokevirtual 231, 3) := by decide +kernel
theorem dX9_firstLook_81 : decode cX9_firstLook 81 = .ok (.ifCond .eq 8, 3) := by decide +kernel
theorem dX9_firstLook_84 : decode cX9_firstLook 84 = .ok (.iload 4, 2) := by decide +kernel
theorem dX9_firstLook_86 : decode cX9_firstLook 86 = .ok (.goto 4, 3) := by decide +kernel
theorem dX9_firstLook_89 : decode cX9_firstLook 89 = .ok (.iload_n 3, 1) := by decide +kernel
theorem dX9_firstLook_90 : decode cX9_firstLook 90 = .ok (.istore_n 3, 1) := by decide +kernel
theorem dX9_firstLook_91 : decode cX9_firstLook 91 = .ok (.iinc 4 (-1), 3) := by decide +kernel
theorem dX9_firstLook_94 : decode cX9_firstLook 94 = .ok (.goto (-84), 3) := by decide +kernel
theorem dX9_firstLook_97 : decode cX9_firstLook 97 = .ok (.iload_n 3, 1) := by decide +kernel
theorem dX9_firstLook_98 : decode cX9_firstLook 98 = .ok (.ireturn, 1) := by decide +kernel
theorem dX9_canRest_0 : decode cX9_canRest 0 = .ok (.iconst 0, 1) := by decide +kernel
theorem dX9_canRest_1 : decode cX9_canRest 1 = .ok (.istore 4, 2) := by decide +kernel
theorem dX9_canRest_3 : decode cX9_canRest 3 = .ok (.iload 4, 2) := by decide +kernel
theorem dX9_canRest_5 : decode cX9_canRest 5 = .ok (.sipush 1024, 3) := by decide +kernel
theorem dX9_canRest_8 : decode cX9_canRest 8 = .ok (.if_icmp .ge 26, 3) := by decide +kernel
theorem dX9_canRest_11 : decode cX9_canRest 11 = .ok (.aload_n 0, 1) := by decide +kernel
theorem dX9_canRest_12 : decode cX9_canRest 12 = .ok (.getfield 69, 3) := by decide +kernel
theorem dX9_canRest_15 : decode cX9_canRest 15 = .ok (.iload 4, 2) := by decide +kernel
theorem dX9_canRest_17 : decode cX9_canRest 17 = .ok (.iload 4, 2) := by decide +kernel
theorem dX9_canRest_19 : decode cX9_canRest 19 = .ok (.ifCond .ne 7, 3) := by decide +kernel
theorem dX9_canRest_22 : decode cX9_canRest 22 = .ok (.iconst 1, 1) := by decide +kernel
theorem dX9_canRest_23 : decode cX9_canRest 23 = .ok (.goto 4, 3) := by decide +kernel
theorem dX9_canRest_26 : decode cX9_canRest 26 = .ok (.iconst 0, 1) := by decide +kernel
theorem dX9_canRest_27 : decode cX9_canRest 27 = .ok (.bastore, 1) := by decide +kernel
theorem dX9_canRest_28 : decode cX9_canRest 28 = .ok (.iinc 4 1, 3) := by decide +kernel
theorem dX9_canRest_31 : decode cX9_canRest 31 = .ok (.goto (-28), 3) := by decide +kernel
theorem dX9_canRest_34 : decode cX9_canRest 34 = .ok (.iload_n 1, 1) := by decide +kernel
theorem dX9_canRest_35 : decode cX9_canRest 35 = .ok (.istore 4, 2) := by decide +kernel
theorem dX9_canRest_37 : decode cX9_canRest 37 = .ok (.iload 4, 2) := by decide +kernel
theorem dX9_canRest_39 : decode cX9_canRest 39 = .ok (.aload_n 0, 1) := by decide +kernel
theorem dX9_canRest_40 : decode cX9_canRest 40 = .ok (.getfield 47, 3) := by decide +kernel
theorem dX9_canRest_43 : decode cX9_canRest 43 = .ok (.iconst 1, 1) := by decide +kernel
theorem dX9_canRest_44 : decode cX9_canRest 44 = .ok (.iaload, 1) := by decide +kernel
theorem dX9_canRest_45 : decode cX9_canRest 45 = .ok (.if_icmp .ge 27, 3) := by decide +kernel
theorem dX9_canRest_48 : decode cX9_canRest 48 = .ok (.aload_n 0, 1) := by decide +kernel
theorem dX9_canRest_49 : decode cX9_canRest 49 = .ok (.getfield 38, 3) := by decide +kernel
theorem dX9_canRest_52 : decode cX9_canRest 52 = .ok (.iload 4, 2) := by decide +kernel
theorem dX9_canRest_54 : decode cX9_canRest 54 = .ok (.iaload, 1) := by decide +kernel
theorem dX9_canRest_55 : decode cX9_canRest 55 = .ok (.iload_n 2, 1) := by decide +kernel
theorem dX9_canRest_56 : decode cX9_canRest 56 = .ok (.if_icmp .ne 10, 3) := by decide +kernel
theorem dX9_canRest_59 : decode cX9_canRest 59 = .ok (.aload_n 0, 1) := by decide +kernel
theorem dX9_canRest_60 : decode cX9_canRest 60 = .ok (.iconst 0, 1) := by decide +kernel
theorem dX9_canRest_61 : decode cX9_canRest 61 = .ok (.iload 4, 2) := by decide +kernel
theorem dX9_canRest_63 : decode cX9_canRest 63 = .ok (.invokevirtual 205, 3) := by decide +kernel
theorem dX9_canRest_66 : decode cX9_canRest 66 = .ok (.iinc 4 1, 3) := by decide +kernel
theorem dX9_canRest_69 : decode cX9_canRest 69 = .ok (.goto (-32), 3) := by decide +kernel
theorem dX9_canRest_72 : decode cX9_canRest 72 = .ok (.aload_n 0, 1) := by decide +kernel
theorem dX9_canRest_73 : decode cX9_canRest 73 = .ok (.getfield 69, 3) := by decide +kernel
theorem dX9_canRest_76 : decode cX9_canRest 76 = .ok (.iload_n 3, 1) := by decide +kernel
theorem dX9_canRest_77 : decode cX9_canRest 77 = .ok (.baload, 1) := by decide +kernel
theorem dX9_canRest_78 : decode cX9_canRest 78 = .ok (.ireturn, 1) := by decide +kernel
theorem dX9_dressing_0 : decode cX9_dressing 0 = .ok (.iload_n 1, 1) := by decide +kernel
theorem dX9_dressing_1 : decode cX9_dressing 1 = .ok (.iconst (-1), 1) := by decide +kernel
theorem dX9_dressing_2 : decode cX9_dressing 2 = .ok (.if_icmp .eq 14, 3) := by decide +kernel
theorem dX9_dressing_5 : decode cX9_dressing 5 = .ok (.aload_n 0, 1) := by decide +kernel
theorem dX9_dressing_6 : decode cX9_dressing 6 = .ok (.iload_n 1, 1) := by decide +kernel
theorem dX9_dressing_7 : decode cX9_dressing 7 = .ok (.invokevirtual 189, 3) := by decide +kernel
theorem dX9_dressing_10 : decode cX9_dressing 10 = .ok (.ifCond .ne 6, 3) := by decide +kernel
theorem dX9_dressing_13 : decode cX9_dressing 13 = .ok (.ldc 188, 2) := by decide +kernel
theorem dX9_dressing_15 : decode cX9_dressing 15 = .ok (.ireturn, 1) := by decide +kernel
theorem dX9_dressing_16 : decode cX9_dressing 16 = .ok (.aload_n 0, 1) := by decide +kernel
theorem dX9_dressing_17 : decode cX9_dressing 17 = .ok (.iconst 0, 1) := by decide +kernel
theorem dX9_dressing_18 : decode cX9_dressing 18 = .ok (.invokevirtual 234, 3) := by decide +kernel
theorem dX9_dressing_21 : decode cX9_dressing 21 = .ok (.istore_n 2, 1) := by decide +kernel
theorem dX9_dressing_22 : decode cX9_dressing 22 = .ok (.iload_n 2, 1) := by decide +kernel
theorem dX9_dressing_23 : decode cX9_dressing 23 = .ok (.ifCond .lt 7, 3) := by decide +kernel
theorem dX9_dressing_26 : decode cX9_dressing 26 = .ok (.iload_n 1, 1) := by decide +kernel
theorem dX9_dressing_27 : decode cX9_dressing 27 = .ok (.ifCond .ge 5, 3) := by decide +kernel
theorem dX9_dressing_30 : decode cX9_dressing 30 = .ok (.iload_n 2, 1) := by decide +kernel
theorem dX9_dressing_31 : decode cX9_dressing 31 = .ok (.ireturn, 1) := by decide +kernel
theorem dX9_dressing_32 : decode cX9_dressing 32 = .ok (.aload_n 0, 1) := by decide +kernel
theorem dX9_dressing_33 : decode cX9_dressing 33 = .ok (.iconst 0, 1) := by decide +kernel
theorem dX9_dressing_34 : decode cX9_dressing 34 = .ok (.invokevirtual 237, 3) := by decide +kernel
theorem dX9_dressing_37 : decode cX9_dressing 37 = .ok (.aload_n 0, 1) := by decide +kernel
theorem dX9_dressing_38 : decode cX9_dressing 38 = .ok (.iload_n 1, 1) := by decide +kernel
theorem dX9_dressing_39 : decode cX9_dressing 39 = .ok (.invokevirtual 240, 3) := by decide +kernel
theorem dX9_dressing_42 : decode cX9_dressing 42 = .ok (.ireturn, 1) := by decide +kernel
theorem dX9_rentIn_0 : decode cX9_rentIn 0 = .ok (.aload_n 0, 1) := by decide +kernel
theorem dX9_rentIn_1 : decode cX9_rentIn 1 = .ok (.iload_n 1, 1) := by decide +kernel
theorem dX9_rentIn_2 : decode cX9_rentIn 2 = .ok (.invokevirtual 221, 3) := by decide +kernel
theorem dX9_rentIn_5 : decode cX9_rentIn 5 = .ok (.aload_n 0, 1) := by decide +kernel
theorem dX9_rentIn_6 : decode cX9_rentIn 6 = .ok (.getfield 63, 3) := by decide +kernel
theorem dX9_rentIn_9 : decode cX9_rentIn 9 = .ok (.iconst 0, 1) := by decide +kernel
theorem dX9_rentIn_10 : decode cX9_rentIn 10 = .ok (.iaload, 1) := by decide +kernel
theorem dX9_rentIn_11 : decode cX9_rentIn 11 = .ok (.ldc 209, 2) := by decide +kernel
theorem dX9_rentIn_13 : decode cX9_rentIn 13 = .ok (.if_icmp .lt 5, 3) := by decide +kernel
theorem dX9_rentIn_16 : decode cX9_rentIn 16 = .ok (.iconst 0, 1) := by decide +kernel
theorem dX9_rentIn_17 : decode cX9_rentIn 17 = .ok (.ireturn, 1) := by decide +kernel
theorem dX9_rentIn_18 : decode cX9_rentIn 18 = .ok (.aload_n 0, 1) := by decide +kernel
theorem dX9_rentIn_19 : decode cX9_rentIn 19 = .ok (.iload_n 1, 1) := by decide +kernel
theorem dX9_rentIn_20 : decode cX9_rentIn 20 = .ok (.invokevirtual 237, 3) := by decide +kernel
theorem dX9_rentIn_23 : decode cX9_rentIn 23 = .ok (.iconst 0, 1) := by decide +kernel
theorem dX9_rentIn_24 : decode cX9_rentIn 24 = .ok (.istore_n 3, 1) := by decide +kernel
theorem dX9_rentIn_25 : decode cX9_rentIn 25 = .ok (.iconst 0, 1) := by decide +kernel
theorem dX9_rentIn_26 : decode cX9_rentIn 26 = .ok (.istore 4, 2) := by decide +kernel
theorem dX9_rentIn_28 : decode cX9_rentIn 28 = .ok (.iload 4, 2) := by decide +kernel
theorem dX9_rentIn_30 : decode cX9_rentIn 30 = .ok (.bipush 12, 2) := by decide +kernel
theorem dX9_rentIn_32 : decode cX9_rentIn 32 = .ok (.if_icmp .ge 74, 3) := by decide +kernel
theorem dX9_rentIn_35 : decode cX9_rentIn 35 = .ok (.iconst 0, 1) := by decide +kernel
theorem dX9_rentIn_36 : decode cX9_rentIn 36 = .ok (.istore 5, 2) := by decide +kernel
theorem dX9_rentIn_38 : decode cX9_rentIn 38 = .ok (.iload 5, 2) := by decide +kernel
theorem dX9_rentIn_40 : decode cX9_rentIn 40 = .ok (.aload_n 0, 1) := by decide +kernel
theorem dX9_rentIn_41 : decode cX9_rentIn 41 = .ok (.getfield 47, 3) := by decide +kernel
theorem dX9_rentIn_44 : decode cX9_rentIn 44 = .ok (.iconst 0, 1) := by decide +kernel
theorem dX9_rentIn_45 : decode cX9_rentIn 45 = .ok (.iaload, 1) := by decide +kernel
theorem dX9_rentIn_46 : decode cX9_rentIn 46 = .ok (.if_icmp .ge 54, 3) := by decide +kernel
theorem dX9_rentIn_49 : decode cX9_rentIn 49 = .ok (.iload_n 3, 1) := by decide +kernel
theorem dX9_rentIn_50 : decode cX9_rentIn 50 = .ok (.aload_n 0, 1) := by decide +kernel
theorem dX9_rentIn_51 : decode cX9_rentIn 51 = .ok (.getfield 72, 3) := by decide +kernel
theorem dX9_rentIn_54 : decode cX9_rentIn 54 = .ok (.iload 4, 2) := by decide +kernel
theorem dX9_rentIn_56 : decode cX9_rentIn 56 = .ok (.iaload, 1) := by decide +kernel
theorem dX9_rentIn_57 : decode cX9_rentIn 57 = .ok (.iload 5, 2) := by decide +kernel
theorem dX9_rentIn_59 : decode cX9_rentIn 59 = .ok (.invokestatic 140, 3) := by decide +kernel
theorem dX9_rentIn_62 : decode cX9_rentIn 62 = .ok (.ifCond .eq 29, 3) := by decide +kernel
theorem dX9_rentIn_65 : decode cX9_rentIn 65 = .ok (.aload_n 0, 1) := by decide +kernel
theorem dX9_rentIn_66 : decode cX9_rentIn 66 = .ok (.getfield 20, 3) := by decide +kernel
theorem dX9_rentIn_69 : decode cX9_rentIn 69 = .ok (.iload 5, 2) := by decide +kernel
theorem dX9_rentIn_71 : decode cX9_rentIn 71 = .ok (.iaload, 1) := by decide +kernel
theorem dX9_rentIn_72 : decode cX9_rentIn 72 = .ok (.iload_n 2, 1) := by decide +kernel
theorem dX9_rentIn_73 : decode cX9_rentIn 73 = .ok (.if_icmp .ne 18, 3) := by decide +kernel
theorem dX9_rentIn_76 : decode cX9_rentIn 76 = .ok (.aload_n 0, 1) := by decide +kernel
theorem dX9_rentIn_77 : decode cX9_rentIn 77 = .ok (.getfield 7, 3) := by decide +kernel
theorem dX9_rentIn_80 : decode cX9_rentIn 80 = .ok (.iload_n 1, 1) := by decide +kernel
theorem dX9_rentIn_81 : decode cX9_rentIn 81 = .ok (.bipush 10, 2) := by decide +kernel
theorem dX9_rentIn_83 : decode cX9_rentIn 83 = .ok (.iadd, 1) := by decide +kernel
theorem dX9_rentIn_84 : decode cX9_rentIn 84 = .ok (.iload 5, 2) := by decide +kernel
theorem dX9_rentIn_86 : decode cX9_rentIn 86 = .ok (.iadd, 1) := by decide +kernel
theorem dX9_rentIn_87 : decode cX9_rentIn 87 = .ok (.iaload, 1) := by decide +kernel
theorem dX9_rentIn_88 : decode cX9_rentIn 88 = .ok (.goto 4, 3) := by decide +kernel
theorem dX9_rentIn_91 : decode cX9_rentIn 91 = .ok (.iconst 0, 1) := by decide +kernel
theorem dX9_rentIn_92 : decode cX9_rentIn 92 = .ok (.iadd, 1) := by decide +kernel
theorem dX9_rentIn_93 : decode cX9_rentIn 93 = .ok (.istore_n 3, 1) := by decide +kernel
theorem dX9_rentIn_94 : decode cX9_rentIn 94 = .ok (.iinc 5 1, 3) := by decide +kernel
theorem dX9_rentIn_97 : decode cX9_rentIn 97 = .ok (.goto (-59), 3) := by decide +kernel
theorem dX9_rentIn_100 : decode cX9_rentIn 100 = .ok (.iinc 4 1, 3) := by decide +kernel
theorem dX9_rentIn_103 : decode cX9_rentIn 103 = .ok (.goto (-75), 3) := by decide +kernel
theorem dX9_rentIn_106 : decode cX9_rentIn 106 = .ok (.iload_n 3, 1) := by decide +kernel
theorem dX9_rentIn_107 : decode cX9_rentIn 107 = .ok (.ireturn, 1) := by decide +kernel
theorem dX9_rent_0 : decode cX9_rent 0 = .ok (.iload_n 1, 1) := by decide +kernel
theorem dX9_rent_1 : decode cX9_rent 1 = .ok (.i2l, 1) := by decide +kernel
theorem dX9_rent_2 : decode cX9_rent 2 = .ok (.lconst 0, 1) := by decide +kernel
theorem dX9_rent_3 : decode cX9_rent 3 = .ok (.ldc2_w 243, 3) := by decide +kernel
theorem dX9_rent_6 : decode cX9_rent 6 = .ok (.invokestatic 89, 3) := by decide +kernel
theorem dX9_rent_9 : decode cX9_rent 9 = .ok (.ifCond .ne 6, 3) := by decide +kernel
theorem dX9_rent_12 : decode cX9_rent 12 = .ok (.ldc 93, 2) := by decide +kernel
theorem dX9_rent_14 : decode cX9_rent 14 = .ok (.ireturn, 1) := by decide +kernel
theorem dX9_rent_15 : decode cX9_rent 15 = .ok (.aload_n 0, 1) := by decide +kernel
theorem dX9_rent_16 : decode cX9_rent 16 = .ok (.iconst 0, 1) := by decide +kernel
theorem dX9_rent_17 : decode cX9_rent 17 = .ok (.invokevirtual 217, 3) := by decide +kernel
theorem dX9_rent_20 : decode cX9_rent 20 = .ok (.aload_n 0, 1) := by decide +kernel
theorem dX9_rent_21 : decode cX9_rent 21 = .ok (.iconst 0, 1) := by decide +kernel
theorem dX9_rent_22 : decode cX9_rent 22 = .ok (.iload_n 1, 1) := by decide +kernel
theorem dX9_rent_23 : decode cX9_rent 23 = .ok (.invokevirtual 245, 3) := by decide +kernel
theorem dX9_rent_26 : decode cX9_rent 26 = .ok (.ireturn, 1) := by decide +kernel
theorem dX9_without_0 : decode cX9_without 0 = .ok (.iload_n 1, 1) := by decide +kernel
theorem dX9_without_1 : decode cX9_without 1 = .ok (.i2l, 1) := by decide +kernel
theorem dX9_without_2 : decode cX9_without 2 = .ok (.lconst 0, 1) := by decide +kernel
theorem dX9_without_3 : decode cX9_without 3 = .ok (.ldc2_w 243, 3) := by decide +kernel
theorem dX9_without_6 : decode cX9_without 6 = .ok (.invokestatic 89, 3) := by decide +kernel
theorem dX9_without_9 : decode cX9_without 9 = .ok (.ifCond .ne 6, 3) := by decide +kernel
theorem dX9_without_12 : decode cX9_without 12 = .ok (.ldc 93, 2) := by decide +kernel
theorem dX9_without_14 : decode cX9_without 14 = .ok (.ireturn, 1) := by decide +kernel
theorem dX9_without_15 : decode cX9_without 15 = .ok (.aload_n 0, 1) := by decide +kernel
theorem dX9_without_16 : decode cX9_without 16 = .ok (.iconst 0, 1) := by decide +kernel
theorem dX9_without_17 : decode cX9_without 17 = .ok (.invokevirtual 234, 3) := by decide +kernel
theorem dX9_without_20 : decode cX9_without 20 = .ok (.istore_n 2, 1) := by decide +kernel
theorem dX9_without_21 : decode cX9_without 21 = .ok (.iconst 0, 1) := by decide +kernel
theorem dX9_without_22 : decode cX9_without 22 = .ok (.istore_n 3, 1) := by decide +kernel
theorem dX9_without_23 : decode cX9_without 23 = .ok (.iload_n 3, 1) := by decide +kernel
theorem dX9_without_24 : decode cX9_without 24 = .ok (.aload_n 0, 1) := by decide +kernel
theorem dX9_without_25 : decode cX9_without 25 = .ok (.getfield 47, 3) := by decide +kernel
theorem dX9_without_28 : decode cX9_without 28 = .ok (.iconst 0, 1) := by decide +kernel
theorem dX9_without_29 : decode cX9_without 29 = .ok (.iaload, 1) := by decide +kernel
theorem dX9_without_30 : decode cX9_without 30 = .ok (.if_icmp .ge 38, 3) := by decide +kernel
theorem dX9_without_33 : decode cX9_without 33 = .ok (.aload_n 0, 1) := by decide +kernel
theorem dX9_without_34 : decode cX9_without 34 = .ok (.dup, 1) := by decide +kernel
theorem dX9_without_35 : decode cX9_without 35 = .ok (.getfield 168, 3) := by decide +kernel
theorem dX9_without_38 : decode cX9_without 38 = .ok (.aload_n 0, 1) := by decide +kernel
theorem dX9_without_39 : decode cX9_without 39 = .ok (.getfield 20, 3) := by decide +kernel
theorem dX9_without_42 : decode cX9_without 42 = .ok (.iload_n 3, 1) := by decide +kernel
theorem dX9_without_43 : decode cX9_without 43 = .ok (.iaload, 1) := by decide +kernel
theorem dX9_without_44 : decode cX9_without 44 = .ok (.iload_n 1, 1) := by decide +kernel
theorem dX9_without_45 : decode cX9_without 45 = .ok (.if_icmp .ne 7, 3) := by decide +kernel
theorem dX9_without_48 : decode cX9_without 48 = .ok (.iconst 1, 1) := by decide +kernel
theorem dX9_without_49 : decode cX9_without 49 = .ok (.goto 4, 3) := by decide +kernel
theorem dX9_without_52 : decode cX9_without 52 = .ok (.iconst 0, 1) := by decide +kernel
theorem dX9_without_53 : decode cX9_without 53 = .ok (.invokestatic 224, 3) := by decide +kernel
theorem dX9_without_56 : decode cX9_without 56 = .ok (.iload_n 3, 1) := by decide +kernel
theorem dX9_without_57 : decode cX9_without 57 = .ok (.ishl, 1) := by decide +kernel
theorem dX9_without_58 : decode cX9_without 58 = .ok (.ior, 1) := by decide +kernel
theorem dX9_without_59 : decode cX9_without 59 = .ok (.putfield 168, 3) := by decide +kernel
theorem dX9_without_62 : decode cX9_without 62 = .ok (.iinc 3 1, 3) := by decide +kernel
theorem dX9_without_65 : decode cX9_without 65 = .ok (.goto (-42), 3) := by decide +kernel
theorem dX9_without_68 : decode cX9_without 68 = .ok (.aload_n 0, 1) := by decide +kernel
theorem dX9_without_69 : decode cX9_without 69 = .ok (.iconst 0, 1) := by decide +kernel
theorem dX9_without_70 : decode cX9_without 70 = .ok (.invokevirtual 234, 3) := by decide +kernel
theorem dX9_without_73 : decode cX9_without 73 = .ok (.istore_n 3, 1) := by decide +kernel
theorem dX9_without_74 : decode cX9_without 74 = .ok (.aload_n 0, 1) := by decide +kernel
theorem dX9_without_75 : decode cX9_without 75 = .ok (.iconst 0, 1) := by decide +kernel
theorem dX9_without_76 : decode cX9_without 76 = .ok (.putfield 168, 3) := by decide +kernel
theorem dX9_without_79 : decode cX9_without 79 = .ok (.iload_n 2, 1) := by decide +kernel
theorem dX9_without_80 : decode cX9_without 80 = .ok (.ifCond .lt 7, 3) := by decide +kernel
theorem dX9_without_83 : decode cX9_without 83 = .ok (.iload_n 3, 1) := by decide +kernel
theorem dX9_without_84 : decode cX9_without 84 = .ok (.ifCond .ge 7, 3) := by decide +kernel
theorem dX9_without_87 : decode cX9_without 87 = .ok (.iconst (-1), 1) := by decide +kernel
theorem dX9_without_88 : decode cX9_without 88 = .ok (.goto 6, 3) := by decide +kernel
theorem dX9_without_91 : decode cX9_without 91 = .ok (.iload_n 3, 1) := by decide +kernel
theorem dX9_without_92 : decode cX9_without 92 = .ok (.iload_n 2, 1) := by decide +kernel
theorem dX9_without_93 : decode cX9_without 93 = .ok (.isub, 1) := by decide +kernel
theorem dX9_without_94 : decode cX9_without 94 = .ok (.ireturn, 1) := by decide +kernel
theorem dX9_copy_0 : decode cX9_copy 0 = .ok (.iconst 0, 1) := by decide +kernel
theorem dX9_copy_1 : decode cX9_copy 1 = .ok (.istore_n 3, 1) := by decide +kernel
theorem dX9_copy_2 : decode cX9_copy 2 = .ok (.iload_n 3, 1) := by decide +kernel
theorem dX9_copy_3 : decode cX9_copy 3 = .ok (.bipush 40, 2) := by decide +kernel
theorem dX9_copy_5 : decode cX9_copy 5 = .ok (.if_icmp .ge 25, 3) := by decide +kernel
theorem dX9_copy_8 : decode cX9_copy 8 = .ok (.aload_n 0, 1) := by decide +kernel
theorem dX9_copy_9 : decode cX9_copy 9 = .ok (.getfield 7, 3) := by decide +kernel
theorem dX9_copy_12 : decode cX9_copy 12 = .ok (.iload_n 2, 1) := by decide +kernel
theorem dX9_copy_13 : decode cX9_copy 13 = .ok (.iload_n 3, 1) := by decide +kernel
theorem dX9_copy_14 : decode cX9_copy 14 = .ok (.iadd, 1) := by decide +kernel
theorem dX9_copy_15 : decode cX9_copy 15 = .ok (.aload_n 0, 1) := by decide +kernel
theorem dX9_copy_16 : decode cX9_copy 16 = .ok (.getfield 7, 3) := by decide +kernel
theorem dX9_copy_19 : decode cX9_copy 19 = .ok (.iload_n 1, 1) := by decide +kernel
theorem dX9_copy_20 : decode cX9_copy 20 = .ok (.iload_n 3, 1) := by decide +kernel
theorem dX9_copy_21 : decode cX9_copy 21 = .ok (.iadd, 1) := by decide +kernel
theorem dX9_copy_22 : decode cX9_copy 22 = .ok (.iaload, 1) := by decide +kernel
theorem dX9_copy_23 : decode cX9_copy 23 = .ok (.iastore, 1) := by decide +kernel
theorem dX9_copy_24 : decode cX9_copy 24 = .ok (.iinc 3 1, 3) := by decide +kernel
theorem dX9_copy_27 : decode cX9_copy 27 = .ok (.goto (-25), 3) := by decide +kernel
theorem dX9_copy_30 : decode cX9_copy 30 = .ok (.return_, 1) := by decide +kernel
theorem dX9_raise_0 : decode cX9_raise 0 = .ok (.iload_n 1, 1) := by decide +kernel
theorem dX9_raise_1 : decode cX9_raise 1 = .ok (.i2l, 1) := by decide +kernel
theorem dX9_raise_2 : decode cX9_raise 2 = .ok (.lconst 0, 1) := by decide +kernel
theorem dX9_raise_3 : decode cX9_raise 3 = .ok (.ldc2_w 243, 3) := by decide +kernel
theorem dX9_raise_6 : decode cX9_raise 6 = .ok (.invokestatic 89, 3) := by decide +kernel
theorem dX9_raise_9 : decode cX9_raise 9 = .ok (.ifCond .eq 13, 3) := by decide +kernel
theorem dX9_raise_12 : decode cX9_raise 12 = .ok (.iload_n 2, 1) := by decide +kernel
theorem dX9_raise_13 : decode cX9_raise 13 = .ok (.i2l, 1) := by decide +kernel
theorem dX9_raise_14 : decode cX9_raise 14 = .ok (.lconst 0, 1) := by decide +kernel
theorem dX9_raise_15 : decode cX9_raise 15 = .ok (.lconst 1, 1) := by decide +kernel
theorem dX9_raise_16 : decode cX9_raise 16 = .ok (.invokestatic 89, 3) := by decide +kernel
theorem dX9_raise_19 : decode cX9_raise 19 = .ok (.ifCond .ne 6, 3) := by decide +kernel
theorem dX9_raise_22 : decode cX9_raise 22 = .ok (.ldc 93, 2) := by decide +kernel
theorem dX9_raise_24 : decode cX9_raise 24 = .ok (.ireturn, 1) := by decide +kernel
theorem dX9_raise_25 : decode cX9_raise 25 = .ok (.iconst 0, 1) := by decide +kernel
theorem dX9_raise_26 : decode cX9_raise 26 = .ok (.istore_n 3, 1) := by decide +kernel
theorem dX9_raise_27 : decode cX9_raise 27 = .ok (.iconst (-1), 1) := by decide +kernel
theorem dX9_raise_28 : decode cX9_raise 28 = .ok (.istore 4, 2) := by decide +kernel
theorem dX9_raise_30 : decode cX9_raise 30 = .ok (.aload_n 0, 1) := by decide +kernel
theorem dX9_raise_31 : decode cX9_raise 31 = .ok (.iconst 0, 1) := by decide +kernel
theorem dX9_raise_32 : decode cX9_raise 32 = .ok (.invokevirtual 217, 3) := by decide +kernel
theorem dX9_raise_35 : decode cX9_raise 35 = .ok (.iconst 0, 1) := by decide +kernel
theorem dX9_raise_36 : decode cX9_raise 36 = .ok (.istore 5, 2) := by decide +kernel
theorem dX9_raise_38 : decode cX9_raise 38 = .ok (.iload 5, 2) := by decide +kernel
theorem dX9_raise_40 : decode cX9_raise 40 = .ok (.bipush 20, 2) := by decide +kernel
theorem dX9_raise_42 : decode cX9_raise 42 = .ok (.if_icmp .gt 113, 3) := by decide +kernel
theorem dX9_raise_45 : decode cX9_raise 45 = .ok (.aload_n 0, 1) := by decide +kernel
theorem dX9_raise_46 : decode cX9_raise 46 = .ok (.iconst 0, 1) := by decide +kernel
theorem dX9_raise_47 : decode cX9_raise 47 = .ok (.bipush 40, 2) := by decide +kernel
theorem dX9_raise_49 : decode cX9_raise 49 = .ok (.invokevirtual 248, 3) := by decide +kernel
theorem dX9_raise_52 : decode cX9_raise 52 = .ok (.iconst 0, 1) := by decide +kernel
theorem dX9_raise_53 : decode cX9_raise 53 = .ok (.istore 6, 2) := by decide +kernel
theorem dX9_raise_55 : decode cX9_raise 55 = .ok (.iload 6, 2) := by decide +kernel
theorem dX9_raise_57 : decode cX9_raise 57 = .ok (.aload_n 0, 1) := by decide +kernel
theorem dX9_raise_58 : decode cX9_raise 58 = .ok (.getfield 47, 3) := by decide +kernel
theorem dX9_raise_61 : decode cX9_raise 61 = .ok (.iconst 0, 1) := by decide +kernel
theorem dX9_raise_62 : decode cX9_raise 62 = .ok (.iaload, 1) := by decide +kernel
theorem dX9_raise_63 : decode cX9_raise 63 = .ok (.if_icmp .ge 63, 3) := by decide +kernel
theorem dX9_raise_66 : decode cX9_raise 66 = .ok (.aload_n 0, 1) := by decide +kernel
theorem dX9_raise_67 : decode cX9_raise 67 = .ok (.getfield 7, 3) := by decide +kernel
theorem dX9_raise_70 : decode cX9_raise 70 = .ok (.bipush 10, 2) := by decide +kernel
theorem dX9_raise_72 : decode cX9_raise 72 = .ok (.iload 6, 2) := by decide +kernel
theorem dX9_raise_74 : decode cX9_raise 74 = .ok (.iadd, 1) := by decide +kernel
theorem dX9_raise_75 : decode cX9_raise 75 = .ok (.iaload, 1) := by decide +kernel
theorem dX9_raise_76 : decode cX9_raise 76 = .ok (.aload_n 0, 1) := by decide +kernel
theorem dX9_raise_77 : decode cX9_raise 77 = .ok (.getfield 20, 3) := by decide +kernel
theorem dX9_raise_80 : decode cX9_raise 80 = .ok (.iload 6, 2) := by decide +kernel
theorem dX9_raise_82 : decode cX9_raise 82 = .ok (.iaload, 1) := by decide +kernel
theorem dX9_raise_83 : decode cX9_raise 83 = .ok (.iload_n 1, 1) := by decide +kernel
theorem dX9_raise_84 : decode cX9_raise 84 = .ok (.if_icmp .ne 8, 3) := by decide +kernel
theorem dX9_raise_87 : decode cX9_raise 87 = .ok (.iload 5, 2) := by decide +kernel
theorem dX9_raise_89 : decode cX9_raise 89 = .ok (.goto 4, 3) := by decide +kernel
theorem dX9_raise_92 : decode cX9_raise 92 = .ok (.iconst 0, 1) := by decide +kernel
theorem dX9_raise_93 : decode cX9_raise 93 = .ok (.iadd, 1) := by decide +kernel
theorem dX9_raise_94 : decode cX9_raise 94 = .ok (.istore 7, 2) := by decide +kernel
theorem dX9_raise_96 : decode cX9_raise 96 = .ok (.aload_n 0, 1) := by decide +kernel
theorem dX9_raise_97 : decode cX9_raise 97 = .ok (.getfield 7, 3) := by decide +kernel
theorem dX9_raise_100 : decode cX9_raise 100 = .ok (.bipush 50, 2) := by decide +kernel
theorem dX9_raise_102 : decode cX9_raise 102 = .ok (.iload 6, 2) := by decide +kernel
theorem dX9_raise_104 : decode cX9_raise 104 = .ok (.iadd, 1) := by decide +kernel
theorem dX9_raise_105 : decode cX9_raise 105 = .ok (.iload 7, 2) := by decide +kernel
theorem dX9_raise_107 : decode cX9_raise 107 = .ok (.bipush 99, 2) := by decide +kernel
theorem dX9_raise_109 : decode cX9_raise 109 = .ok (.if_icmp .le 8, 3) := by decide +kernel
theorem dX9_raise_112 : decode cX9_raise 112 = .ok (.bipush 99, 2) := by decide +kernel
theorem dX9_raise_114 : decode cX9_raise 114 = .ok (.goto 5, 3) := by decide +kernel
theorem dX9_raise_117 : decode cX9_raise 117 = .ok (.iload 7, 2) := by decide +kernel
theorem dX9_raise_119 : decode cX9_raise 119 = .ok (.iastore, 1) := by decide +kernel
theorem dX9_raise_120 : decode cX9_raise 120 = .ok (.iinc 6 1, 3) := by decide +kernel
theorem dX9_raise_123 : decode cX9_raise 123 = .ok (.goto (-68), 3) := by decide +kernel
theorem dX9_raise_126 : decode cX9_raise 126 = .ok (.aload_n 0, 1) := by decide +kernel
theorem dX9_raise_127 : decode cX9_raise 127 = .ok (.bipush 40, 2) := by decide +kernel
theorem dX9_raise_129 : decode cX9_raise 129 = .ok (.iload_n 1, 1) := by decide +kernel
theorem dX9_raise_130 : decode cX9_raise 130 = .ok (.invokevirtual 245, 3) := by decide +kernel
theorem dX9_raise_133 : decode cX9_raise 133 = .ok (.istore 6, 2) := by decide +kernel
theorem dX9_raise_135 : decode cX9_raise 135 = .ok (.iload 6, 2) := by decide +kernel
theorem dX9_raise_137 : decode cX9_raise 137 = .ok (.iload 4, 2) := by decide +kernel
theorem dX9_raise_139 : decode cX9_raise 139 = .ok (.if_icmp .le 10, 3) := by decide +kernel
theorem dX9_raise_142 : decode cX9_raise 142 = .ok (.iload 5, 2) := by decide +kernel
theorem dX9_raise_144 : decode cX9_raise 144 = .ok (.istore_n 3, 1) := by decide +kernel
theorem dX9_raise_145 : decode cX9_raise 145 = .ok (.iload 6, 2) := by decide +kernel
theorem dX9_raise_147 : decode cX9_raise 147 = .ok (.istore 4, 2) := by decide +kernel
theorem dX9_raise_149 : decode cX9_raise 149 = .ok (.iinc 5 1, 3) := by decide +kernel
theorem dX9_raise_152 : decode cX9_raise 152 = .ok (.goto (-114), 3) := by decide +kernel
theorem dX9_raise_155 : decode cX9_raise 155 = .ok (.iload_n 2, 1) := by decide +kernel
theorem dX9_raise_156 : decode cX9_raise 156 = .ok (.ifCond .ne 7, 3) := by decide +kernel
theorem dX9_raise_159 : decode cX9_raise 159 = .ok (.iload_n 3, 1) := by decide +kernel
theorem dX9_raise_160 : decode cX9_raise 160 = .ok (.goto 5, 3) := by decide +kernel
theorem dX9_raise_163 : decode cX9_raise 163 = .ok (.iload 4, 2) := by decide +kernel
theorem dX9_raise_165 : decode cX9_raise 165 = .ok (.ireturn, 1) := by decide +kernel
theorem dX9_grow_0 : decode cX9_grow 0 = .ok (.iload_n 1, 1) := by decide +kernel
theorem dX9_grow_1 : decode cX9_grow 1 = .ok (.i2l, 1) := by decide +kernel
theorem dX9_grow_2 : decode cX9_grow 2 = .ok (.lconst 0, 1) := by decide +kernel
theorem dX9_grow_3 : decode cX9_grow 3 = .ok (.ldc2_w 192, 3) := by decide +kernel
theorem dX9_grow_6 : decode cX9_grow 6 = .ok (.invokestatic 89, 3) := by decide +kernel
theorem dX9_grow_9 : decode cX9_grow 9 = .ok (.ifCond .ne 6, 3) := by decide +kernel
theorem dX9_grow_12 : decode cX9_grow 12 = .ok (.ldc 93, 2) := by decide +kernel
theorem dX9_grow_14 : decode cX9_grow 14 = .ok (.ireturn, 1) := by decide +kernel
theorem dX9_grow_15 : decode cX9_grow 15 = .ok (.aload_n 0, 1) := by decide +kernel
theorem dX9_grow_16 : decode cX9_grow 16 = .ok (.iconst 0, 1) := by decide +kernel
theorem dX9_grow_17 : decode cX9_grow 17 = .ok (.bipush 40, 2) := by decide +kernel
theorem dX9_grow_19 : decode cX9_grow 19 = .ok (.invokevirtual 248, 3) := by decide +kernel
theorem dX9_grow_22 : decode cX9_grow 22 = .ok (.iconst (-1), 1) := by decide +kernel
theorem dX9_grow_23 : decode cX9_grow 23 = .ok (.istore_n 2, 1) := by decide +kernel
theorem dX9_grow_24 : decode cX9_grow 24 = .ok (.iconst 0, 1) := by decide +kernel
theorem dX9_grow_25 : decode cX9_grow 25 = .ok (.istore_n 3, 1) := by decide +kernel
theorem dX9_grow_26 : decode cX9_grow 26 = .ok (.iconst (-1), 1) := by decide +kernel
theorem dX9_grow_27 : decode cX9_grow 27 = .ok (.istore 4, 2) := by decide +kernel
theorem dX9_grow_29 : decode cX9_grow 29 = .ok (.iconst 0, 1) := by decide +kernel
theorem dX9_grow_30 : decode cX9_grow 30 = .ok (.istore 5, 2) := by decide +kernel
theorem dX9_grow_32 : decode cX9_grow 32 = .ok (.iload 5, 2) := by decide +kernel
theorem dX9_grow_34 : decode cX9_grow 34 = .ok (.aload_n 0, 1) := by decide +kernel
theorem dX9_grow_35 : decode cX9_grow 35 = .ok (.getfield 47, 3) := by decide +kernel
theorem dX9_grow_38 : decode cX9_grow 38 = .ok (.iconst 0, 1) := by decide +kernel
theorem dX9_grow_39 : decode cX9_grow 39 = .ok (.iaload, 1) := by decide +kernel
theorem dX9_grow_40 : decode cX9_grow 40 = .ok (.if_icmp .ge 82, 3) := by decide +kernel
theorem dX9_grow_43 : decode cX9_grow 43 = .ok (.iconst 0, 1) := by decide +kernel
theorem dX9_grow_44 : decode cX9_grow 44 = .ok (.istore 6, 2) := by decide +kernel
theorem dX9_grow_46 : decode cX9_grow 46 = .ok (.iload 6, 2) := by decide +kernel
theorem dX9_grow_48 : decode cX9_grow 48 = .ok (.bipush 9, 2) := by decide +kernel
theorem dX9_grow_50 : decode cX9_grow 50 = .ok (.if_icmp .gt 49, 3) := by decide +kernel
theorem dX9_grow_53 : decode cX9_grow 53 = .ok (.aload_n 0, 1) := by decide +kernel
theorem dX9_grow_54 : decode cX9_grow 54 = .ok (.getfield 7, 3) := by decide +kernel
theorem dX9_grow_57 : decode cX9_grow 57 = .ok (.bipush 40, 2) := by decide +kernel
theorem dX9_grow_59 : decode cX9_grow 59 = .ok (.iload 5, 2) := by decide +kernel
theorem dX9_grow_61 : decode cX9_grow 61 = .ok (.iadd, 1) := by decide +kernel
theorem dX9_grow_62 : decode cX9_grow 62 = .ok (.iload 6, 2) := by decide +kernel
theorem dX9_grow_64 : decode cX9_grow 64 = .ok (.iastore, 1) := by decide +kernel
theorem dX9_grow_65 : decode cX9_grow 65 = .ok (.aload_n 0, 1) := by decide +kernel
theorem dX9_grow_66 : decode cX9_grow 66 = .ok (.bipush 40, 2) := by decide +kernel
theorem dX9_grow_68 : decode cX9_grow 68 = .ok (.invokevirtual 177, 3) := by decide +kernel
theorem dX9_grow_71 : decode cX9_grow 71 = .ok (.invokestatic 181, 3) := by decide +kernel
theorem dX9_grow_74 : decode cX9_grow 74 = .ok (.istore 7, 2) := by decide +kernel
theorem dX9_grow_76 : decode cX9_grow 76 = .ok (.iload 7, 2) := by decide +kernel
theorem dX9_grow_78 : decode cX9_grow 78 = .ok (.iload 4, 2) := by decide +kernel
theorem dX9_grow_80 : decode cX9_grow 80 = .ok (.if_icmp .le 13, 3) := by decide +kernel
theorem dX9_grow_83 : decode cX9_grow 83 = .ok (.iload 5, 2) := by decide +kernel
theorem dX9_grow_85 : decode cX9_grow 85 = .ok (.istore_n 2, 1) := by decide +kernel
theorem dX9_grow_86 : decode cX9_grow 86 = .ok (.iload 6, 2) := by decide +kernel
theorem dX9_grow_88 : decode cX9_grow 88 = .ok (.istore_n 3, 1) := by decide +kernel
theorem dX9_grow_89 : decode cX9_grow 89 = .ok (.iload 7, 2) := by decide +kernel
theorem dX9_grow_91 : decode cX9_grow 91 = .ok (.istore 4, 2) := by decide +kernel
theorem dX9_grow_93 : decode cX9_grow 93 = .ok (.iinc 6 1, 3) := by decide +kernel
theorem dX9_grow_96 : decode cX9_grow 96 = .ok (.goto (-50), 3) := by decide +kernel
theorem dX9_grow_99 : decode cX9_grow 99 = .ok (.aload_n 0, 1) := by decide +kernel
theorem dX9_grow_100 : decode cX9_grow 100 = .ok (.getfield 7, 3) := by decide +kernel
theorem dX9_grow_103 : decode cX9_grow 103 = .ok (.bipush 40, 2) := by decide +kernel
theorem dX9_grow_105 : decode cX9_grow 105 = .ok (.iload 5, 2) := by decide +kernel
theorem dX9_grow_107 : decode cX9_grow 107 = .ok (.iadd, 1) := by decide +kernel
theorem dX9_grow_108 : decode cX9_grow 108 = .ok (.aload_n 0, 1) := by decide +kernel
theorem dX9_grow_109 : decode cX9_grow 109 = .ok (.getfield 7, 3) := by decide +kernel
theorem dX9_grow_112 : decode cX9_grow 112 = .ok (.iload 5, 2) := by decide +kernel
theorem dX9_grow_114 : decode cX9_grow 114 = .ok (.iaload, 1) := by decide +kernel
theorem dX9_grow_115 : decode cX9_grow 115 = .ok (.iastore, 1) := by decide +kernel
theorem dX9_grow_116 : decode cX9_grow 116 = .ok (.iinc 5 1, 3) := by decide +kernel
theorem dX9_grow_119 : decode cX9_grow 119 = .ok (.goto (-87), 3) := by decide +kernel
theorem dX9_grow_122 : decode cX9_grow 122 = .ok (.iload_n 2, 1) := by decide +kernel
theorem dX9_grow_123 : decode cX9_grow 123 = .ok (.ifCond .ge 7, 3) := by decide +kernel
theorem dX9_grow_126 : decode cX9_grow 126 = .ok (.iconst (-1), 1) := by decide +kernel
theorem dX9_grow_127 : decode cX9_grow 127 = .ok (.goto 22, 3) := by decide +kernel
theorem dX9_grow_130 : decode cX9_grow 130 = .ok (.iload_n 1, 1) := by decide +kernel
theorem dX9_grow_131 : decode cX9_grow 131 = .ok (.ifCond .ne 7, 3) := by decide +kernel
theorem dX9_grow_134 : decode cX9_grow 134 = .ok (.iload_n 2, 1) := by decide +kernel
theorem dX9_grow_135 : decode cX9_grow 135 = .ok (.goto 14, 3) := by decide +kernel
theorem dX9_grow_138 : decode cX9_grow 138 = .ok (.iload_n 1, 1) := by decide +kernel
theorem dX9_grow_139 : decode cX9_grow 139 = .ok (.iconst 1, 1) := by decide +kernel
theorem dX9_grow_140 : decode cX9_grow 140 = .ok (.if_icmp .ne 7, 3) := by decide +kernel
theorem dX9_grow_143 : decode cX9_grow 143 = .ok (.iload_n 3, 1) := by decide +kernel
theorem dX9_grow_144 : decode cX9_grow 144 = .ok (.goto 5, 3) := by decide +kernel
theorem dX9_grow_147 : decode cX9_grow 147 = .ok (.iload 4, 2) := by decide +kernel
theorem dX9_grow_149 : decode cX9_grow 149 = .ok (.ireturn, 1) := by decide +kernel
theorem dX9_wedding_0 : decode cX9_wedding 0 = .ok (.iload_n 1, 1) := by decide +kernel
theorem dX9_wedding_1 : decode cX9_wedding 1 = .ok (.i2l, 1) := by decide +kernel
theorem dX9_wedding_2 : decode cX9_wedding 2 = .ok (.lconst 0, 1) := by decide +kernel
theorem dX9_wedding_3 : decode cX9_wedding 3 = .ok (.ldc2_w 251, 3) := by decide +kernel
theorem dX9_wedding_6 : decode cX9_wedding 6 = .ok (.invokestatic 89, 3) := by decide +kernel
theorem dX9_wedding_9 : decode cX9_wedding 9 = .ok (.ifCond .eq 13, 3) := by decide +kernel
theorem dX9_wedding_12 : decode cX9_wedding 12 = .ok (.iload_n 2, 1) := by decide +kernel
theorem dX9_wedding_13 : decode cX9_wedding 13 = .ok (.i2l, 1) := by decide +kernel
theorem dX9_wedding_14 : decode cX9_wedding 14 = .ok (.lconst 0, 1) := by decide +kernel
theorem dX9_wedding_15 : decode cX9_wedding 15 = .ok (.lconst 1, 1) := by decide +kernel
theorem dX9_wedding_16 : decode cX9_wedding 16 = .ok (.invokestatic 89, 3) := by decide +kernel
theorem dX9_wedding_19 : decode cX9_wedding 19 = .ok (.ifCond .ne 6, 3) := by decide +kernel
theorem dX9_wedding_22 : decode cX9_wedding 22 = .ok (.ldc 93, 2) := by decide +kernel
theorem dX9_wedding_24 : decode cX9_wedding 24 = .ok (.ireturn, 1) := by decide +kernel
theorem dX9_wedding_25 : decode cX9_wedding 25 = .ok (.iconst (-1), 1) := by decide +kernel
theorem dX9_wedding_26 : decode cX9_wedding 26 = .ok (.istore_n 3, 1) := by decide +kernel
theorem dX9_wedding_27 : decode cX9_wedding 27 = .ok (.ldc 209, 2) := by decide +kernel
theorem dX9_wedding_29 : decode cX9_wedding 29 = .ok (.istore 4, 2) := by decide +kernel
theorem dX9_wedding_31 : decode cX9_wedding 31 = .ok (.iconst 0, 1) := by decide +kernel
theorem dX9_wedding_32 : decode cX9_wedding 32 = .ok (.istore 5, 2) := by decide +kernel
theorem dX9_wedding_34 : decode cX9_wedding 34 = .ok (.iload 5, 2) := by decide +kernel
theorem dX9_wedding_36 : decode cX9_wedding 36 = .ok (.aload_n 0, 1) := by decide +kernel
theorem dX9_wedding_37 : decode cX9_wedding 37 = .ok (.getfield 165, 3) := by decide +kernel
theorem dX9_wedding_40 : decode cX9_wedding 40 = .ok (.if_icmp .ge 160, 3) := by decide +kernel
theorem dX9_wedding_43 : decode cX9_wedding 43 = .ok (.iload 5, 2) := by decide +kernel
theorem dX9_wedding_45 : decode cX9_wedding 45 = .ok (.iconst 1, 1) := by decide +kernel
theorem dX9_wedding_46 : decode cX9_wedding 46 = .ok (.iadd, 1) := by decide +kernel
theorem dX9_wedding_47 : decode cX9_wedding 47 = .ok (.istore 6, 2) := by decide +kernel
theorem dX9_wedding_49 : decode cX9_wedding 49 = .ok (.iload 6, 2) := by decide +kernel
theorem dX9_wedding_51 : decode cX9_wedding 51 = .ok (.aload_n 0, 1) := by decide +kernel
theorem dX9_wedding_52 : decode cX9_wedding 52 = .ok (.getfield 165, 3) := by decide +kernel
theorem dX9_wedding_55 : decode cX9_wedding 55 = .ok (.if_icmp .ge 139, 3) := by decide +kernel
theorem dX9_wedding_58 : decode cX9_wedding 58 = .ok (.aload_n 0, 1) := by decide +kernel
theorem dX9_wedding_59 : decode cX9_wedding 59 = .ok (.getfield 57, 3) := by decide +kernel
theorem dX9_wedding_62 : decode cX9_wedding 62 = .ok (.iload 5, 2) := by decide +kernel
theorem dX9_wedding_64 : decode cX9_wedding 64 = .ok (.iaload, 1) := by decide +kernel
theorem dX9_wedding_65 : decode cX9_wedding 65 = .ok (.aload_n 0, 1) := by decide +kernel
theorem dX9_wedding_66 : decode cX9_wedding 66 = .ok (.getfield 57, 3) := by decide +kernel
theorem dX9_wedding_69 : decode cX9_wedding 69 = .ok (.iload 6, 2) := by decide +kernel
theorem dX9_wedding_71 : decode cX9_wedding 71 = .ok (.iaload, 1) := by decide +kernel
theorem dX9_wedding_72 : decode cX9_wedding 72 = .ok (.iand, 1) := by decide +kernel
theorem dX9_wedding_73 : decode cX9_wedding 73 = .ok (.ifCond .ne 34, 3) := by decide +kernel
theorem dX9_wedding_76 : decode cX9_wedding 76 = .ok (.aload_n 0, 1) := by decide +kernel
theorem dX9_wedding_77 : decode cX9_wedding 77 = .ok (.iconst 0, 1) := by decide +kernel
theorem dX9_wedding_78 : decode cX9_wedding 78 = .ok (.aload_n 0, 1) := by decide +kernel
theorem dX9_wedding_79 : decode cX9_wedding 79 = .ok (.getfield 57, 3) := by decide +kernel
theorem dX9_wedding_82 : decode cX9_wedding 82 = .ok (.iload 5, 2) := by decide +kernel
theorem dX9_wedding_84 : decode cX9_wedding 84 = .ok (.iaload, 1) := by decide +kernel
theorem dX9_wedding_85 : decode cX9_wedding 85 = .ok (.invokevirtual 171, 3) := by decide +kernel
theorem dX9_wedding_88 : decode cX9_wedding 88 = .ok (.aload_n 0, 1) := by decide +kernel
theorem dX9_wedding_89 : decode cX9_wedding 89 = .ok (.iconst 0, 1) := by decide +kernel
theorem dX9_wedding_90 : decode cX9_wedding 90 = .ok (.aload_n 0, 1) := by decide +kernel
theorem dX9_wedding_91 : decode cX9_wedding 91 = .ok (.getfield 57, 3) := by decide +kernel
theorem dX9_wedding_94 : decode cX9_wedding 94 = .ok (.iload 6, 2) := by decide +kernel
theorem dX9_wedding_96 : decode cX9_wedding 96 = .ok (.iaload, 1) := by decide +kernel
theorem dX9_wedding_97 : decode cX9_wedding 97 = .ok (.invokevirtual 171, 3) := by decide +kernel
theorem dX9_wedding_100 : decode cX9_wedding 100 = .ok (.if_icmp .ne 7, 3) := by decide +kernel
theorem dX9_wedding_103 : decode cX9_wedding 103 = .ok (.iconst 1, 1) := by decide +kernel
theorem dX9_wedding_104 : decode cX9_wedding 104 = .ok (.goto 4, 3) := by decide +kernel
theorem dX9_wedding_107 : decode cX9_wedding 107 = .ok (.iconst 0, 1) := by decide +kernel
theorem dX9_wedding_108 : decode cX9_wedding 108 = .ok (.istore 7, 2) := by decide +kernel
theorem dX9_wedding_110 : decode cX9_wedding 110 = .ok (.aload_n 0, 1) := by decide +kernel
theorem dX9_wedding_111 : decode cX9_wedding 111 = .ok (.bipush 10, 2) := by decide +kernel
theorem dX9_wedding_113 : decode cX9_wedding 113 = .ok (.aload_n 0, 1) := by decide +kernel
theorem dX9_wedding_114 : decode cX9_wedding 114 = .ok (.getfield 57, 3) := by decide +kernel
theorem dX9_wedding_117 : decode cX9_wedding 117 = .ok (.iload 5, 2) := by decide +kernel
theorem dX9_wedding_119 : decode cX9_wedding 119 = .ok (.iaload, 1) := by decide +kernel
theorem dX9_wedding_120 : decode cX9_wedding 120 = .ok (.aload_n 0, 1) := by decide +kernel
theorem dX9_wedding_121 : decode cX9_wedding 121 = .ok (.getfield 57, 3) := by decide +kernel
theorem dX9_wedding_124 : decode cX9_wedding 124 = .ok (.iload 6, 2) := by decide +kernel
theorem dX9_wedding_126 : decode cX9_wedding 126 = .ok (.iaload, 1) := by decide +kernel
theorem dX9_wedding_127 : decode cX9_wedding 127 = .ok (.ior, 1) := by decide +kernel
theorem dX9_wedding_128 : decode cX9_wedding 128 = .ok (.invokevirtual 171, 3) := by decide +kernel
theorem dX9_wedding_131 : decode cX9_wedding 131 = .ok (.istore 8, 2) := by decide +kernel
theorem dX9_wedding_133 : decode cX9_wedding 133 = .ok (.iload 7, 2) := by decide +kernel
theorem dX9_wedding_135 : decode cX9_wedding 135 = .ok (.ifCond .eq 53, 3) := by decide +kernel
theorem dX9_wedding_138 : decode cX9_wedding 138 = .ok (.iload 8, 2) := by decide +kernel
theorem dX9_wedding_140 : decode cX9_wedding 140 = .ok (.iload 4, 2) := by decide +kernel
theorem dX9_wedding_142 : decode cX9_wedding 142 = .ok (.if_icmp .ge 46, 3) := by decide +kernel
theorem dX9_wedding_145 : decode cX9_wedding 145 = .ok (.aload_n 0, 1) := by decide +kernel
theorem dX9_wedding_146 : decode cX9_wedding 146 = .ok (.aload_n 0, 1) := by decide +kernel
theorem dX9_wedding_147 : decode cX9_wedding 147 = .ok (.getfield 57, 3) := by decide +kernel
theorem dX9_wedding_150 : decode cX9_wedding 150 = .ok (.iload 5, 2) := by decide +kernel
theorem dX9_wedding_152 : decode cX9_wedding 152 = .ok (.iaload, 1) := by decide +kernel
theorem dX9_wedding_153 : decode cX9_wedding 153 = .ok (.aload_n 0, 1) := by decide +kernel
theorem dX9_wedding_154 : decode cX9_wedding 154 = .ok (.getfield 57, 3) := by decide +kernel
theorem dX9_wedding_157 : decode cX9_wedding 157 = .ok (.iload 6, 2) := by decide +kernel
theorem dX9_wedding_159 : decode cX9_wedding 159 = .ok (.iaload, 1) := by decide +kernel
theorem dX9_wedding_160 : decode cX9_wedding 160 = .ok (.ior, 1) := by decide +kernel
theorem dX9_wedding_161 : decode cX9_wedding 161 = .ok (.iload_n 1, 1) := by decide +kernel
theorem dX9_wedding_162 : decode cX9_wedding 162 = .ok (.invokevirtual 198, 3) := by decide +kernel
theorem dX9_wedding_165 : decode cX9_wedding 165 = .ok (.ifCond .eq 23, 3) := by decide +kernel
theorem dX9_wedding_168 : decode cX9_wedding 168 = .ok (.aload_n 0, 1) := by decide +kernel
theorem dX9_wedding_169 : decode cX9_wedding 169 = .ok (.getfield 57, 3) := by decide +kernel
theorem dX9_wedding_172 : decode cX9_wedding 172 = .ok (.iload 5, 2) := by decide +kernel
theorem dX9_wedding_174 : decode cX9_wedding 174 = .ok (.iaload, 1) := by decide +kernel
theorem dX9_wedding_175 : decode cX9_wedding 175 = .ok (.aload_n 0, 1) := by decide +kernel
theorem dX9_wedding_176 : decode cX9_wedding 176 = .ok (.getfield 57, 3) := by decide +kernel
theorem dX9_wedding_179 : decode cX9_wedding 179 = .ok (.iload 6, 2) := by decide +kernel
theorem dX9_wedding_181 : decode cX9_wedding 181 = .ok (.iaload, 1) := by decide +kernel
theorem dX9_wedding_182 : decode cX9_wedding 182 = .ok (.ior, 1) := by decide +kernel
theorem dX9_wedding_183 : decode cX9_wedding 183 = .ok (.istore_n 3, 1) := by decide +kernel
theorem dX9_wedding_184 : decode cX9_wedding 184 = .ok (.iload 8, 2) := by decide +kernel
theorem dX9_wedding_186 : decode cX9_wedding 186 = .ok (.istore 4, 2) := by decide +kernel
theorem dX9_wedding_188 : decode cX9_wedding 188 = .ok (.iinc 6 1, 3) := by decide +kernel
theorem dX9_wedding_191 : decode cX9_wedding 191 = .ok (.goto (-142), 3) := by decide +kernel
theorem dX9_wedding_194 : decode cX9_wedding 194 = .ok (.iinc 5 1, 3) := by decide +kernel
theorem dX9_wedding_197 : decode cX9_wedding 197 = .ok (.goto (-163), 3) := by decide +kernel
theorem dX9_wedding_200 : decode cX9_wedding 200 = .ok (.iload_n 3, 1) := by decide +kernel
theorem dX9_wedding_201 : decode cX9_wedding 201 = .ok (.ifCond .ge 7, 3) := by decide +kernel
theorem dX9_wedding_204 : decode cX9_wedding 204 = .ok (.iconst (-1), 1) := by decide +kernel
theorem dX9_wedding_205 : decode cX9_wedding 205 = .ok (.goto 13, 3) := by decide +kernel
theorem dX9_wedding_208 : decode cX9_wedding 208 = .ok (.iload_n 2, 1) := by decide +kernel
theorem dX9_wedding_209 : decode cX9_wedding 209 = .ok (.ifCond .ne 8, 3) := by decide +kernel
theorem dX9_wedding_212 : decode cX9_wedding 212 = .ok (.iload 4, 2) := by decide +kernel
theorem dX9_wedding_214 : decode cX9_wedding 214 = .ok (.goto 4, 3) := by decide +kernel
theorem dX9_wedding_217 : decode cX9_wedding 217 = .ok (.iload_n 3, 1) := by decide +kernel
theorem dX9_wedding_218 : decode cX9_wedding 218 = .ok (.ireturn, 1) := by decide +kernel
theorem dX9_see_0 : decode cX9_see 0 = .ok (.iload_n 1, 1) := by decide +kernel
theorem dX9_see_1 : decode cX9_see 1 = .ok (.i2l, 1) := by decide +kernel
theorem dX9_see_2 : decode cX9_see 2 = .ok (.lconst 0, 1) := by decide +kernel
theorem dX9_see_3 : decode cX9_see 3 = .ok (.ldc2_w 251, 3) := by decide +kernel
theorem dX9_see_6 : decode cX9_see 6 = .ok (.invokestatic 89, 3) := by decide +kernel
theorem dX9_see_9 : decode cX9_see 9 = .ok (.ifCond .eq 15, 3) := by decide +kernel
theorem dX9_see_12 : decode cX9_see 12 = .ok (.iload_n 2, 1) := by decide +kernel
theorem dX9_see_13 : decode cX9_see 13 = .ok (.i2l, 1) := by decide +kernel
theorem dX9_see_14 : decode cX9_see 14 = .ok (.lconst 0, 1) := by decide +kernel
theorem dX9_see_15 : decode cX9_see 15 = .ok (.ldc2_w 253, 3) := by decide +kernel
theorem dX9_see_18 : decode cX9_see 18 = .ok (.invokestatic 89, 3) := by decide +kernel
theorem dX9_see_21 : decode cX9_see 21 = .ok (.ifCond .ne 6, 3) := by decide +kernel
theorem dX9_see_24 : decode cX9_see 24 = .ok (.ldc 93, 2) := by decide +kernel
theorem dX9_see_26 : decode cX9_see 26 = .ok (.ireturn, 1) := by decide +kernel
theorem dX9_see_27 : decode cX9_see 27 = .ok (.aload_n 0, 1) := by decide +kernel
theorem dX9_see_28 : decode cX9_see 28 = .ok (.getfield 156, 3) := by decide +kernel
theorem dX9_see_31 : decode cX9_see 31 = .ok (.bipush 20, 2) := by decide +kernel
theorem dX9_see_33 : decode cX9_see 33 = .ok (.if_icmp .ne 6, 3) := by decide +kernel
theorem dX9_see_36 : decode cX9_see 36 = .ok (.ldc 97, 2) := by decide +kernel
theorem dX9_see_38 : decode cX9_see 38 = .ok (.ireturn, 1) := by decide +kernel
theorem dX9_see_39 : decode cX9_see 39 = .ok (.aload_n 0, 1) := by decide +kernel
theorem dX9_see_40 : decode cX9_see 40 = .ok (.getfield 75, 3) := by decide +kernel
theorem dX9_see_43 : decode cX9_see 43 = .ok (.aload_n 0, 1) := by decide +kernel
theorem dX9_see_44 : decode cX9_see 44 = .ok (.getfield 156, 3) := by decide +kernel
theorem dX9_see_47 : decode cX9_see 47 = .ok (.iload_n 1, 1) := by decide +kernel
theorem dX9_see_48 : decode cX9_see 48 = .ok (.iastore, 1) := by decide +kernel
theorem dX9_see_49 : decode cX9_see 49 = .ok (.aload_n 0, 1) := by decide +kernel
theorem dX9_see_50 : decode cX9_see 50 = .ok (.getfield 78, 3) := by decide +kernel
theorem dX9_see_53 : decode cX9_see 53 = .ok (.aload_n 0, 1) := by decide +kernel
theorem dX9_see_54 : decode cX9_see 54 = .ok (.getfield 156, 3) := by decide +kernel
theorem dX9_see_57 : decode cX9_see 57 = .ok (.iload_n 2, 1) := by decide +kernel
theorem dX9_see_58 : decode cX9_see 58 = .ok (.iastore, 1) := by decide +kernel
theorem dX9_see_59 : decode cX9_see 59 = .ok (.aload_n 0, 1) := by decide +kernel
theorem dX9_see_60 : decode cX9_see 60 = .ok (.dup, 1) := by decide +kernel
theorem dX9_see_61 : decode cX9_see 61 = .ok (.getfield 156, 3) := by decide +kernel
theorem dX9_see_64 : decode cX9_see 64 = .ok (.iconst 1, 1) := by decide +kernel
theorem dX9_see_65 : decode cX9_see 65 = .ok (.iadd, 1) := by decide +kernel
theorem dX9_see_66 : decode cX9_see 66 = .ok (.putfield 156, 3) := by decide +kernel
theorem dX9_see_69 : decode cX9_see 69 = .ok (.aload_n 0, 1) := by decide +kernel
theorem dX9_see_70 : decode cX9_see 70 = .ok (.getfield 156, 3) := by decide +kernel
theorem dX9_see_73 : decode cX9_see 73 = .ok (.ireturn, 1) := by decide +kernel
theorem dX9_seenBy_0 : decode cX9_seenBy 0 = .ok (.iconst 0, 1) := by decide +kernel
theorem dX9_seenBy_1 : decode cX9_seenBy 1 = .ok (.istore_n 3, 1) := by decide +kernel
theorem dX9_seenBy_2 : decode cX9_seenBy 2 = .ok (.iconst (-1), 1) := by decide +kernel
theorem dX9_seenBy_3 : decode cX9_seenBy 3 = .ok (.istore 4, 2) := by decide +kernel
theorem dX9_seenBy_5 : decode cX9_seenBy 5 = .ok (.iconst 0, 1) := by decide +kernel
theorem dX9_seenBy_6 : decode cX9_seenBy 6 = .ok (.istore 5, 2) := by decide +kernel
theorem dX9_seenBy_8 : decode cX9_seenBy 8 = .ok (.iload 5, 2) := by decide +kernel
theorem dX9_seenBy_10 : decode cX9_seenBy 10 = .ok (.aload_n 0, 1) := by decide +kernel
theorem dX9_seenBy_11 : decode cX9_seenBy 11 = .ok (.getfield 165, 3) := by decide +kernel
theorem dX9_seenBy_14 : decode cX9_seenBy 14 = .ok (.if_icmp .ge 72, 3) := by decide +kernel
theorem dX9_seenBy_17 : decode cX9_seenBy 17 = .ok (.aload_n 0, 1) := by decide +kernel
theorem dX9_seenBy_18 : decode cX9_seenBy 18 = .ok (.iconst 0, 1) := by decide +kernel
theorem dX9_seenBy_19 : decode cX9_seenBy 19 = .ok (.aload_n 0, 1) := by decide +kernel
theorem dX9_seenBy_20 : decode cX9_seenBy 20 = .ok (.getfield 57, 3) := by decide +kernel
theorem dX9_seenBy_23 : decode cX9_seenBy 23 = .ok (.iload 5, 2) := by decide +kernel
theorem dX9_seenBy_25 : decode cX9_seenBy 25 = .ok (.iaload, 1) := by decide +kernel
theorem dX9_seenBy_26 : decode cX9_seenBy 26 = .ok (.invokevirtual 171, 3) := by decide +kernel
theorem dX9_seenBy_29 : decode cX9_seenBy 29 = .ok (.aload_n 0, 1) := by decide +kernel
theorem dX9_seenBy_30 : decode cX9_seenBy 30 = .ok (.getfield 78, 3) := by decide +kernel
theorem dX9_seenBy_33 : decode cX9_seenBy 33 = .ok (.iload_n 1, 1) := by decide +kernel
theorem dX9_seenBy_34 : decode cX9_seenBy 34 = .ok (.iaload, 1) := by decide +kernel
theorem dX9_seenBy_35 : decode cX9_seenBy 35 = .ok (.if_icmp .ne 45, 3) := by decide +kernel
theorem dX9_seenBy_38 : decode cX9_seenBy 38 = .ok (.aload_n 0, 1) := by decide +kernel
theorem dX9_seenBy_39 : decode cX9_seenBy 39 = .ok (.aload_n 0, 1) := by decide +kernel
theorem dX9_seenBy_40 : decode cX9_seenBy 40 = .ok (.getfield 57, 3) := by decide +kernel
theorem dX9_seenBy_43 : decode cX9_seenBy 43 = .ok (.iload 5, 2) := by decide +kernel
theorem dX9_seenBy_45 : decode cX9_seenBy 45 = .ok (.iaload, 1) := by decide +kernel
theorem dX9_seenBy_46 : decode cX9_seenBy 46 = .ok (.aload_n 0, 1) := by decide +kernel
theorem dX9_seenBy_47 : decode cX9_seenBy 47 = .ok (.getfield 75, 3) := by decide +kernel
theorem dX9_seenBy_50 : decode cX9_seenBy 50 = .ok (.iload_n 1, 1) := by decide +kernel
theorem dX9_seenBy_51 : decode cX9_seenBy 51 = .ok (.iaload, 1) := by decide +kernel
theorem dX9_seenBy_52 : decode cX9_seenBy 52 = .ok (.invokevirtual 198, 3) := by decide +kernel
theorem dX9_seenBy_55 : decode cX9_seenBy 55 = .ok (.ifCond .eq 25, 3) := by decide +kernel
theorem dX9_seenBy_58 : decode cX9_seenBy 58 = .ok (.iload_n 3, 1) := by decide +kernel
theorem dX9_seenBy_59 : decode cX9_seenBy 59 = .ok (.aload_n 0, 1) := by decide +kernel
theorem dX9_seenBy_60 : decode cX9_seenBy 60 = .ok (.getfield 57, 3) := by decide +kernel
theorem dX9_seenBy_63 : decode cX9_seenBy 63 = .ok (.iload 5, 2) := by decide +kernel
theorem dX9_seenBy_65 : decode cX9_seenBy 65 = .ok (.iaload, 1) := by decide +kernel
theorem dX9_seenBy_66 : decode cX9_seenBy 66 = .ok (.ior, 1) := by decide +kernel
theorem dX9_seenBy_67 : decode cX9_seenBy 67 = .ok (.istore_n 3, 1) := by decide +kernel
theorem dX9_seenBy_68 : decode cX9_seenBy 68 = .ok (.iload 4, 2) := by decide +kernel
theorem dX9_seenBy_70 : decode cX9_seenBy 70 = .ok (.aload_n 0, 1) := by decide +kernel
theorem dX9_seenBy_71 : decode cX9_seenBy 71 = .ok (.getfield 57, 3) := by decide +kernel
theorem dX9_seenBy_74 : decode cX9_seenBy 74 = .ok (.iload 5, 2) := by decide +kernel
theorem dX9_seenBy_76 : decode cX9_seenBy 76 = .ok (.iaload, 1) := by decide +kernel
theorem dX9_seenBy_77 : decode cX9_seenBy 77 = .ok (.iand, 1) := by decide +kernel
theorem dX9_seenBy_78 : decode cX9_seenBy 78 = .ok (.istore 4, 2) := by decide +kernel
theorem dX9_seenBy_80 : decode cX9_seenBy 80 = .ok (.iinc 5 1, 3) := by decide +kernel
theorem dX9_seenBy_83 : decode cX9_seenBy 83 = .ok (.goto (-75), 3) := by decide +kernel
theorem dX9_seenBy_86 : decode cX9_seenBy 86 = .ok (.iload_n 3, 1) := by decide +kernel
theorem dX9_seenBy_87 : decode cX9_seenBy 87 = .ok (.ifCond .eq 7, 3) := by decide +kernel
theorem dX9_seenBy_90 : decode cX9_seenBy 90 = .ok (.iload_n 2, 1) := by decide +kernel
theorem dX9_seenBy_91 : decode cX9_seenBy 91 = .ok (.ifCond .ne 7, 3) := by decide +kernel
theorem dX9_seenBy_94 : decode cX9_seenBy 94 = .ok (.iload_n 3, 1) := by decide +kernel
theorem dX9_seenBy_95 : decode cX9_seenBy 95 = .ok (.goto 5, 3) := by decide +kernel
theorem dX9_seenBy_98 : decode cX9_seenBy 98 = .ok (.iload 4, 2) := by decide +kernel
theorem dX9_seenBy_100 : decode cX9_seenBy 100 = .ok (.ireturn, 1) := by decide +kernel
theorem dX9_seen_0 : decode cX9_seen 0 = .ok (.iload_n 2, 1) := by decide +kernel
theorem dX9_seen_1 : decode cX9_seen 1 = .ok (.i2l, 1) := by decide +kernel
theorem dX9_seen_2 : decode cX9_seen 2 = .ok (.lconst 0, 1) := by decide +kernel
theorem dX9_seen_3 : decode cX9_seen 3 = .ok (.lconst 1, 1) := by decide +kernel
theorem dX9_seen_4 : decode cX9_seen 4 = .ok (.invokestatic 89, 3) := by decide +kernel
theorem dX9_seen_7 : decode cX9_seen 7 = .ok (.ifCond .ne 6, 3) := by decide +kernel
theorem dX9_seen_10 : decode cX9_seen 10 = .ok (.ldc 93, 2) := by decide +kernel
theorem dX9_seen_12 : decode cX9_seen 12 = .ok (.ireturn, 1) := by decide +kernel
theorem dX9_seen_13 : decode cX9_seen 13 = .ok (.iload_n 1, 1) := by decide +kernel
theorem dX9_seen_14 : decode cX9_seen 14 = .ok (.i2l, 1) := by decide +kernel
theorem dX9_seen_15 : decode cX9_seen 15 = .ok (.lconst 0, 1) := by decide +kernel
theorem dX9_seen_16 : decode cX9_seen 16 = .ok (.aload_n 0, 1) := by decide +kernel
theorem dX9_seen_17 : decode cX9_seen 17 = .ok (.getfield 156, 3) := by decide +kernel
theorem dX9_seen_20 : decode cX9_seen 20 = .ok (.iconst 1, 1) := by decide +kernel
theorem dX9_seen_21 : decode cX9_seen 21 = .ok (.isub, 1) := by decide +kernel
theorem dX9_seen_22 : decode cX9_seen 22 = .ok (.i2l, 1) := by decide +kernel
theorem dX9_seen_23 : decode cX9_seen 23 = .ok (.invokestatic 89, 3) := by decide +kernel
theorem dX9_seen_26 : decode cX9_seen 26 = .ok (.ifCond .eq 12, 3) := by decide +kernel
theorem dX9_seen_29 : decode cX9_seen 29 = .ok (.aload_n 0, 1) := by decide +kernel
theorem dX9_seen_30 : decode cX9_seen 30 = .ok (.iload_n 1, 1) := by decide +kernel
theorem dX9_seen_31 : decode cX9_seen 31 = .ok (.iload_n 2, 1) := by decide +kernel
theorem dX9_seen_32 : decode cX9_seen 32 = .ok (.invokevirtual 255, 3) := by decide +kernel
theorem dX9_seen_35 : decode cX9_seen 35 = .ok (.goto 4, 3) := by decide +kernel
theorem dX9_seen_38 : decode cX9_seen 38 = .ok (.iconst (-1), 1) := by decide +kernel
theorem dX9_seen_39 : decode cX9_seen 39 = .ok (.ireturn, 1) := by decide +kernel
theorem dX9_strange_0 : decode cX9_strange 0 = .ok (.iconst 0, 1) := by decide +kernel
theorem dX9_strange_1 : decode cX9_strange 1 = .ok (.istore_n 1, 1) := by decide +kernel
theorem dX9_strange_2 : decode cX9_strange 2 = .ok (.iload_n 1, 1) := by decide +kernel
theorem dX9_strange_3 : decode cX9_strange 3 = .ok (.aload_n 0, 1) := by decide +kernel
theorem dX9_strange_4 : decode cX9_strange 4 = .ok (.getfield 156, 3) := by decide +kernel
theorem dX9_strange_7 : decode cX9_strange 7 = .ok (.if_icmp .ge 20, 3) := by decide +kernel
theorem dX9_strange_10 : decode cX9_strange 10 = .ok (.aload_n 0, 1) := by decide +kernel
theorem dX9_strange_11 : decode cX9_strange 11 = .ok (.iload_n 1, 1) := by decide +kernel
theorem dX9_strange_12 : decode cX9_strange 12 = .ok (.iconst 0, 1) := by decide +kernel
theorem dX9_strange_13 : decode cX9_strange 13 = .ok (.invokevirtual 255, 3) := by decide +kernel
theorem dX9_strange_16 : decode cX9_strange 16 = .ok (.ifCond .ne 5, 3) := by decide +kernel
theorem dX9_strange_19 : decode cX9_strange 19 = .ok (.iload_n 1, 1) := by decide +kernel
theorem dX9_strange_20 : decode cX9_strange 20 = .ok (.ireturn, 1) := by decide +kernel
theorem dX9_strange_21 : decode cX9_strange 21 = .ok (.iinc 1 1, 3) := by decide +kernel
theorem dX9_strange_24 : decode cX9_strange 24 = .ok (.goto (-22), 3) := by decide +kernel
theorem dX9_strange_27 : decode cX9_strange 27 = .ok (.iconst (-1), 1) := by decide +kernel
theorem dX9_strange_28 : decode cX9_strange 28 = .ok (.ireturn, 1) := by decide +kernel
theorem dX9_pass_0 : decode cX9_pass 0 = .ok (.aload_n 0, 1) := by decide +kernel
theorem dX9_pass_1 : decode cX9_pass 1 = .ok (.iconst 0, 1) := by decide +kernel
theorem dX9_pass_2 : decode cX9_pass 2 = .ok (.invokevirtual 234, 3) := by decide +kernel
theorem dX9_pass_5 : decode cX9_pass 5 = .ok (.istore_n 1, 1) := by decide +kernel
theorem dX9_pass_6 : decode cX9_pass 6 = .ok (.aload_n 0, 1) := by decide +kernel
theorem dX9_pass_7 : decode cX9_pass 7 = .ok (.getfield 7, 3) := by decide +kernel
theorem dX9_pass_10 : decode cX9_pass 10 = .ok (.bipush 32, 2) := by decide +kernel
theorem dX9_pass_12 : decode cX9_pass 12 = .ok (.dup2, 1) := by decide +kernel
theorem dX9_pass_13 : decode cX9_pass 13 = .ok (.iaload, 1) := by decide +kernel
theorem dX9_pass_14 : decode cX9_pass 14 = .ok (.iconst 1, 1) := by decide +kernel
theorem dX9_pass_15 : decode cX9_pass 15 = .ok (.iadd, 1) := by decide +kernel
theorem dX9_pass_16 : decode cX9_pass 16 = .ok (.iastore, 1) := by decide +kernel
theorem dX9_pass_17 : decode cX9_pass 17 = .ok (.iload_n 1, 1) := by decide +kernel
theorem dX9_pass_18 : decode cX9_pass 18 = .ok (.ifCond .ge 5, 3) := by decide +kernel
theorem dX9_pass_21 : decode cX9_pass 21 = .ok (.iconst 0, 1) := by decide +kernel
theorem dX9_pass_22 : decode cX9_pass 22 = .ok (.ireturn, 1) := by decide +kernel
theorem dX9_pass_23 : decode cX9_pass 23 = .ok (.aload_n 0, 1) := by decide +kernel
theorem dX9_pass_24 : decode cX9_pass 24 = .ok (.iconst 0, 1) := by decide +kernel
theorem dX9_pass_25 : decode cX9_pass 25 = .ok (.invokevirtual 237, 3) := by decide +kernel
theorem dX9_pass_28 : decode cX9_pass 28 = .ok (.iconst 0, 1) := by decide +kernel
theorem dX9_pass_29 : decode cX9_pass 29 = .ok (.istore_n 2, 1) := by decide +kernel
theorem dX9_pass_30 : decode cX9_pass 30 = .ok (.iload_n 2, 1) := by decide +kernel
theorem dX9_pass_31 : decode cX9_pass 31 = .ok (.aload_n 0, 1) := by decide +kernel
theorem dX9_pass_32 : decode cX9_pass 32 = .ok (.getfield 47, 3) := by decide +kernel
theorem dX9_pass_35 : decode cX9_pass 35 = .ok (.iconst 0, 1) := by decide +kernel
theorem dX9_pass_36 : decode cX9_pass 36 = .ok (.iaload, 1) := by decide +kernel
theorem dX9_pass_37 : decode cX9_pass 37 = .ok (.if_icmp .ge 106, 3) := by decide +kernel
theorem dX9_pass_40 : decode cX9_pass 40 = .ok (.iconst 0, 1) := by decide +kernel
theorem dX9_pass_41 : decode cX9_pass 41 = .ok (.istore_n 3, 1) := by decide +kernel
theorem dX9_pass_42 : decode cX9_pass 42 = .ok (.iload_n 3, 1) := by decide +kernel
theorem dX9_pass_43 : decode cX9_pass 43 = .ok (.bipush 12, 2) := by decide +kernel
theorem dX9_pass_45 : decode cX9_pass 45 = .ok (.if_icmp .ge 34, 3) := by decide +kernel
theorem dX9_pass_48 : decode cX9_pass 48 = .ok (.aload_n 0, 1) := by decide +kernel
theorem dX9_pass_49 : decode cX9_pass 49 = .ok (.getfield 7, 3) := by decide +kernel
theorem dX9_pass_52 : decode cX9_pass 52 = .ok (.bipush 20, 2) := by decide +kernel
theorem dX9_pass_54 : decode cX9_pass 54 = .ok (.iload_n 2, 1) := by decide +kernel
theorem dX9_pass_55 : decode cX9_pass 55 = .ok (.iadd, 1) := by decide +kernel
theorem dX9_pass_56 : decode cX9_pass 56 = .ok (.dup2, 1) := by decide +kernel
theorem dX9_pass_57 : decode cX9_pass 57 = .ok (.iaload, 1) := by decide +kernel
theorem dX9_pass_58 : decode cX9_pass 58 = .ok (.aload_n 0, 1) := by decide +kernel
theorem dX9_pass_59 : decode cX9_pass 59 = .ok (.getfield 72, 3) := by decide +kernel
theorem dX9_pass_62 : decode cX9_pass 62 = .ok (.iload_n 3, 1) := by decide +kernel
theorem dX9_pass_63 : decode cX9_pass 63 = .ok (.iaload, 1) := by decide +kernel
theorem dX9_pass_64 : decode cX9_pass 64 = .ok (.iload_n 2, 1) := by decide +kernel
theorem dX9_pass_65 : decode cX9_pass 65 = .ok (.invokestatic 140, 3) := by decide +kernel
theorem dX9_pass_68 : decode cX9_pass 68 = .ok (.invokestatic 224, 3) := by decide +kernel
theorem dX9_pass_71 : decode cX9_pass 71 = .ok (.iadd, 1) := by decide +kernel
theorem dX9_pass_72 : decode cX9_pass 72 = .ok (.iastore, 1) := by decide +kernel
theorem dX9_pass_73 : decode cX9_pass 73 = .ok (.iinc 3 1, 3) := by decide +kernel
theorem dX9_pass_76 : decode cX9_pass 76 = .ok (.goto (-34), 3) := by decide +kernel
theorem dX9_pass_79 : decode cX9_pass 79 = .ok (.aload_n 0, 1) := by decide +kernel
theorem dX9_pass_80 : decode cX9_pass 80 = .ok (.getfield 7, 3) := by decide +kernel
theorem dX9_pass_83 : decode cX9_pass 83 = .ok (.bipush 20, 2) := by decide +kernel
theorem dX9_pass_85 : decode cX9_pass 85 = .ok (.iload_n 2, 1) := by decide +kernel
theorem dX9_pass_86 : decode cX9_pass 86 = .ok (.iadd, 1) := by decide +kernel
theorem dX9_pass_87 : decode cX9_pass 87 = .ok (.iaload, 1) := by decide +kernel
theorem dX9_pass_88 : decode cX9_pass 88 = .ok (.bipush 10, 2) := by decide +kernel
theorem dX9_pass_90 : decode cX9_pass 90 = .ok (.if_icmp .lt 47, 3) := by decide +kernel
theorem dX9_pass_93 : decode cX9_pass 93 = .ok (.aload_n 0, 1) := by decide +kernel
theorem dX9_pass_94 : decode cX9_pass 94 = .ok (.getfield 7, 3) := by decide +kernel
theorem dX9_pass_97 : decode cX9_pass 97 = .ok (.bipush 20, 2) := by decide +kernel
theorem dX9_pass_99 : decode cX9_pass 99 = .ok (.iload_n 2, 1) := by decide +kernel
theorem dX9_pass_100 : decode cX9_pass 100 = .ok (.iadd, 1) := by decide +kernel
theorem dX9_pass_101 : decode cX9_pass 101 = .ok (.dup2, 1) := by decide +kernel
theorem dX9_pass_102 : decode cX9_pass 102 = .ok (.iaload, 1) := by decide +kernel
theorem dX9_pass_103 : decode cX9_pass 103 = .ok (.bipush 10, 2) := by decide +kernel
theorem dX9_pass_105 : decode cX9_pass 105 = .ok (.isub, 1) := by decide +kernel
theorem dX9_pass_106 : decode cX9_pass 106 = .ok (.iastore, 1) := by decide +kernel
theorem dX9_pass_107 : decode cX9_pass 107 = .ok (.aload_n 0, 1) := by decide +kernel
theorem dX9_pass_108 : decode cX9_pass 108 = .ok (.getfield 7, 3) := by decide +kernel
theorem dX9_pass_111 : decode cX9_pass 111 = .ok (.iload_n 2, 1) := by decide +kernel
theorem dX9_pass_112 : decode cX9_pass 112 = .ok (.aload_n 0, 1) := by decide +kernel
theorem dX9_pass_113 : decode cX9_pass 113 = .ok (.getfield 7, 3) := by decide +kernel
theorem dX9_pass_116 : decode cX9_pass 116 = .ok (.iload_n 2, 1) := by decide +kernel
theorem dX9_pass_117 : decode cX9_pass 117 = .ok (.iaload, 1) := by decide +kernel
theorem dX9_pass_118 : decode cX9_pass 118 = .ok (.ifCond .le 14, 3) := by decide +kernel
theorem dX9_pass_121 : decode cX9_pass 121 = .ok (.aload_n 0, 1) := by decide +kernel
theorem dX9_pass_122 : decode cX9_pass 122 = .ok (.getfield 7, 3) := by decide +kernel
theorem dX9_pass_125 : decode cX9_pass 125 = .ok (.iload_n 2, 1) := by decide +kernel
theorem dX9_pass_126 : decode cX9_pass 126 = .ok (.iaload, 1) := by decide +kernel
theorem dX9_pass_127 : decode cX9_pass 127 = .ok (.iconst 1, 1) := by decide +kernel
theorem dX9_pass_128 : decode cX9_pass 128 = .ok (.isub, 1) := by decide +kernel
theorem dX9_pass_129 : decode cX9_pass 129 = .ok (.goto 4, 3) := by decide +kernel
theorem dX9_pass_132 : decode cX9_pass 132 = .ok (.iconst 0, 1) := by decide +kernel
theorem dX9_pass_133 : decode cX9_pass 133 = .ok (.iastore, 1) := by decide +kernel
theorem dX9_pass_134 : decode cX9_pass 134 = .ok (.goto (-55), 3) := by decide +kernel
theorem dX9_pass_137 : decode cX9_pass 137 = .ok (.iinc 2 1, 3) := by decide +kernel
theorem dX9_pass_140 : decode cX9_pass 140 = .ok (.goto (-110), 3) := by decide +kernel
theorem dX9_pass_143 : decode cX9_pass 143 = .ok (.aload_n 0, 1) := by decide +kernel
theorem dX9_pass_144 : decode cX9_pass 144 = .ok (.getfield 7, 3) := by decide +kernel
theorem dX9_pass_147 : decode cX9_pass 147 = .ok (.bipush 30, 2) := by decide +kernel
theorem dX9_pass_149 : decode cX9_pass 149 = .ok (.aload_n 0, 1) := by decide +kernel
theorem dX9_pass_150 : decode cX9_pass 150 = .ok (.getfield 7, 3) := by decide +kernel
theorem dX9_pass_153 : decode cX9_pass 153 = .ok (.bipush 30, 2) := by decide +kernel
theorem dX9_pass_155 : decode cX9_pass 155 = .ok (.iaload, 1) := by decide +kernel
theorem dX9_pass_156 : decode cX9_pass 156 = .ok (.iload_n 1, 1) := by decide +kernel
theorem dX9_pass_157 : decode cX9_pass 157 = .ok (.iadd, 1) := by decide +kernel
theorem dX9_pass_158 : decode cX9_pass 158 = .ok (.ldc_w 258, 3) := by decide +kernel
theorem dX9_pass_161 : decode cX9_pass 161 = .ok (.if_icmp .le 9, 3) := by decide +kernel
theorem dX9_pass_164 : decode cX9_pass 164 = .ok (.ldc_w 258, 3) := by decide +kernel
theorem dX9_pass_167 : decode cX9_pass 167 = .ok (.goto 12, 3) := by decide +kernel
theorem dX9_pass_170 : decode cX9_pass 170 = .ok (.aload_n 0, 1) := by decide +kernel
theorem dX9_pass_171 : decode cX9_pass 171 = .ok (.getfield 7, 3) := by decide +kernel
theorem dX9_pass_174 : decode cX9_pass 174 = .ok (.bipush 30, 2) := by decide +kernel
theorem dX9_pass_176 : decode cX9_pass 176 = .ok (.iaload, 1) := by decide +kernel
theorem dX9_pass_177 : decode cX9_pass 177 = .ok (.iload_n 1, 1) := by decide +kernel
theorem dX9_pass_178 : decode cX9_pass 178 = .ok (.iadd, 1) := by decide +kernel
theorem dX9_pass_179 : decode cX9_pass 179 = .ok (.iastore, 1) := by decide +kernel
theorem dX9_pass_180 : decode cX9_pass 180 = .ok (.iload_n 1, 1) := by decide +kernel
theorem dX9_pass_181 : decode cX9_pass 181 = .ok (.ireturn, 1) := by decide +kernel
theorem dX9_day_0 : decode cX9_day 0 = .ok (.iload_n 1, 1) := by decide +kernel
theorem dX9_day_1 : decode cX9_day 1 = .ok (.i2l, 1) := by decide +kernel
theorem dX9_day_2 : decode cX9_day 2 = .ok (.lconst 1, 1) := by decide +kernel
theorem dX9_day_3 : decode cX9_day 3 = .ok (.ldc2_w 196, 3) := by decide +kernel
theorem dX9_day_6 : decode cX9_day 6 = .ok (.invokestatic 89, 3) := by decide +kernel
theorem dX9_day_9 : decode cX9_day 9 = .ok (.ifCond .ne 6, 3) := by decide +kernel
theorem dX9_day_12 : decode cX9_day 12 = .ok (.ldc 93, 2) := by decide +kernel
theorem dX9_day_14 : decode cX9_day 14 = .ok (.ireturn, 1) := by decide +kernel
theorem dX9_day_15 : decode cX9_day 15 = .ok (.iconst 0, 1) := by decide +kernel
theorem dX9_day_16 : decode cX9_day 16 = .ok (.istore_n 2, 1) := by decide +kernel
theorem dX9_day_17 : decode cX9_day 17 = .ok (.iconst 0, 1) := by decide +kernel
theorem dX9_day_18 : decode cX9_day 18 = .ok (.istore_n 3, 1) := by decide +kernel
theorem dX9_day_19 : decode cX9_day 19 = .ok (.iload_n 3, 1) := by decide +kernel
theorem dX9_day_20 : decode cX9_day 20 = .ok (.iload_n 1, 1) := by decide +kernel
theorem dX9_day_21 : decode cX9_day 21 = .ok (.if_icmp .ge 16, 3) := by decide +kernel
theorem dX9_day_24 : decode cX9_day 24 = .ok (.iload_n 2, 1) := by decide +kernel
theorem dX9_day_25 : decode cX9_day 25 = .ok (.aload_n 0, 1) := by decide +kernel
theorem dX9_day_26 : decode cX9_day 26 = .ok (.invokevirtual 259, 3) := by decide +kernel
theorem dX9_day_29 : decode cX9_day 29 = .ok (.iadd, 1) := by decide +kernel
theorem dX9_day_30 : decode cX9_day 30 = .ok (.istore_n 2, 1) := by decide +kernel
theorem dX9_day_31 : decode cX9_day 31 = .ok (.iinc 3 1, 3) := by decide +kernel
theorem dX9_day_34 : decode cX9_day 34 = .ok (.goto (-15), 3) := by decide +kernel
theorem dX9_day_37 : decode cX9_day 37 = .ok (.iload_n 2, 1) := by decide +kernel
theorem dX9_day_38 : decode cX9_day 38 = .ok (.ireturn, 1) := by decide +kernel
theorem dX9_draw_0 : decode cX9_draw 0 = .ok (.aload_n 0, 1) := by decide +kernel
theorem dX9_draw_1 : decode cX9_draw 1 = .ok (.getfield 7, 3) := by decide +kernel
theorem dX9_draw_4 : decode cX9_draw 4 = .ok (.bipush 33, 2) := by decide +kernel
theorem dX9_draw_6 : decode cX9_draw 6 = .ok (.aload_n 0, 1) := by decide +kernel
theorem dX9_draw_7 : decode cX9_draw 7 = .ok (.getfield 7, 3) := by decide +kernel
theorem dX9_draw_10 : decode cX9_draw 10 = .ok (.bipush 33, 2) := by decide +kernel
theorem dX9_draw_12 : decode cX9_draw 12 = .ok (.iaload, 1) := by decide +kernel
theorem dX9_draw_13 : decode cX9_draw 13 = .ok (.i2l, 1) := by decide +kernel
theorem dX9_draw_14 : decode cX9_draw 14 = .ok (.ldc2_w 262, 3) := by decide +kernel
theorem dX9_draw_17 : decode cX9_draw 17 = .ok (.lmul, 1) := by decide +kernel
theorem dX9_draw_18 : decode cX9_draw 18 = .ok (.ldc2_w 264, 3) := by decide +kernel
theorem dX9_draw_21 : decode cX9_draw 21 = .ok (.ladd, 1) := by decide +kernel
theorem dX9_draw_22 : decode cX9_draw 22 = .ok (.ldc2_w 266, 3) := by decide +kernel
theorem dX9_draw_25 : decode cX9_draw 25 = .ok (.lrem, 1) := by decide +kernel
theorem dX9_draw_26 : decode cX9_draw 26 = .ok (.l2i, 1) := by decide +kernel
theorem dX9_draw_27 : decode cX9_draw 27 = .ok (.iastore, 1) := by decide +kernel
theorem dX9_draw_28 : decode cX9_draw 28 = .ok (.aload_n 0, 1) := by decide +kernel
theorem dX9_draw_29 : decode cX9_draw 29 = .ok (.getfield 7, 3) := by decide +kernel
theorem dX9_draw_32 : decode cX9_draw 32 = .ok (.bipush 33, 2) := by decide +kernel
theorem dX9_draw_34 : decode cX9_draw 34 = .ok (.iaload, 1) := by decide +kernel
theorem dX9_draw_35 : decode cX9_draw 35 = .ok (.ldc_w 268, 3) := by decide +kernel
theorem dX9_draw_38 : decode cX9_draw 38 = .ok (.idiv, 1) := by decide +kernel
theorem dX9_draw_39 : decode cX9_draw 39 = .ok (.iload_n 1, 1) := by decide +kernel
theorem dX9_draw_40 : decode cX9_draw 40 = .ok (.irem, 1) := by decide +kernel
theorem dX9_draw_41 : decode cX9_draw 41 = .ok (.ireturn, 1) := by decide +kernel
theorem dX9_drift_0 : decode cX9_drift 0 = .ok (.iload_n 1, 1) := by decide +kernel
theorem dX9_drift_1 : decode cX9_drift 1 = .ok (.i2l, 1) := by decide +kernel
theorem dX9_drift_2 : decode cX9_drift 2 = .ok (.lconst 1, 1) := by decide +kernel
theorem dX9_drift_3 : decode cX9_drift 3 = .ok (.ldc2_w 196, 3) := by decide +kernel
theorem dX9_drift_6 : decode cX9_drift 6 = .ok (.invokestatic 89, 3) := by decide +kernel
theorem dX9_drift_9 : decode cX9_drift 9 = .ok (.ifCond .ne 6, 3) := by decide +kernel
theorem dX9_drift_12 : decode cX9_drift 12 = .ok (.ldc 93, 2) := by decide +kernel
theorem dX9_drift_14 : decode cX9_drift 14 = .ok (.ireturn, 1) := by decide +kernel
theorem dX9_drift_15 : decode cX9_drift 15 = .ok (.iconst 0, 1) := by decide +kernel
theorem dX9_drift_16 : decode cX9_drift 16 = .ok (.istore_n 2, 1) := by decide +kernel
theorem dX9_drift_17 : decode cX9_drift 17 = .ok (.iconst 0, 1) := by decide +kernel
theorem dX9_drift_18 : decode cX9_drift 18 = .ok (.istore_n 3, 1) := by decide +kernel
theorem dX9_drift_19 : decode cX9_drift 19 = .ok (.iload_n 3, 1) := by decide +kernel
theorem dX9_drift_20 : decode cX9_drift 20 = .ok (.iload_n 1, 1) := by decide +kernel
theorem dX9_drift_21 : decode cX9_drift 21 = .ok (.if_icmp .ge 109, 3) := by decide +kernel
theorem dX9_drift_24 : decode cX9_drift 24 = .ok (.iconst 0, 1) := by decide +kernel
theorem dX9_drift_25 : decode cX9_drift 25 = .ok (.istore 4, 2) := by decide +kernel
theorem dX9_drift_27 : decode cX9_drift 27 = .ok (.iload 4, 2) := by decide +kernel
theorem dX9_drift_29 : decode cX9_drift 29 = .ok (.aload_n 0, 1) := by decide +kernel
theorem dX9_drift_30 : decode cX9_drift 30 = .ok (.getfield 47, 3) := by decide +kernel
theorem dX9_drift_33 : decode cX9_drift 33 = .ok (.iconst 0, 1) := by decide +kernel
theorem dX9_drift_34 : decode cX9_drift 34 = .ok (.iaload, 1) := by decide +kernel
theorem dX9_drift_35 : decode cX9_drift 35 = .ok (.if_icmp .ge 82, 3) := by decide +kernel
theorem dX9_drift_38 : decode cX9_drift 38 = .ok (.aload_n 0, 1) := by decide +kernel
theorem dX9_drift_39 : decode cX9_drift 39 = .ok (.iconst 4, 1) := by decide +kernel
theorem dX9_drift_40 : decode cX9_drift 40 = .ok (.invokevirtual 269, 3) := by decide +kernel
theorem dX9_drift_43 : decode cX9_drift 43 = .ok (.istore 5, 2) := by decide +kernel
theorem dX9_drift_45 : decode cX9_drift 45 = .ok (.aload_n 0, 1) := by decide +kernel
theorem dX9_drift_46 : decode cX9_drift 46 = .ok (.getfield 7, 3) := by decide +kernel
theorem dX9_drift_49 : decode cX9_drift 49 = .ok (.bipush 10, 2) := by decide +kernel
theorem dX9_drift_51 : decode cX9_drift 51 = .ok (.iload 4, 2) := by decide +kernel
theorem dX9_drift_53 : decode cX9_drift 53 = .ok (.iadd, 1) := by decide +kernel
theorem dX9_drift_54 : decode cX9_drift 54 = .ok (.iaload, 1) := by decide +kernel
theorem dX9_drift_55 : decode cX9_drift 55 = .ok (.iload 5, 2) := by decide +kernel
theorem dX9_drift_57 : decode cX9_drift 57 = .ok (.ifCond .ne 7, 3) := by decide +kernel
theorem dX9_drift_60 : decode cX9_drift 60 = .ok (.iconst 1, 1) := by decide +kernel
theorem dX9_drift_61 : decode cX9_drift 61 = .ok (.goto 14, 3) := by decide +kernel
theorem dX9_drift_64 : decode cX9_drift 64 = .ok (.iload 5, 2) := by decide +kernel
theorem dX9_drift_66 : decode cX9_drift 66 = .ok (.iconst 1, 1) := by decide +kernel
theorem dX9_drift_67 : decode cX9_drift 67 = .ok (.if_icmp .ne 7, 3) := by decide +kernel
theorem dX9_drift_70 : decode cX9_drift 70 = .ok (.iconst (-1), 1) := by decide +kernel
theorem dX9_drift_71 : decode cX9_drift 71 = .ok (.goto 4, 3) := by decide +kernel
theorem dX9_drift_74 : decode cX9_drift 74 = .ok (.iconst 0, 1) := by decide +kernel
theorem dX9_drift_75 : decode cX9_drift 75 = .ok (.iadd, 1) := by decide +kernel
theorem dX9_drift_76 : decode cX9_drift 76 = .ok (.istore 6, 2) := by decide +kernel
theorem dX9_drift_78 : decode cX9_drift 78 = .ok (.aload_n 0, 1) := by decide +kernel
theorem dX9_drift_79 : decode cX9_drift 79 = .ok (.getfield 7, 3) := by decide +kernel
theorem dX9_drift_82 : decode cX9_drift 82 = .ok (.bipush 10, 2) := by decide +kernel
theorem dX9_drift_84 : decode cX9_drift 84 = .ok (.iload 4, 2) := by decide +kernel
theorem dX9_drift_86 : decode cX9_drift 86 = .ok (.iadd, 1) := by decide +kernel
theorem dX9_drift_87 : decode cX9_drift 87 = .ok (.iload 6, 2) := by decide +kernel
theorem dX9_drift_89 : decode cX9_drift 89 = .ok (.bipush 99, 2) := by decide +kernel
theorem dX9_drift_91 : decode cX9_drift 91 = .ok (.if_icmp .le 8, 3) := by decide +kernel
theorem dX9_drift_94 : decode cX9_drift 94 = .ok (.bipush 99, 2) := by decide +kernel
theorem dX9_drift_96 : decode cX9_drift 96 = .ok (.goto 14, 3) := by decide +kernel
theorem dX9_drift_99 : decode cX9_drift 99 = .ok (.iload 6, 2) := by decide +kernel
theorem dX9_drift_101 : decode cX9_drift 101 = .ok (.ifCond .ge 7, 3) := by decide +kernel
theorem dX9_drift_104 : decode cX9_drift 104 = .ok (.iconst 0, 1) := by decide +kernel
theorem dX9_drift_105 : decode cX9_drift 105 = .ok (.goto 5, 3) := by decide +kernel
theorem dX9_drift_108 : decode cX9_drift 108 = .ok (.iload 6, 2) := by decide +kernel
theorem dX9_drift_110 : decode cX9_drift 110 = .ok (.iastore, 1) := by decide +kernel
theorem dX9_drift_111 : decode cX9_drift 111 = .ok (.iinc 4 1, 3) := by decide +kernel
theorem dX9_drift_114 : decode cX9_drift 114 = .ok (.goto (-87), 3) := by decide +kernel
theorem dX9_drift_117 : decode cX9_drift 117 = .ok (.iload_n 2, 1) := by decide +kernel
theorem dX9_drift_118 : decode cX9_drift 118 = .ok (.aload_n 0, 1) := by decide +kernel
theorem dX9_drift_119 : decode cX9_drift 119 = .ok (.invokevirtual 259, 3) := by decide +kernel
theorem dX9_drift_122 : decode cX9_drift 122 = .ok (.iadd, 1) := by decide +kernel
theorem dX9_drift_123 : decode cX9_drift 123 = .ok (.istore_n 2, 1) := by decide +kernel
theorem dX9_drift_124 : decode cX9_drift 124 = .ok (.iinc 3 1, 3) := by decide +kernel
theorem dX9_drift_127 : decode cX9_drift 127 = .ok (.goto (-108), 3) := by decide +kernel
theorem dX9_drift_130 : decode cX9_drift 130 = .ok (.iload_n 2, 1) := by decide +kernel
theorem dX9_drift_131 : decode cX9_drift 131 = .ok (.ireturn, 1) := by decide +kernel
theorem dX9_write_0 : decode cX9_write 0 = .ok (.aload_n 0, 1) := by decide +kernel
theorem dX9_write_1 : decode cX9_write 1 = .ok (.iload_n 2, 1) := by decide +kernel
theorem dX9_write_2 : decode cX9_write 2 = .ok (.invokevirtual 184, 3) := by decide +kernel
theorem dX9_write_5 : decode cX9_write 5 = .ok (.ifCond .ne 6, 3) := by decide +kernel
theorem dX9_write_8 : decode cX9_write 8 = .ok (.ldc 188, 2) := by decide +kernel
theorem dX9_write_10 : decode cX9_write 10 = .ok (.ireturn, 1) := by decide +kernel
theorem dX9_write_11 : decode cX9_write 11 = .ok (.iload_n 1, 1) := by decide +kernel
theorem dX9_write_12 : decode cX9_write 12 = .ok (.i2l, 1) := by decide +kernel
theorem dX9_write_13 : decode cX9_write 13 = .ok (.lconst 0, 1) := by decide +kernel
theorem dX9_write_14 : decode cX9_write 14 = .ok (.ldc2_w 251, 3) := by decide +kernel
theorem dX9_write_17 : decode cX9_write 17 = .ok (.invokestatic 89, 3) := by decide +kernel
theorem dX9_write_20 : decode cX9_write 20 = .ok (.ifCond .ne 6, 3) := by decide +kernel
theorem dX9_write_23 : decode cX9_write 23 = .ok (.ldc 93, 2) := by decide +kernel
theorem dX9_write_25 : decode cX9_write 25 = .ok (.ireturn, 1) := by decide +kernel
theorem dX9_write_26 : decode cX9_write 26 = .ok (.aload_n 0, 1) := by decide +kernel
theorem dX9_write_27 : decode cX9_write 27 = .ok (.getfield 159, 3) := by decide +kernel
theorem dX9_write_30 : decode cX9_write 30 = .ok (.bipush 40, 2) := by decide +kernel
theorem dX9_write_32 : decode cX9_write 32 = .ok (.if_icmp .ne 6, 3) := by decide +kernel
theorem dX9_write_35 : decode cX9_write 35 = .ok (.ldc 97, 2) := by decide +kernel
theorem dX9_write_37 : decode cX9_write 37 = .ok (.ireturn, 1) := by decide +kernel
theorem dX9_write_38 : decode cX9_write 38 = .ok (.aload_n 0, 1) := by decide +kernel
theorem dX9_write_39 : decode cX9_write 39 = .ok (.getfield 81, 3) := by decide +kernel
theorem dX9_write_42 : decode cX9_write 42 = .ok (.aload_n 0, 1) := by decide +kernel
theorem dX9_write_43 : decode cX9_write 43 = .ok (.getfield 159, 3) := by decide +kernel
theorem dX9_write_46 : decode cX9_write 46 = .ok (.iload_n 1, 1) := by decide +kernel
theorem dX9_write_47 : decode cX9_write 47 = .ok (.iastore, 1) := by decide +kernel
theorem dX9_write_48 : decode cX9_write 48 = .ok (.aload_n 0, 1) := by decide +kernel
theorem dX9_write_49 : decode cX9_write 49 = .ok (.getfield 84, 3) := by decide +kernel
theorem dX9_write_52 : decode cX9_write 52 = .ok (.aload_n 0, 1) := by decide +kernel
theorem dX9_write_53 : decode cX9_write 53 = .ok (.getfield 159, 3) := by decide +kernel
theorem dX9_write_56 : decode cX9_write 56 = .ok (.iload_n 2, 1) := by decide +kernel
theorem dX9_write_57 : decode cX9_write 57 = .ok (.iastore, 1) := by decide +kernel
theorem dX9_write_58 : decode cX9_write 58 = .ok (.aload_n 0, 1) := by decide +kernel
theorem dX9_write_59 : decode cX9_write 59 = .ok (.dup, 1) := by decide +kernel
theorem dX9_write_60 : decode cX9_write 60 = .ok (.getfield 159, 3) := by decide +kernel
theorem dX9_write_63 : decode cX9_write 63 = .ok (.iconst 1, 1) := by decide +kernel
theorem dX9_write_64 : decode cX9_write 64 = .ok (.iadd, 1) := by decide +kernel
theorem dX9_write_65 : decode cX9_write 65 = .ok (.putfield 159, 3) := by decide +kernel
theorem dX9_write_68 : decode cX9_write 68 = .ok (.aload_n 0, 1) := by decide +kernel
theorem dX9_write_69 : decode cX9_write 69 = .ok (.getfield 159, 3) := by decide +kernel
theorem dX9_write_72 : decode cX9_write 72 = .ok (.ireturn, 1) := by decide +kernel
theorem dX9_tear_0 : decode cX9_tear 0 = .ok (.aload_n 0, 1) := by decide +kernel
theorem dX9_tear_1 : decode cX9_tear 1 = .ok (.getfield 159, 3) := by decide +kernel
theorem dX9_tear_4 : decode cX9_tear 4 = .ok (.aload_n 0, 1) := by decide +kernel
theorem dX9_tear_5 : decode cX9_tear 5 = .ok (.getfield 156, 3) := by decide +kernel
theorem dX9_tear_8 : decode cX9_tear 8 = .ok (.iadd, 1) := by decide +kernel
theorem dX9_tear_9 : decode cX9_tear 9 = .ok (.istore_n 1, 1) := by decide +kernel
theorem dX9_tear_10 : decode cX9_tear 10 = .ok (.aload_n 0, 1) := by decide +kernel
theorem dX9_tear_11 : decode cX9_tear 11 = .ok (.iconst 0, 1) := by decide +kernel
theorem dX9_tear_12 : decode cX9_tear 12 = .ok (.putfield 159, 3) := by decide +kernel
theorem dX9_tear_15 : decode cX9_tear 15 = .ok (.aload_n 0, 1) := by decide +kernel
theorem dX9_tear_16 : decode cX9_tear 16 = .ok (.iconst 0, 1) := by decide +kernel
theorem dX9_tear_17 : decode cX9_tear 17 = .ok (.putfield 156, 3) := by decide +kernel
theorem dX9_tear_20 : decode cX9_tear 20 = .ok (.iload_n 1, 1) := by decide +kernel
theorem dX9_tear_21 : decode cX9_tear 21 = .ok (.ireturn, 1) := by decide +kernel
theorem dX9_judge_0 : decode cX9_judge 0 = .ok (.iconst 0, 1) := by decide +kernel
theorem dX9_judge_1 : decode cX9_judge 1 = .ok (.istore_n 1, 1) := by decide +kernel
theorem dX9_judge_2 : decode cX9_judge 2 = .ok (.iload_n 1, 1) := by decide +kernel
theorem dX9_judge_3 : decode cX9_judge 3 = .ok (.aload_n 0, 1) := by decide +kernel
theorem dX9_judge_4 : decode cX9_judge 4 = .ok (.getfield 159, 3) := by decide +kernel
theorem dX9_judge_7 : decode cX9_judge 7 = .ok (.if_icmp .ge 151, 3) := by decide +kernel
theorem dX9_judge_10 : decode cX9_judge 10 = .ok (.aload_n 0, 1) := by decide +kernel
theorem dX9_judge_11 : decode cX9_judge 11 = .ok (.getfield 81, 3) := by decide +kernel
theorem dX9_judge_14 : decode cX9_judge 14 = .ok (.iload_n 1, 1) := by decide +kernel
theorem dX9_judge_15 : decode cX9_judge 15 = .ok (.iaload, 1) := by decide +kernel
theorem dX9_judge_16 : decode cX9_judge 16 = .ok (.i2l, 1) := by decide +kernel
theorem dX9_judge_17 : decode cX9_judge 17 = .ok (.aload_n 0, 1) := by decide +kernel
theorem dX9_judge_18 : decode cX9_judge 18 = .ok (.getfield 29, 3) := by decide +kernel
theorem dX9_judge_21 : decode cX9_judge 21 = .ok (.aload_n 0, 1) := by decide +kernel
theorem dX9_judge_22 : decode cX9_judge 22 = .ok (.getfield 84, 3) := by decide +kernel
theorem dX9_judge_25 : decode cX9_judge 25 = .ok (.iload_n 1, 1) := by decide +kernel
theorem dX9_judge_26 : decode cX9_judge 26 = .ok (.iaload, 1) := by decide +kernel
theorem dX9_judge_27 : decode cX9_judge 27 = .ok (.iaload, 1) := by decide +kernel
theorem dX9_judge_28 : decode cX9_judge 28 = .ok (.i2l, 1) := by decide +kernel
theorem dX9_judge_29 : decode cX9_judge 29 = .ok (.aload_n 0, 1) := by decide +kernel
theorem dX9_judge_30 : decode cX9_judge 30 = .ok (.getfield 32, 3) := by decide +kernel
theorem dX9_judge_33 : decode cX9_judge 33 = .ok (.aload_n 0, 1) := by decide +kernel
theorem dX9_judge_34 : decode cX9_judge 34 = .ok (.getfield 84, 3) := by decide +kernel
theorem dX9_judge_37 : decode cX9_judge 37 = .ok (.iload_n 1, 1) := by decide +kernel
theorem dX9_judge_38 : decode cX9_judge 38 = .ok (.iaload, 1) := by decide +kernel
theorem dX9_judge_39 : decode cX9_judge 39 = .ok (.iaload, 1) := by decide +kernel
theorem dX9_judge_40 : decode cX9_judge 40 = .ok (.i2l, 1) := by decide +kernel
theorem dX9_judge_41 : decode cX9_judge 41 = .ok (.invokestatic 89, 3) := by decide +kernel
theorem dX9_judge_44 : decode cX9_judge 44 = .ok (.ifCond .ne 7, 3) := by decide +kernel
theorem dX9_judge_47 : decode cX9_judge 47 = .ok (.iconst 1, 1) := by decide +kernel
theorem dX9_judge_48 : decode cX9_judge 48 = .ok (.goto 4, 3) := by decide +kernel
theorem dX9_judge_51 : decode cX9_judge 51 = .ok (.iconst 0, 1) := by decide +kernel
theorem dX9_judge_52 : decode cX9_judge 52 = .ok (.istore_n 2, 1) := by decide +kernel
theorem dX9_judge_53 : decode cX9_judge 53 = .ok (.iconst 0, 1) := by decide +kernel
theorem dX9_judge_54 : decode cX9_judge 54 = .ok (.istore_n 3, 1) := by decide +kernel
theorem dX9_judge_55 : decode cX9_judge 55 = .ok (.iload_n 3, 1) := by decide +kernel
theorem dX9_judge_56 : decode cX9_judge 56 = .ok (.iload_n 1, 1) := by decide +kernel
theorem dX9_judge_57 : decode cX9_judge 57 = .ok (.if_icmp .ge 89, 3) := by decide +kernel
theorem dX9_judge_60 : decode cX9_judge 60 = .ok (.aload_n 0, 1) := by decide +kernel
theorem dX9_judge_61 : decode cX9_judge 61 = .ok (.getfield 81, 3) := by decide +kernel
theorem dX9_judge_64 : decode cX9_judge 64 = .ok (.iload_n 1, 1) := by decide +kernel
theorem dX9_judge_65 : decode cX9_judge 65 = .ok (.iaload, 1) := by decide +kernel
theorem dX9_judge_66 : decode cX9_judge 66 = .ok (.aload_n 0, 1) := by decide +kernel
theorem dX9_judge_67 : decode cX9_judge 67 = .ok (.getfield 81, 3) := by decide +kernel
theorem dX9_judge_70 : decode cX9_judge 70 = .ok (.iload_n 3, 1) := by decide +kernel
theorem dX9_judge_71 : decode cX9_judge 71 = .ok (.iaload, 1) := by decide +kernel
theorem dX9_judge_72 : decode cX9_judge 72 = .ok (.isub, 1) := by decide +kernel
theorem dX9_judge_73 : decode cX9_judge 73 = .ok (.istore 4, 2) := by decide +kernel
theorem dX9_judge_75 : decode cX9_judge 75 = .ok (.iload 4, 2) := by decide +kernel
theorem dX9_judge_77 : decode cX9_judge 77 = .ok (.ifCond .eq 26, 3) := by decide +kernel
theorem dX9_judge_80 : decode cX9_judge 80 = .ok (.aload_n 0, 1) := by decide +kernel
theorem dX9_judge_81 : decode cX9_judge 81 = .ok (.getfield 7, 3) := by decide +kernel
theorem dX9_judge_84 : decode cX9_judge 84 = .ok (.bipush 31, 2) := by decide +kernel
theorem dX9_judge_86 : decode cX9_judge 86 = .ok (.iaload, 1) := by decide +kernel
theorem dX9_judge_87 : decode cX9_judge 87 = .ok (.iconst 1, 1) := by decide +kernel
theorem dX9_judge_88 : decode cX9_judge 88 = .ok (.if_icmp .ne 19, 3) := by decide +kernel
theorem dX9_judge_91 : decode cX9_judge 91 = .ok (.iload 4, 2) := by decide +kernel
theorem dX9_judge_93 : decode cX9_judge 93 = .ok (.iconst 1, 1) := by decide +kernel
theorem dX9_judge_94 : decode cX9_judge 94 = .ok (.if_icmp .eq 9, 3) := by decide +kernel
theorem dX9_judge_97 : decode cX9_judge 97 = .ok (.iload 4, 2) := by decide +kernel
theorem dX9_judge_99 : decode cX9_judge 99 = .ok (.iconst (-1), 1) := by decide +kernel
theorem dX9_judge_100 : decode cX9_judge 100 = .ok (.if_icmp .ne 7, 3) := by decide +kernel
theorem dX9_judge_103 : decode cX9_judge 103 = .ok (.iconst 1, 1) := by decide +kernel
theorem dX9_judge_104 : decode cX9_judge 104 = .ok (.goto 4, 3) := by decide +kernel
theorem dX9_judge_107 : decode cX9_judge 107 = .ok (.iconst 0, 1) := by decide +kernel
theorem dX9_judge_108 : decode cX9_judge 108 = .ok (.istore 5, 2) := by decide +kernel
theorem dX9_judge_110 : decode cX9_judge 110 = .ok (.iload_n 2, 1) := by decide +kernel
theorem dX9_judge_111 : decode cX9_judge 111 = .ok (.ifCond .ne 23, 3) := by decide +kernel
theorem dX9_judge_114 : decode cX9_judge 114 = .ok (.aload_n 0, 1) := by decide +kernel
theorem dX9_judge_115 : decode cX9_judge 115 = .ok (.getfield 84, 3) := by decide +kernel
theorem dX9_judge_118 : decode cX9_judge 118 = .ok (.iload_n 3, 1) := by decide +kernel
theorem dX9_judge_119 : decode cX9_judge 119 = .ok (.iaload, 1) := by decide +kernel
theorem dX9_judge_120 : decode cX9_judge 120 = .ok (.aload_n 0, 1) := by decide +kernel
theorem dX9_judge_121 : decode cX9_judge 121 = .ok (.getfield 84, 3) := by decide +kernel
theorem dX9_judge_124 : decode cX9_judge 124 = .ok (.iload_n 1, 1) := by decide +kernel
theorem dX9_judge_125 : decode cX9_judge 125 = .ok (.iaload, 1) := by decide +kernel
theorem dX9_judge_126 : decode cX9_judge 126 = .ok (.if_icmp .ne 12, 3) := by decide +kernel
theorem dX9_judge_129 : decode cX9_judge 129 = .ok (.iload 5, 2) := by decide +kernel
theorem dX9_judge_131 : decode cX9_judge 131 = .ok (.ifCond .eq 7, 3) := by decide +kernel
theorem dX9_judge_134 : decode cX9_judge 134 = .ok (.iconst 1, 1) := by decide +kernel
theorem dX9_judge_135 : decode cX9_judge 135 = .ok (.goto 4, 3) := by decide +kernel
theorem dX9_judge_138 : decode cX9_judge 138 = .ok (.iconst 0, 1) := by decide +kernel
theorem dX9_judge_139 : decode cX9_judge 139 = .ok (.istore_n 2, 1) := by decide +kernel
theorem dX9_judge_140 : decode cX9_judge 140 = .ok (.iinc 3 1, 3) := by decide +kernel
theorem dX9_judge_143 : decode cX9_judge 143 = .ok (.goto (-88), 3) := by decide +kernel
theorem dX9_judge_146 : decode cX9_judge 146 = .ok (.iload_n 2, 1) := by decide +kernel
theorem dX9_judge_147 : decode cX9_judge 147 = .ok (.ifCond .eq 5, 3) := by decide +kernel
theorem dX9_judge_150 : decode cX9_judge 150 = .ok (.iload_n 1, 1) := by decide +kernel
theorem dX9_judge_151 : decode cX9_judge 151 = .ok (.ireturn, 1) := by decide +kernel
theorem dX9_judge_152 : decode cX9_judge 152 = .ok (.iinc 1 1, 3) := by decide +kernel
theorem dX9_judge_155 : decode cX9_judge 155 = .ok (.goto (-153), 3) := by decide +kernel
theorem dX9_judge_158 : decode cX9_judge 158 = .ok (.iconst (-1), 1) := by decide +kernel
theorem dX9_judge_159 : decode cX9_judge 159 = .ok (.ireturn, 1) := by decide +kernel
theorem dX9_seed_0 : decode cX9_seed 0 = .ok (.iload_n 1, 1) := by decide +kernel
theorem dX9_seed_1 : decode cX9_seed 1 = .ok (.ifCond .ge 6, 3) := by decide +kernel
theorem dX9_seed_4 : decode cX9_seed 4 = .ok (.ldc 93, 2) := by decide +kernel
theorem dX9_seed_6 : decode cX9_seed 6 = .ok (.ireturn, 1) := by decide +kernel
theorem dX9_seed_7 : decode cX9_seed 7 = .ok (.aload_n 0, 1) := by decide +kernel
theorem dX9_seed_8 : decode cX9_seed 8 = .ok (.getfield 7, 3) := by decide +kernel
theorem dX9_seed_11 : decode cX9_seed 11 = .ok (.bipush 33, 2) := by decide +kernel
theorem dX9_seed_13 : decode cX9_seed 13 = .ok (.iaload, 1) := by decide +kernel
theorem dX9_seed_14 : decode cX9_seed 14 = .ok (.istore_n 2, 1) := by decide +kernel
theorem dX9_seed_15 : decode cX9_seed 15 = .ok (.aload_n 0, 1) := by decide +kernel
theorem dX9_seed_16 : decode cX9_seed 16 = .ok (.getfield 7, 3) := by decide +kernel
theorem dX9_seed_19 : decode cX9_seed 19 = .ok (.bipush 33, 2) := by decide +kernel
theorem dX9_seed_21 : decode cX9_seed 21 = .ok (.iload_n 1, 1) := by decide +kernel
theorem dX9_seed_22 : decode cX9_seed 22 = .ok (.iastore, 1) := by decide +kernel
theorem dX9_seed_23 : decode cX9_seed 23 = .ok (.iload_n 2, 1) := by decide +kernel
theorem dX9_seed_24 : decode cX9_seed 24 = .ok (.ireturn, 1) := by decide +kernel
theorem dX9_keep_0 : decode cX9_keep 0 = .ok (.iload_n 1, 1) := by decide +kernel
theorem dX9_keep_1 : decode cX9_keep 1 = .ok (.i2l, 1) := by decide +kernel
theorem dX9_keep_2 : decode cX9_keep 2 = .ok (.lconst 0, 1) := by decide +kernel
theorem dX9_keep_3 : decode cX9_keep 3 = .ok (.lconst 1, 1) := by decide +kernel
theorem dX9_keep_4 : decode cX9_keep 4 = .ok (.invokestatic 89, 3) := by decide +kernel
theorem dX9_keep_7 : decode cX9_keep 7 = .ok (.ifCond .ne 6, 3) := by decide +kernel
theorem dX9_keep_10 : decode cX9_keep 10 = .ok (.ldc 188, 2) := by decide +kernel
theorem dX9_keep_12 : decode cX9_keep 12 = .ok (.ireturn, 1) := by decide +kernel
theorem dX9_keep_13 : decode cX9_keep 13 = .ok (.aload_n 0, 1) := by decide +kernel
theorem dX9_keep_14 : decode cX9_keep 14 = .ok (.iconst 0, 1) := by decide +kernel
theorem dX9_keep_15 : decode cX9_keep 15 = .ok (.bipush 80, 2) := by decide +kernel
theorem dX9_keep_17 : decode cX9_keep 17 = .ok (.bipush 40, 2) := by decide +kernel
theorem dX9_keep_19 : decode cX9_keep 19 = .ok (.iload_n 1, 1) := by decide +kernel
theorem dX9_keep_20 : decode cX9_keep 20 = .ok (.imul, 1) := by decide +kernel
theorem dX9_keep_21 : decode cX9_keep 21 = .ok (.iadd, 1) := by decide +kernel
theorem dX9_keep_22 : decode cX9_keep 22 = .ok (.invokevirtual 248, 3) := by decide +kernel
theorem dX9_keep_25 : decode cX9_keep 25 = .ok (.aload_n 0, 1) := by decide +kernel
theorem dX9_keep_26 : decode cX9_keep 26 = .ok (.getfield 13, 3) := by decide +kernel
theorem dX9_keep_29 : decode cX9_keep 29 = .ok (.iload_n 1, 1) := by decide +kernel
theorem dX9_keep_30 : decode cX9_keep 30 = .ok (.iconst 1, 1) := by decide +kernel
theorem dX9_keep_31 : decode cX9_keep 31 = .ok (.bastore, 1) := by decide +kernel
theorem dX9_keep_32 : decode cX9_keep 32 = .ok (.iconst 1, 1) := by decide +kernel
theorem dX9_keep_33 : decode cX9_keep 33 = .ok (.ireturn, 1) := by decide +kernel
theorem dX9_goBack_0 : decode cX9_goBack 0 = .ok (.iload_n 1, 1) := by decide +kernel
theorem dX9_goBack_1 : decode cX9_goBack 1 = .ok (.i2l, 1) := by decide +kernel
theorem dX9_goBack_2 : decode cX9_goBack 2 = .ok (.lconst 0, 1) := by decide +kernel
theorem dX9_goBack_3 : decode cX9_goBack 3 = .ok (.lconst 1, 1) := by decide +kernel
theorem dX9_goBack_4 : decode cX9_goBack 4 = .ok (.invokestatic 89, 3) := by decide +kernel
theorem dX9_goBack_7 : decode cX9_goBack 7 = .ok (.ifCond .ne 6, 3) := by decide +kernel
theorem dX9_goBack_10 : decode cX9_goBack 10 = .ok (.ldc 188, 2) := by decide +kernel
theorem dX9_goBack_12 : decode cX9_goBack 12 = .ok (.ireturn, 1) := by decide +kernel
theorem dX9_goBack_13 : decode cX9_goBack 13 = .ok (.aload_n 0, 1) := by decide +kernel
theorem dX9_goBack_14 : decode cX9_goBack 14 = .ok (.getfield 13, 3) := by decide +kernel
theorem dX9_goBack_17 : decode cX9_goBack 17 = .ok (.iload_n 1, 1) := by decide +kernel
theorem dX9_goBack_18 : decode cX9_goBack 18 = .ok (.baload, 1) := by decide +kernel
theorem dX9_goBack_19 : decode cX9_goBack 19 = .ok (.ifCond .ne 7, 3) := by decide +kernel
theorem dX9_goBack_22 : decode cX9_goBack 22 = .ok (.ldc_w 272, 3) := by decide +kernel
theorem dX9_goBack_25 : decode cX9_goBack 25 = .ok (.ireturn, 1) := by decide +kernel
theorem dX9_goBack_26 : decode cX9_goBack 26 = .ok (.aload_n 0, 1) := by decide +kernel
theorem dX9_goBack_27 : decode cX9_goBack 27 = .ok (.bipush 80, 2) := by decide +kernel
theorem dX9_goBack_29 : decode cX9_goBack 29 = .ok (.bipush 40, 2) := by decide +kernel
theorem dX9_goBack_31 : decode cX9_goBack 31 = .ok (.iload_n 1, 1) := by decide +kernel
theorem dX9_goBack_32 : decode cX9_goBack 32 = .ok (.imul, 1) := by decide +kernel
theorem dX9_goBack_33 : decode cX9_goBack 33 = .ok (.iadd, 1) := by decide +kernel
theorem dX9_goBack_34 : decode cX9_goBack 34 = .ok (.iconst 0, 1) := by decide +kernel
theorem dX9_goBack_35 : decode cX9_goBack 35 = .ok (.invokevirtual 248, 3) := by decide +kernel
theorem dX9_goBack_38 : decode cX9_goBack 38 = .ok (.iconst 1, 1) := by decide +kernel
theorem dX9_goBack_39 : decode cX9_goBack 39 = .ok (.ireturn, 1) := by decide +kernel
