theorem dX9_takeNumber_23 : decode cX9_takeNumber 23 = .ok (.iload_n 3, 1) := by decide +kernel
theorem dX9_takeNumber_24 : decode cX9_takeNumber 24 = .ok (.i2l, 1) := by decide +kernel
theorem dX9_takeNumber_25 : decode cX9_takeNumber 25 = .ok (.ldc2_w 120, 3) := by decide +kernel
theorem dX9_takeNumber_28 : decode cX9_takeNumber 28 = .ok (.ldc2_w 122, 3) := by decide +kernel
theorem dX9_takeNumber_31 : decode cX9_takeNumber 31 = .ok (.invokestatic 89, 3) := by decide +kernel
theorem dX9_takeNumber_34 : decode cX9_takeNumber 34 = .ok (.iconst 1, 1) := by decide +kernel
theorem dX9_takeNumber_35 : decode cX9_takeNumber 35 = .ok (.aload_n 0, 1) := by decide +kernel
theorem dX9_takeNumber_36 : decode cX9_takeNumber 36 = .ok (.getfield 100, 3) := by decide +kernel
theorem dX9_takeNumber_39 : decode cX9_takeNumber 39 = .ok (.invokevirtual 124, 3) := by decide +kernel
theorem dX9_takeNumber_42 : decode cX9_takeNumber 42 = .ok (.ifCond .ne 5, 3) := by decide +kernel
theorem dX9_takeNumber_45 : decode cX9_takeNumber 45 = .ok (.iconst 0, 1) := by decide +kernel
theorem dX9_takeNumber_46 : decode cX9_takeNumber 46 = .ok (.ireturn, 1) := by decide +kernel
theorem dX9_takeNumber_47 : decode cX9_takeNumber 47 = .ok (.iconst 0, 1) := by decide +kernel
theorem dX9_takeNumber_48 : decode cX9_takeNumber 48 = .ok (.istore 4, 2) := by decide +kernel
theorem dX9_takeNumber_50 : decode cX9_takeNumber 50 = .ok (.aload_n 0, 1) := by decide +kernel
theorem dX9_takeNumber_51 : decode cX9_takeNumber 51 = .ok (.getfield 100, 3) := by decide +kernel
theorem dX9_takeNumber_54 : decode cX9_takeNumber 54 = .ok (.aload_n 0, 1) := by decide +kernel
theorem dX9_takeNumber_55 : decode cX9_takeNumber 55 = .ok (.getfield 94, 3) := by decide +kernel
theorem dX9_takeNumber_58 : decode cX9_takeNumber 58 = .ok (.if_icmp .ge 70, 3) := by decide +kernel
theorem dX9_takeNumber_61 : decode cX9_takeNumber 61 = .ok (.aload_n 0, 1) := by decide +kernel
theorem dX9_takeNumber_62 : decode cX9_takeNumber 62 = .ok (.getfield 50, 3) := by decide +kernel
theorem dX9_takeNumber_65 : decode cX9_takeNumber 65 = .ok (.aload_n 0, 1) := by decide +kernel
theorem dX9_takeNumber_66 : decode cX9_takeNumber 66 = .ok (.getfield 100, 3) := by decide +kernel
theorem dX9_takeNumber_69 : decode cX9_takeNumber 69 = .ok (.iaload, 1) := by decide +kernel
theorem dX9_takeNumber_70 : decode cX9_takeNumber 70 = .ok (.i2l, 1) := by decide +kernel
theorem dX9_takeNumber_71 : decode cX9_takeNumber 71 = .ok (.ldc2_w 120, 3) := by decide +kernel
theorem dX9_takeNumber_74 : decode cX9_takeNumber 74 = .ok (.ldc2_w 122, 3) := by decide +kernel
theorem dX9_takeNumber_77 : decode cX9_takeNumber 77 = .ok (.invokestatic 89, 3) := by decide +kernel
theorem dX9_takeNumber_80 : decode cX9_takeNumber 80 = .ok (.ifCond .eq 48, 3) := by decide +kernel
theorem dX9_takeNumber_83 : decode cX9_takeNumber 83 = .ok (.iload 4, 2) := by decide +kernel
theorem dX9_takeNumber_85 : decode cX9_takeNumber 85 = .ok (.ldc 128, 2) := by decide +kernel
theorem dX9_takeNumber_87 : decode cX9_takeNumber 87 = .ok (.if_icmp .le 8, 3) := by decide +kernel
theorem dX9_takeNumber_90 : decode cX9_takeNumber 90 = .ok (.iload 4, 2) := by decide +kernel
theorem dX9_takeNumber_92 : decode cX9_takeNumber 92 = .ok (.goto 21, 3) := by decide +kernel
theorem dX9_takeNumber_95 : decode cX9_takeNumber 95 = .ok (.bipush 10, 2) := by decide +kernel
theorem dX9_takeNumber_97 : decode cX9_takeNumber 97 = .ok (.iload 4, 2) := by decide +kernel
theorem dX9_takeNumber_99 : decode cX9_takeNumber 99 = .ok (.imul, 1) := by decide +kernel
theorem dX9_takeNumber_100 : decode cX9_takeNumber 100 = .ok (.aload_n 0, 1) := by decide +kernel
theorem dX9_takeNumber_101 : decode cX9_takeNumber 101 = .ok (.getfield 50, 3) := by decide +kernel
theorem dX9_takeNumber_104 : decode cX9_takeNumber 104 = .ok (.aload_n 0, 1) := by decide +kernel
theorem dX9_takeNumber_105 : decode cX9_takeNumber 105 = .ok (.getfield 100, 3) := by decide +kernel
theorem dX9_takeNumber_108 : decode cX9_takeNumber 108 = .ok (.iaload, 1) := by decide +kernel
theorem dX9_takeNumber_109 : decode cX9_takeNumber 109 = .ok (.iadd, 1) := by decide +kernel
theorem dX9_takeNumber_110 : decode cX9_takeNumber 110 = .ok (.bipush 48, 2) := by decide +kernel
theorem dX9_takeNumber_112 : decode cX9_takeNumber 112 = .ok (.isub, 1) := by decide +kernel
theorem dX9_takeNumber_113 : decode cX9_takeNumber 113 = .ok (.istore 4, 2) := by decide +kernel
theorem dX9_takeNumber_115 : decode cX9_takeNumber 115 = .ok (.aload_n 0, 1) := by decide +kernel
theorem dX9_takeNumber_116 : decode cX9_takeNumber 116 = .ok (.dup, 1) := by decide +kernel
theorem dX9_takeNumber_117 : decode cX9_takeNumber 117 = .ok (.getfield 100, 3) := by decide +kernel
theorem dX9_takeNumber_120 : decode cX9_takeNumber 120 = .ok (.iconst 1, 1) := by decide +kernel
theorem dX9_takeNumber_121 : decode cX9_takeNumber 121 = .ok (.iadd, 1) := by decide +kernel
theorem dX9_takeNumber_122 : decode cX9_takeNumber 122 = .ok (.putfield 100, 3) := by decide +kernel
theorem dX9_takeNumber_125 : decode cX9_takeNumber 125 = .ok (.goto (-75), 3) := by decide +kernel
theorem dX9_takeNumber_128 : decode cX9_takeNumber 128 = .ok (.aload_n 0, 1) := by decide +kernel
theorem dX9_takeNumber_129 : decode cX9_takeNumber 129 = .ok (.aload_n 0, 1) := by decide +kernel
theorem dX9_takeNumber_130 : decode cX9_takeNumber 130 = .ok (.getfield 100, 3) := by decide +kernel
theorem dX9_takeNumber_133 : decode cX9_takeNumber 133 = .ok (.aload_n 0, 1) := by decide +kernel
theorem dX9_takeNumber_134 : decode cX9_takeNumber 134 = .ok (.getfield 110, 3) := by decide +kernel
theorem dX9_takeNumber_137 : decode cX9_takeNumber 137 = .ok (.isub, 1) := by decide +kernel
theorem dX9_takeNumber_138 : decode cX9_takeNumber 138 = .ok (.iconst 4, 1) := by decide +kernel
theorem dX9_takeNumber_139 : decode cX9_takeNumber 139 = .ok (.if_icmp .ge 20, 3) := by decide +kernel
theorem dX9_takeNumber_142 : decode cX9_takeNumber 142 = .ok (.iload 4, 2) := by decide +kernel
theorem dX9_takeNumber_144 : decode cX9_takeNumber 144 = .ok (.i2l, 1) := by decide +kernel
theorem dX9_takeNumber_145 : decode cX9_takeNumber 145 = .ok (.iload_n 1, 1) := by decide +kernel
theorem dX9_takeNumber_146 : decode cX9_takeNumber 146 = .ok (.i2l, 1) := by decide +kernel
theorem dX9_takeNumber_147 : decode cX9_takeNumber 147 = .ok (.iload_n 2, 1) := by decide +kernel
theorem dX9_takeNumber_148 : decode cX9_takeNumber 148 = .ok (.i2l, 1) := by decide +kernel
theorem dX9_takeNumber_149 : decode cX9_takeNumber 149 = .ok (.invokestatic 89, 3) := by decide +kernel
theorem dX9_takeNumber_152 : decode cX9_takeNumber 152 = .ok (.ifCond .eq 7, 3) := by decide +kernel
theorem dX9_takeNumber_155 : decode cX9_takeNumber 155 = .ok (.iconst 1, 1) := by decide +kernel
theorem dX9_takeNumber_156 : decode cX9_takeNumber 156 = .ok (.goto 4, 3) := by decide +kernel
theorem dX9_takeNumber_159 : decode cX9_takeNumber 159 = .ok (.iconst 0, 1) := by decide +kernel
theorem dX9_takeNumber_160 : decode cX9_takeNumber 160 = .ok (.iconst 2, 1) := by decide +kernel
theorem dX9_takeNumber_161 : decode cX9_takeNumber 161 = .ok (.aload_n 0, 1) := by decide +kernel
theorem dX9_takeNumber_162 : decode cX9_takeNumber 162 = .ok (.getfield 110, 3) := by decide +kernel
theorem dX9_takeNumber_165 : decode cX9_takeNumber 165 = .ok (.invokevirtual 124, 3) := by decide +kernel
theorem dX9_takeNumber_168 : decode cX9_takeNumber 168 = .ok (.istore 5, 2) := by decide +kernel
theorem dX9_takeNumber_170 : decode cX9_takeNumber 170 = .ok (.iload 4, 2) := by decide +kernel
theorem dX9_takeNumber_172 : decode cX9_takeNumber 172 = .ok (.ireturn, 1) := by decide +kernel
theorem dX9_takePart_0 : decode cX9_takePart 0 = .ok (.aload_n 0, 1) := by decide +kernel
theorem dX9_takePart_1 : decode cX9_takePart 1 = .ok (.invokevirtual 129, 3) := by decide +kernel
theorem dX9_takePart_4 : decode cX9_takePart 4 = .ok (.bipush 10, 2) := by decide +kernel
theorem dX9_takePart_6 : decode cX9_takePart 6 = .ok (.aload_n 0, 1) := by decide +kernel
theorem dX9_takePart_7 : decode cX9_takePart 7 = .ok (.getfield 47, 3) := by decide +kernel
theorem dX9_takePart_10 : decode cX9_takePart 10 = .ok (.iconst 4, 1) := by decide +kernel
theorem dX9_takePart_11 : decode cX9_takePart 11 = .ok (.iaload, 1) := by decide +kernel
theorem dX9_takePart_12 : decode cX9_takePart 12 = .ok (.iadd, 1) := by decide +kernel
theorem dX9_takePart_13 : decode cX9_takePart 13 = .ok (.istore_n 1, 1) := by decide +kernel
theorem dX9_takePart_14 : decode cX9_takePart 14 = .ok (.aload_n 0, 1) := by decide +kernel
theorem dX9_takePart_15 : decode cX9_takePart 15 = .ok (.getfield 17, 3) := by decide +kernel
theorem dX9_takePart_18 : decode cX9_takePart 18 = .ok (.iload_n 1, 1) := by decide +kernel
theorem dX9_takePart_19 : decode cX9_takePart 19 = .ok (.aload_n 0, 1) := by decide +kernel
theorem dX9_takePart_20 : decode cX9_takePart 20 = .ok (.iconst 4, 1) := by decide +kernel
theorem dX9_takePart_21 : decode cX9_takePart 21 = .ok (.bipush 98, 2) := by decide +kernel
theorem dX9_takePart_23 : decode cX9_takePart 23 = .ok (.bipush 114, 2) := by decide +kernel
theorem dX9_takePart_25 : decode cX9_takePart 25 = .ok (.bipush 111, 2) := by decide +kernel
theorem dX9_takePart_27 : decode cX9_takePart 27 = .ok (.bipush 119, 2) := by decide +kernel
theorem dX9_takePart_29 : decode cX9_takePart 29 = .ok (.iconst 0, 1) := by decide +kernel
theorem dX9_takePart_30 : decode cX9_takePart 30 = .ok (.invokevirtual 132, 3) := by decide +kernel
theorem dX9_takePart_33 : decode cX9_takePart 33 = .ok (.ifCond .eq 7, 3) := by decide +kernel
theorem dX9_takePart_36 : decode cX9_takePart 36 = .ok (.iconst 0, 1) := by decide +kernel
theorem dX9_takePart_37 : decode cX9_takePart 37 = .ok (.goto 47, 3) := by decide +kernel
theorem dX9_takePart_40 : decode cX9_takePart 40 = .ok (.aload_n 0, 1) := by decide +kernel
theorem dX9_takePart_41 : decode cX9_takePart 41 = .ok (.iconst 4, 1) := by decide +kernel
theorem dX9_takePart_42 : decode cX9_takePart 42 = .ok (.bipush 101, 2) := by decide +kernel
theorem dX9_takePart_44 : decode cX9_takePart 44 = .ok (.bipush 121, 2) := by decide +kernel
theorem dX9_takePart_46 : decode cX9_takePart 46 = .ok (.bipush 101, 2) := by decide +kernel
theorem dX9_takePart_48 : decode cX9_takePart 48 = .ok (.bipush 115, 2) := by decide +kernel
theorem dX9_takePart_50 : decode cX9_takePart 50 = .ok (.iconst 0, 1) := by decide +kernel
theorem dX9_takePart_51 : decode cX9_takePart 51 = .ok (.invokevirtual 132, 3) := by decide +kernel
theorem dX9_takePart_54 : decode cX9_takePart 54 = .ok (.ifCond .eq 7, 3) := by decide +kernel
theorem dX9_takePart_57 : decode cX9_takePart 57 = .ok (.iconst 1, 1) := by decide +kernel
theorem dX9_takePart_58 : decode cX9_takePart 58 = .ok (.goto 26, 3) := by decide +kernel
theorem dX9_takePart_61 : decode cX9_takePart 61 = .ok (.aload_n 0, 1) := by decide +kernel
theorem dX9_takePart_62 : decode cX9_takePart 62 = .ok (.iconst 5, 1) := by decide +kernel
theorem dX9_takePart_63 : decode cX9_takePart 63 = .ok (.bipush 109, 2) := by decide +kernel
theorem dX9_takePart_65 : decode cX9_takePart 65 = .ok (.bipush 111, 2) := by decide +kernel
theorem dX9_takePart_67 : decode cX9_takePart 67 = .ok (.bipush 117, 2) := by decide +kernel
theorem dX9_takePart_69 : decode cX9_takePart 69 = .ok (.bipush 116, 2) := by decide +kernel
theorem dX9_takePart_71 : decode cX9_takePart 71 = .ok (.bipush 104, 2) := by decide +kernel
theorem dX9_takePart_73 : decode cX9_takePart 73 = .ok (.invokevirtual 132, 3) := by decide +kernel
theorem dX9_takePart_76 : decode cX9_takePart 76 = .ok (.ifCond .eq 7, 3) := by decide +kernel
theorem dX9_takePart_79 : decode cX9_takePart 79 = .ok (.iconst 2, 1) := by decide +kernel
theorem dX9_takePart_80 : decode cX9_takePart 80 = .ok (.goto 4, 3) := by decide +kernel
theorem dX9_takePart_83 : decode cX9_takePart 83 = .ok (.iconst (-1), 1) := by decide +kernel
theorem dX9_takePart_84 : decode cX9_takePart 84 = .ok (.iastore, 1) := by decide +kernel
theorem dX9_takePart_85 : decode cX9_takePart 85 = .ok (.aload_n 0, 1) := by decide +kernel
theorem dX9_takePart_86 : decode cX9_takePart 86 = .ok (.aload_n 0, 1) := by decide +kernel
theorem dX9_takePart_87 : decode cX9_takePart 87 = .ok (.getfield 17, 3) := by decide +kernel
theorem dX9_takePart_90 : decode cX9_takePart 90 = .ok (.iload_n 1, 1) := by decide +kernel
theorem dX9_takePart_91 : decode cX9_takePart 91 = .ok (.iaload, 1) := by decide +kernel
theorem dX9_takePart_92 : decode cX9_takePart 92 = .ok (.ifCond .lt 7, 3) := by decide +kernel
theorem dX9_takePart_95 : decode cX9_takePart 95 = .ok (.iconst 1, 1) := by decide +kernel
theorem dX9_takePart_96 : decode cX9_takePart 96 = .ok (.goto 4, 3) := by decide +kernel
theorem dX9_takePart_99 : decode cX9_takePart 99 = .ok (.iconst 0, 1) := by decide +kernel
theorem dX9_takePart_100 : decode cX9_takePart 100 = .ok (.iconst 1, 1) := by decide +kernel
theorem dX9_takePart_101 : decode cX9_takePart 101 = .ok (.aload_n 0, 1) := by decide +kernel
theorem dX9_takePart_102 : decode cX9_takePart 102 = .ok (.getfield 110, 3) := by decide +kernel
theorem dX9_takePart_105 : decode cX9_takePart 105 = .ok (.invokevirtual 124, 3) := by decide +kernel
theorem dX9_takePart_108 : decode cX9_takePart 108 = .ok (.istore_n 2, 1) := by decide +kernel
theorem dX9_takePart_109 : decode cX9_takePart 109 = .ok (.aload_n 0, 1) := by decide +kernel
theorem dX9_takePart_110 : decode cX9_takePart 110 = .ok (.getfield 20, 3) := by decide +kernel
theorem dX9_takePart_113 : decode cX9_takePart 113 = .ok (.iload_n 1, 1) := by decide +kernel
theorem dX9_takePart_114 : decode cX9_takePart 114 = .ok (.aload_n 0, 1) := by decide +kernel
theorem dX9_takePart_115 : decode cX9_takePart 115 = .ok (.iconst 0, 1) := by decide +kernel
theorem dX9_takePart_116 : decode cX9_takePart 116 = .ok (.iconst 3, 1) := by decide +kernel
theorem dX9_takePart_117 : decode cX9_takePart 117 = .ok (.invokevirtual 136, 3) := by decide +kernel
theorem dX9_takePart_120 : decode cX9_takePart 120 = .ok (.iastore, 1) := by decide +kernel
theorem dX9_takePart_121 : decode cX9_takePart 121 = .ok (.aload_n 0, 1) := by decide +kernel
theorem dX9_takePart_122 : decode cX9_takePart 122 = .ok (.getfield 23, 3) := by decide +kernel
theorem dX9_takePart_125 : decode cX9_takePart 125 = .ok (.iload_n 1, 1) := by decide +kernel
theorem dX9_takePart_126 : decode cX9_takePart 126 = .ok (.aload_n 0, 1) := by decide +kernel
theorem dX9_takePart_127 : decode cX9_takePart 127 = .ok (.iconst 0, 1) := by decide +kernel
theorem dX9_takePart_128 : decode cX9_takePart 128 = .ok (.bipush 9, 2) := by decide +kernel
theorem dX9_takePart_130 : decode cX9_takePart 130 = .ok (.invokevirtual 136, 3) := by decide +kernel
theorem dX9_takePart_133 : decode cX9_takePart 133 = .ok (.iastore, 1) := by decide +kernel
theorem dX9_takePart_134 : decode cX9_takePart 134 = .ok (.aload_n 0, 1) := by decide +kernel
theorem dX9_takePart_135 : decode cX9_takePart 135 = .ok (.getfield 26, 3) := by decide +kernel
theorem dX9_takePart_138 : decode cX9_takePart 138 = .ok (.iload_n 1, 1) := by decide +kernel
theorem dX9_takePart_139 : decode cX9_takePart 139 = .ok (.aload_n 0, 1) := by decide +kernel
theorem dX9_takePart_140 : decode cX9_takePart 140 = .ok (.iconst 0, 1) := by decide +kernel
theorem dX9_takePart_141 : decode cX9_takePart 141 = .ok (.bipush 99, 2) := by decide +kernel
theorem dX9_takePart_143 : decode cX9_takePart 143 = .ok (.invokevirtual 136, 3) := by decide +kernel
theorem dX9_takePart_146 : decode cX9_takePart 146 = .ok (.iastore, 1) := by decide +kernel
theorem dX9_takePart_147 : decode cX9_takePart 147 = .ok (.aload_n 0, 1) := by decide +kernel
theorem dX9_takePart_148 : decode cX9_takePart 148 = .ok (.getfield 29, 3) := by decide +kernel
theorem dX9_takePart_151 : decode cX9_takePart 151 = .ok (.iload_n 1, 1) := by decide +kernel
theorem dX9_takePart_152 : decode cX9_takePart 152 = .ok (.aload_n 0, 1) := by decide +kernel
theorem dX9_takePart_153 : decode cX9_takePart 153 = .ok (.iconst 0, 1) := by decide +kernel
theorem dX9_takePart_154 : decode cX9_takePart 154 = .ok (.bipush 11, 2) := by decide +kernel
theorem dX9_takePart_156 : decode cX9_takePart 156 = .ok (.invokevirtual 136, 3) := by decide +kernel
theorem dX9_takePart_159 : decode cX9_takePart 159 = .ok (.iastore, 1) := by decide +kernel
theorem dX9_takePart_160 : decode cX9_takePart 160 = .ok (.aload_n 0, 1) := by decide +kernel
theorem dX9_takePart_161 : decode cX9_takePart 161 = .ok (.getfield 32, 3) := by decide +kernel
theorem dX9_takePart_164 : decode cX9_takePart 164 = .ok (.iload_n 1, 1) := by decide +kernel
theorem dX9_takePart_165 : decode cX9_takePart 165 = .ok (.aload_n 0, 1) := by decide +kernel
theorem dX9_takePart_166 : decode cX9_takePart 166 = .ok (.iconst 0, 1) := by decide +kernel
theorem dX9_takePart_167 : decode cX9_takePart 167 = .ok (.bipush 11, 2) := by decide +kernel
theorem dX9_takePart_169 : decode cX9_takePart 169 = .ok (.invokevirtual 136, 3) := by decide +kernel
theorem dX9_takePart_172 : decode cX9_takePart 172 = .ok (.iastore, 1) := by decide +kernel
theorem dX9_takePart_173 : decode cX9_takePart 173 = .ok (.aload_n 0, 1) := by decide +kernel
theorem dX9_takePart_174 : decode cX9_takePart 174 = .ok (.aload_n 0, 1) := by decide +kernel
theorem dX9_takePart_175 : decode cX9_takePart 175 = .ok (.getfield 32, 3) := by decide +kernel
theorem dX9_takePart_178 : decode cX9_takePart 178 = .ok (.iload_n 1, 1) := by decide +kernel
theorem dX9_takePart_179 : decode cX9_takePart 179 = .ok (.iaload, 1) := by decide +kernel
theorem dX9_takePart_180 : decode cX9_takePart 180 = .ok (.aload_n 0, 1) := by decide +kernel
theorem dX9_takePart_181 : decode cX9_takePart 181 = .ok (.getfield 29, 3) := by decide +kernel
theorem dX9_takePart_184 : decode cX9_takePart 184 = .ok (.iload_n 1, 1) := by decide +kernel
theorem dX9_takePart_185 : decode cX9_takePart 185 = .ok (.iaload, 1) := by decide +kernel
theorem dX9_takePart_186 : decode cX9_takePart 186 = .ok (.if_icmp .lt 7, 3) := by decide +kernel
theorem dX9_takePart_189 : decode cX9_takePart 189 = .ok (.iconst 1, 1) := by decide +kernel
theorem dX9_takePart_190 : decode cX9_takePart 190 = .ok (.goto 4, 3) := by decide +kernel
theorem dX9_takePart_193 : decode cX9_takePart 193 = .ok (.iconst 0, 1) := by decide +kernel
theorem dX9_takePart_194 : decode cX9_takePart 194 = .ok (.iconst 4, 1) := by decide +kernel
theorem dX9_takePart_195 : decode cX9_takePart 195 = .ok (.aload_n 0, 1) := by decide +kernel
theorem dX9_takePart_196 : decode cX9_takePart 196 = .ok (.getfield 110, 3) := by decide +kernel
theorem dX9_takePart_199 : decode cX9_takePart 199 = .ok (.invokevirtual 124, 3) := by decide +kernel
theorem dX9_takePart_202 : decode cX9_takePart 202 = .ok (.istore_n 2, 1) := by decide +kernel
theorem dX9_takePart_203 : decode cX9_takePart 203 = .ok (.aload_n 0, 1) := by decide +kernel
theorem dX9_takePart_204 : decode cX9_takePart 204 = .ok (.getfield 35, 3) := by decide +kernel
theorem dX9_takePart_207 : decode cX9_takePart 207 = .ok (.iload_n 1, 1) := by decide +kernel
theorem dX9_takePart_208 : decode cX9_takePart 208 = .ok (.iconst 0, 1) := by decide +kernel
theorem dX9_takePart_209 : decode cX9_takePart 209 = .ok (.iastore, 1) := by decide +kernel
theorem dX9_takePart_210 : decode cX9_takePart 210 = .ok (.aload_n 0, 1) := by decide +kernel
theorem dX9_takePart_211 : decode cX9_takePart 211 = .ok (.getfield 47, 3) := by decide +kernel
theorem dX9_takePart_214 : decode cX9_takePart 214 = .ok (.iconst 4, 1) := by decide +kernel
theorem dX9_takePart_215 : decode cX9_takePart 215 = .ok (.dup2, 1) := by decide +kernel
theorem dX9_takePart_216 : decode cX9_takePart 216 = .ok (.iaload, 1) := by decide +kernel
theorem dX9_takePart_217 : decode cX9_takePart 217 = .ok (.iconst 1, 1) := by decide +kernel
theorem dX9_takePart_218 : decode cX9_takePart 218 = .ok (.iadd, 1) := by decide +kernel
theorem dX9_takePart_219 : decode cX9_takePart 219 = .ok (.iastore, 1) := by decide +kernel
theorem dX9_takePart_220 : decode cX9_takePart 220 = .ok (.return_, 1) := by decide +kernel
theorem dX9_takeClash_0 : decode cX9_takeClash 0 = .ok (.aload_n 0, 1) := by decide +kernel
theorem dX9_takeClash_1 : decode cX9_takeClash 1 = .ok (.iconst 0, 1) := by decide +kernel
theorem dX9_takeClash_2 : decode cX9_takeClash 2 = .ok (.aload_n 0, 1) := by decide +kernel
theorem dX9_takeClash_3 : decode cX9_takeClash 3 = .ok (.getfield 47, 3) := by decide +kernel
theorem dX9_takeClash_6 : decode cX9_takeClash 6 = .ok (.iconst 4, 1) := by decide +kernel
theorem dX9_takeClash_7 : decode cX9_takeClash 7 = .ok (.iaload, 1) := by decide +kernel
theorem dX9_takeClash_8 : decode cX9_takeClash 8 = .ok (.iconst 1, 1) := by decide +kernel
theorem dX9_takeClash_9 : decode cX9_takeClash 9 = .ok (.isub, 1) := by decide +kernel
theorem dX9_takeClash_10 : decode cX9_takeClash 10 = .ok (.invokevirtual 136, 3) := by decide +kernel
theorem dX9_takeClash_13 : decode cX9_takeClash 13 = .ok (.istore_n 1, 1) := by decide +kernel
theorem dX9_takeClash_14 : decode cX9_takeClash 14 = .ok (.aload_n 0, 1) := by decide +kernel
theorem dX9_takeClash_15 : decode cX9_takeClash 15 = .ok (.iconst 0, 1) := by decide +kernel
theorem dX9_takeClash_16 : decode cX9_takeClash 16 = .ok (.aload_n 0, 1) := by decide +kernel
theorem dX9_takeClash_17 : decode cX9_takeClash 17 = .ok (.getfield 47, 3) := by decide +kernel
theorem dX9_takeClash_20 : decode cX9_takeClash 20 = .ok (.iconst 4, 1) := by decide +kernel
theorem dX9_takeClash_21 : decode cX9_takeClash 21 = .ok (.iaload, 1) := by decide +kernel
theorem dX9_takeClash_22 : decode cX9_takeClash 22 = .ok (.iconst 1, 1) := by decide +kernel
theorem dX9_takeClash_23 : decode cX9_takeClash 23 = .ok (.isub, 1) := by decide +kernel
theorem dX9_takeClash_24 : decode cX9_takeClash 24 = .ok (.invokevirtual 136, 3) := by decide +kernel
theorem dX9_takeClash_27 : decode cX9_takeClash 27 = .ok (.istore_n 2, 1) := by decide +kernel
theorem dX9_takeClash_28 : decode cX9_takeClash 28 = .ok (.aload_n 0, 1) := by decide +kernel
theorem dX9_takeClash_29 : decode cX9_takeClash 29 = .ok (.getfield 103, 3) := by decide +kernel
theorem dX9_takeClash_32 : decode cX9_takeClash 32 = .ok (.ifCond .ne 81, 3) := by decide +kernel
theorem dX9_takeClash_35 : decode cX9_takeClash 35 = .ok (.aload_n 0, 1) := by decide +kernel
theorem dX9_takeClash_36 : decode cX9_takeClash 36 = .ok (.iload_n 1, 1) := by decide +kernel
theorem dX9_takeClash_37 : decode cX9_takeClash 37 = .ok (.iload_n 2, 1) := by decide +kernel
theorem dX9_takeClash_38 : decode cX9_takeClash 38 = .ok (.if_icmp .eq 23, 3) := by decide +kernel
theorem dX9_takeClash_41 : decode cX9_takeClash 41 = .ok (.aload_n 0, 1) := by decide +kernel
theorem dX9_takeClash_42 : decode cX9_takeClash 42 = .ok (.getfield 35, 3) := by decide +kernel
theorem dX9_takeClash_45 : decode cX9_takeClash 45 = .ok (.bipush 10, 2) := by decide +kernel
theorem dX9_takeClash_47 : decode cX9_takeClash 47 = .ok (.iload_n 1, 1) := by decide +kernel
theorem dX9_takeClash_48 : decode cX9_takeClash 48 = .ok (.iadd, 1) := by decide +kernel
theorem dX9_takeClash_49 : decode cX9_takeClash 49 = .ok (.iaload, 1) := by decide +kernel
theorem dX9_takeClash_50 : decode cX9_takeClash 50 = .ok (.iload_n 2, 1) := by decide +kernel
theorem dX9_takeClash_51 : decode cX9_takeClash 51 = .ok (.invokestatic 140, 3) := by decide +kernel
theorem dX9_takeClash_54 : decode cX9_takeClash 54 = .ok (.ifCond .ne 7, 3) := by decide +kernel
theorem dX9_takeClash_57 : decode cX9_takeClash 57 = .ok (.iconst 1, 1) := by decide +kernel
theorem dX9_takeClash_58 : decode cX9_takeClash 58 = .ok (.goto 4, 3) := by decide +kernel
theorem dX9_takeClash_61 : decode cX9_takeClash 61 = .ok (.iconst 0, 1) := by decide +kernel
theorem dX9_takeClash_62 : decode cX9_takeClash 62 = .ok (.iconst 4, 1) := by decide +kernel
theorem dX9_takeClash_63 : decode cX9_takeClash 63 = .ok (.aload_n 0, 1) := by decide +kernel
theorem dX9_takeClash_64 : decode cX9_takeClash 64 = .ok (.getfield 110, 3) := by decide +kernel
theorem dX9_takeClash_67 : decode cX9_takeClash 67 = .ok (.invokevirtual 124, 3) := by decide +kernel
theorem dX9_takeClash_70 : decode cX9_takeClash 70 = .ok (.ifCond .eq 43, 3) := by decide +kernel
theorem dX9_takeClash_73 : decode cX9_takeClash 73 = .ok (.aload_n 0, 1) := by decide +kernel
theorem dX9_takeClash_74 : decode cX9_takeClash 74 = .ok (.getfield 35, 3) := by decide +kernel
theorem dX9_takeClash_77 : decode cX9_takeClash 77 = .ok (.bipush 10, 2) := by decide +kernel
theorem dX9_takeClash_79 : decode cX9_takeClash 79 = .ok (.iload_n 1, 1) := by decide +kernel
theorem dX9_takeClash_80 : decode cX9_takeClash 80 = .ok (.iadd, 1) := by decide +kernel
theorem dX9_takeClash_81 : decode cX9_takeClash 81 = .ok (.dup2, 1) := by decide +kernel
theorem dX9_takeClash_82 : decode cX9_takeClash 82 = .ok (.iaload, 1) := by decide +kernel
theorem dX9_takeClash_83 : decode cX9_takeClash 83 = .ok (.iconst 1, 1) := by decide +kernel
theorem dX9_takeClash_84 : decode cX9_takeClash 84 = .ok (.iload_n 2, 1) := by decide +kernel
theorem dX9_takeClash_85 : decode cX9_takeClash 85 = .ok (.ishl, 1) := by decide +kernel
theorem dX9_takeClash_86 : decode cX9_takeClash 86 = .ok (.ior, 1) := by decide +kernel
theorem dX9_takeClash_87 : decode cX9_takeClash 87 = .ok (.iastore, 1) := by decide +kernel
theorem dX9_takeClash_88 : decode cX9_takeClash 88 = .ok (.aload_n 0, 1) := by decide +kernel
theorem dX9_takeClash_89 : decode cX9_takeClash 89 = .ok (.getfield 35, 3) := by decide +kernel
theorem dX9_takeClash_92 : decode cX9_takeClash 92 = .ok (.bipush 10, 2) := by decide +kernel
theorem dX9_takeClash_94 : decode cX9_takeClash 94 = .ok (.iload_n 2, 1) := by decide +kernel
theorem dX9_takeClash_95 : decode cX9_takeClash 95 = .ok (.iadd, 1) := by decide +kernel
theorem dX9_takeClash_96 : decode cX9_takeClash 96 = .ok (.dup2, 1) := by decide +kernel
theorem dX9_takeClash_97 : decode cX9_takeClash 97 = .ok (.iaload, 1) := by decide +kernel
theorem dX9_takeClash_98 : decode cX9_takeClash 98 = .ok (.iconst 1, 1) := by decide +kernel
theorem dX9_takeClash_99 : decode cX9_takeClash 99 = .ok (.iload_n 1, 1) := by decide +kernel
theorem dX9_takeClash_100 : decode cX9_takeClash 100 = .ok (.ishl, 1) := by decide +kernel
theorem dX9_takeClash_101 : decode cX9_takeClash 101 = .ok (.ior, 1) := by decide +kernel
theorem dX9_takeClash_102 : decode cX9_takeClash 102 = .ok (.iastore, 1) := by decide +kernel
theorem dX9_takeClash_103 : decode cX9_takeClash 103 = .ok (.aload_n 0, 1) := by decide +kernel
theorem dX9_takeClash_104 : decode cX9_takeClash 104 = .ok (.getfield 47, 3) := by decide +kernel
theorem dX9_takeClash_107 : decode cX9_takeClash 107 = .ok (.iconst 5, 1) := by decide +kernel
theorem dX9_takeClash_108 : decode cX9_takeClash 108 = .ok (.dup2, 1) := by decide +kernel
theorem dX9_takeClash_109 : decode cX9_takeClash 109 = .ok (.iaload, 1) := by decide +kernel
theorem dX9_takeClash_110 : decode cX9_takeClash 110 = .ok (.iconst 1, 1) := by decide +kernel
theorem dX9_takeClash_111 : decode cX9_takeClash 111 = .ok (.iadd, 1) := by decide +kernel
theorem dX9_takeClash_112 : decode cX9_takeClash 112 = .ok (.iastore, 1) := by decide +kernel
theorem dX9_takeClash_113 : decode cX9_takeClash 113 = .ok (.return_, 1) := by decide +kernel
theorem dX9_takeScene_0 : decode cX9_takeScene 0 = .ok (.bipush 8, 2) := by decide +kernel
theorem dX9_takeScene_2 : decode cX9_takeScene 2 = .ok (.aload_n 0, 1) := by decide +kernel
theorem dX9_takeScene_3 : decode cX9_takeScene 3 = .ok (.getfield 47, 3) := by decide +kernel
theorem dX9_takeScene_6 : decode cX9_takeScene 6 = .ok (.bipush 6, 2) := by decide +kernel
theorem dX9_takeScene_8 : decode cX9_takeScene 8 = .ok (.iaload, 1) := by decide +kernel
theorem dX9_takeScene_9 : decode cX9_takeScene 9 = .ok (.iadd, 1) := by decide +kernel
theorem dX9_takeScene_10 : decode cX9_takeScene 10 = .ok (.istore_n 1, 1) := by decide +kernel
theorem dX9_takeScene_11 : decode cX9_takeScene 11 = .ok (.aload_n 0, 1) := by decide +kernel
theorem dX9_takeScene_12 : decode cX9_takeScene 12 = .ok (.getfield 38, 3) := by decide +kernel
theorem dX9_takeScene_15 : decode cX9_takeScene 15 = .ok (.iload_n 1, 1) := by decide +kernel
theorem dX9_takeScene_16 : decode cX9_takeScene 16 = .ok (.aload_n 0, 1) := by decide +kernel
theorem dX9_takeScene_17 : decode cX9_takeScene 17 = .ok (.iconst 0, 1) := by decide +kernel
theorem dX9_takeScene_18 : decode cX9_takeScene 18 = .ok (.bipush 11, 2) := by decide +kernel
theorem dX9_takeScene_20 : decode cX9_takeScene 20 = .ok (.invokevirtual 136, 3) := by decide +kernel
theorem dX9_takeScene_23 : decode cX9_takeScene 23 = .ok (.iastore, 1) := by decide +kernel
theorem dX9_takeScene_24 : decode cX9_takeScene 24 = .ok (.aload_n 0, 1) := by decide +kernel
theorem dX9_takeScene_25 : decode cX9_takeScene 25 = .ok (.getfield 41, 3) := by decide +kernel
theorem dX9_takeScene_28 : decode cX9_takeScene 28 = .ok (.iload_n 1, 1) := by decide +kernel
theorem dX9_takeScene_29 : decode cX9_takeScene 29 = .ok (.aload_n 0, 1) := by decide +kernel
theorem dX9_takeScene_30 : decode cX9_takeScene 30 = .ok (.iconst 0, 1) := by decide +kernel
theorem dX9_takeScene_31 : decode cX9_takeScene 31 = .ok (.bipush 27, 2) := by decide +kernel
theorem dX9_takeScene_33 : decode cX9_takeScene 33 = .ok (.invokevirtual 136, 3) := by decide +kernel
theorem dX9_takeScene_36 : decode cX9_takeScene 36 = .ok (.iastore, 1) := by decide +kernel
theorem dX9_takeScene_37 : decode cX9_takeScene 37 = .ok (.aload_n 0, 1) := by decide +kernel
theorem dX9_takeScene_38 : decode cX9_takeScene 38 = .ok (.getfield 44, 3) := by decide +kernel
theorem dX9_takeScene_41 : decode cX9_takeScene 41 = .ok (.iload_n 1, 1) := by decide +kernel
theorem dX9_takeScene_42 : decode cX9_takeScene 42 = .ok (.aload_n 0, 1) := by decide +kernel
theorem dX9_takeScene_43 : decode cX9_takeScene 43 = .ok (.iconst 0, 1) := by decide +kernel
theorem dX9_takeScene_44 : decode cX9_takeScene 44 = .ok (.bipush 27, 2) := by decide +kernel
theorem dX9_takeScene_46 : decode cX9_takeScene 46 = .ok (.invokevirtual 136, 3) := by decide +kernel
theorem dX9_takeScene_49 : decode cX9_takeScene 49 = .ok (.iastore, 1) := by decide +kernel
theorem dX9_takeScene_50 : decode cX9_takeScene 50 = .ok (.aload_n 0, 1) := by decide +kernel
theorem dX9_takeScene_51 : decode cX9_takeScene 51 = .ok (.aload_n 0, 1) := by decide +kernel
theorem dX9_takeScene_52 : decode cX9_takeScene 52 = .ok (.getfield 44, 3) := by decide +kernel
theorem dX9_takeScene_55 : decode cX9_takeScene 55 = .ok (.iload_n 1, 1) := by decide +kernel
theorem dX9_takeScene_56 : decode cX9_takeScene 56 = .ok (.iaload, 1) := by decide +kernel
theorem dX9_takeScene_57 : decode cX9_takeScene 57 = .ok (.aload_n 0, 1) := by decide +kernel
theorem dX9_takeScene_58 : decode cX9_takeScene 58 = .ok (.getfield 41, 3) := by decide +kernel
theorem dX9_takeScene_61 : decode cX9_takeScene 61 = .ok (.iload_n 1, 1) := by decide +kernel
theorem dX9_takeScene_62 : decode cX9_takeScene 62 = .ok (.iaload, 1) := by decide +kernel
theorem dX9_takeScene_63 : decode cX9_takeScene 63 = .ok (.if_icmp .lt 7, 3) := by decide +kernel
theorem dX9_takeScene_66 : decode cX9_takeScene 66 = .ok (.iconst 1, 1) := by decide +kernel
theorem dX9_takeScene_67 : decode cX9_takeScene 67 = .ok (.goto 4, 3) := by decide +kernel
theorem dX9_takeScene_70 : decode cX9_takeScene 70 = .ok (.iconst 0, 1) := by decide +kernel
theorem dX9_takeScene_71 : decode cX9_takeScene 71 = .ok (.iconst 4, 1) := by decide +kernel
theorem dX9_takeScene_72 : decode cX9_takeScene 72 = .ok (.aload_n 0, 1) := by decide +kernel
theorem dX9_takeScene_73 : decode cX9_takeScene 73 = .ok (.getfield 110, 3) := by decide +kernel
theorem dX9_takeScene_76 : decode cX9_takeScene 76 = .ok (.invokevirtual 124, 3) := by decide +kernel
theorem dX9_takeScene_79 : decode cX9_takeScene 79 = .ok (.istore_n 2, 1) := by decide +kernel
theorem dX9_takeScene_80 : decode cX9_takeScene 80 = .ok (.aload_n 0, 1) := by decide +kernel
theorem dX9_takeScene_81 : decode cX9_takeScene 81 = .ok (.getfield 47, 3) := by decide +kernel
theorem dX9_takeScene_84 : decode cX9_takeScene 84 = .ok (.bipush 6, 2) := by decide +kernel
theorem dX9_takeScene_86 : decode cX9_takeScene 86 = .ok (.dup2, 1) := by decide +kernel
theorem dX9_takeScene_87 : decode cX9_takeScene 87 = .ok (.iaload, 1) := by decide +kernel
theorem dX9_takeScene_88 : decode cX9_takeScene 88 = .ok (.iconst 1, 1) := by decide +kernel
theorem dX9_takeScene_89 : decode cX9_takeScene 89 = .ok (.iadd, 1) := by decide +kernel
theorem dX9_takeScene_90 : decode cX9_takeScene 90 = .ok (.iastore, 1) := by decide +kernel
theorem dX9_takeScene_91 : decode cX9_takeScene 91 = .ok (.return_, 1) := by decide +kernel
theorem dX9_takeClause_0 : decode cX9_takeClause 0 = .ok (.aload_n 0, 1) := by decide +kernel
theorem dX9_takeClause_1 : decode cX9_takeClause 1 = .ok (.invokevirtual 129, 3) := by decide +kernel
theorem dX9_takeClause_4 : decode cX9_takeClause 4 = .ok (.aload_n 0, 1) := by decide +kernel
theorem dX9_takeClause_5 : decode cX9_takeClause 5 = .ok (.getfield 110, 3) := by decide +kernel
theorem dX9_takeClause_8 : decode cX9_takeClause 8 = .ok (.istore_n 1, 1) := by decide +kernel
theorem dX9_takeClause_9 : decode cX9_takeClause 9 = .ok (.aload_n 0, 1) := by decide +kernel
theorem dX9_takeClause_10 : decode cX9_takeClause 10 = .ok (.iconst 4, 1) := by decide +kernel
theorem dX9_takeClause_11 : decode cX9_takeClause 11 = .ok (.bipush 112, 2) := by decide +kernel
theorem dX9_takeClause_13 : decode cX9_takeClause 13 = .ok (.bipush 97, 2) := by decide +kernel
theorem dX9_takeClause_15 : decode cX9_takeClause 15 = .ok (.bipush 114, 2) := by decide +kernel
theorem dX9_takeClause_17 : decode cX9_takeClause 17 = .ok (.bipush 116, 2) := by decide +kernel
theorem dX9_takeClause_19 : decode cX9_takeClause 19 = .ok (.iconst 0, 1) := by decide +kernel
theorem dX9_takeClause_20 : decode cX9_takeClause 20 = .ok (.invokevirtual 132, 3) := by decide +kernel
theorem dX9_takeClause_23 : decode cX9_takeClause 23 = .ok (.ifCond .eq 35, 3) := by decide +kernel
theorem dX9_takeClause_26 : decode cX9_takeClause 26 = .ok (.aload_n 0, 1) := by decide +kernel
theorem dX9_takeClause_27 : decode cX9_takeClause 27 = .ok (.aload_n 0, 1) := by decide +kernel
theorem dX9_takeClause_28 : decode cX9_takeClause 28 = .ok (.getfield 47, 3) := by decide +kernel
theorem dX9_takeClause_31 : decode cX9_takeClause 31 = .ok (.iconst 4, 1) := by decide +kernel
theorem dX9_takeClause_32 : decode cX9_takeClause 32 = .ok (.iaload, 1) := by decide +kernel
theorem dX9_takeClause_33 : decode cX9_takeClause 33 = .ok (.bipush 10, 2) := by decide +kernel
theorem dX9_takeClause_35 : decode cX9_takeClause 35 = .ok (.if_icmp .ge 7, 3) := by decide +kernel
theorem dX9_takeClause_38 : decode cX9_takeClause 38 = .ok (.iconst 1, 1) := by decide +kernel
theorem dX9_takeClause_39 : decode cX9_takeClause 39 = .ok (.goto 4, 3) := by decide +kernel
theorem dX9_takeClause_42 : decode cX9_takeClause 42 = .ok (.iconst 0, 1) := by decide +kernel
theorem dX9_takeClause_43 : decode cX9_takeClause 43 = .ok (.iconst 3, 1) := by decide +kernel
theorem dX9_takeClause_44 : decode cX9_takeClause 44 = .ok (.iload_n 1, 1) := by decide +kernel
theorem dX9_takeClause_45 : decode cX9_takeClause 45 = .ok (.invokevirtual 124, 3) := by decide +kernel
theorem dX9_takeClause_48 : decode cX9_takeClause 48 = .ok (.ifCond .eq 114, 3) := by decide +kernel
theorem dX9_takeClause_51 : decode cX9_takeClause 51 = .ok (.aload_n 0, 1) := by decide +kernel
theorem dX9_takeClause_52 : decode cX9_takeClause 52 = .ok (.invokevirtual 144, 3) := by decide +kernel
theorem dX9_takeClause_55 : decode cX9_takeClause 55 = .ok (.goto 107, 3) := by decide +kernel
theorem dX9_takeClause_58 : decode cX9_takeClause 58 = .ok (.aload_n 0, 1) := by decide +kernel
theorem dX9_takeClause_59 : decode cX9_takeClause 59 = .ok (.iconst 5, 1) := by decide +kernel
theorem dX9_takeClause_60 : decode cX9_takeClause 60 = .ok (.bipush 99, 2) := by decide +kernel
theorem dX9_takeClause_62 : decode cX9_takeClause 62 = .ok (.bipush 108, 2) := by decide +kernel
theorem dX9_takeClause_64 : decode cX9_takeClause 64 = .ok (.bipush 97, 2) := by decide +kernel
theorem dX9_takeClause_66 : decode cX9_takeClause 66 = .ok (.bipush 115, 2) := by decide +kernel
theorem dX9_takeClause_68 : decode cX9_takeClause 68 = .ok (.bipush 104, 2) := by decide +kernel
theorem dX9_takeClause_70 : decode cX9_takeClause 70 = .ok (.invokevirtual 132, 3) := by decide +kernel
theorem dX9_takeClause_73 : decode cX9_takeClause 73 = .ok (.ifCond .eq 35, 3) := by decide +kernel
theorem dX9_takeClause_76 : decode cX9_takeClause 76 = .ok (.aload_n 0, 1) := by decide +kernel
theorem dX9_takeClause_77 : decode cX9_takeClause 77 = .ok (.aload_n 0, 1) := by decide +kernel
theorem dX9_takeClause_78 : decode cX9_takeClause 78 = .ok (.getfield 47, 3) := by decide +kernel
theorem dX9_takeClause_81 : decode cX9_takeClause 81 = .ok (.iconst 5, 1) := by decide +kernel
theorem dX9_takeClause_82 : decode cX9_takeClause 82 = .ok (.iaload, 1) := by decide +kernel
theorem dX9_takeClause_83 : decode cX9_takeClause 83 = .ok (.bipush 15, 2) := by decide +kernel
theorem dX9_takeClause_85 : decode cX9_takeClause 85 = .ok (.if_icmp .ge 7, 3) := by decide +kernel
theorem dX9_takeClause_88 : decode cX9_takeClause 88 = .ok (.iconst 1, 1) := by decide +kernel
theorem dX9_takeClause_89 : decode cX9_takeClause 89 = .ok (.goto 4, 3) := by decide +kernel
theorem dX9_takeClause_92 : decode cX9_takeClause 92 = .ok (.iconst 0, 1) := by decide +kernel
theorem dX9_takeClause_93 : decode cX9_takeClause 93 = .ok (.iconst 3, 1) := by decide +kernel
theorem dX9_takeClause_94 : decode cX9_takeClause 94 = .ok (.iload_n 1, 1) := by decide +kernel
theorem dX9_takeClause_95 : decode cX9_takeClause 95 = .ok (.invokevirtual 124, 3) := by decide +kernel
theorem dX9_takeClause_98 : decode cX9_takeClause 98 = .ok (.ifCond .eq 64, 3) := by decide +kernel
theorem dX9_takeClause_101 : decode cX9_takeClause 101 = .ok (.aload_n 0, 1) := by decide +kernel
theorem dX9_takeClause_102 : decode cX9_takeClause 102 = .ok (.invokevirtual 147, 3) := by decide +kernel
theorem dX9_takeClause_105 : decode cX9_takeClause 105 = .ok (.goto 57, 3) := by decide +kernel
theorem dX9_takeClause_108 : decode cX9_takeClause 108 = .ok (.aload_n 0, 1) := by decide +kernel
theorem dX9_takeClause_109 : decode cX9_takeClause 109 = .ok (.aload_n 0, 1) := by decide +kernel
theorem dX9_takeClause_110 : decode cX9_takeClause 110 = .ok (.iconst 5, 1) := by decide +kernel
theorem dX9_takeClause_111 : decode cX9_takeClause 111 = .ok (.bipush 115, 2) := by decide +kernel
theorem dX9_takeClause_113 : decode cX9_takeClause 113 = .ok (.bipush 99, 2) := by decide +kernel
theorem dX9_takeClause_115 : decode cX9_takeClause 115 = .ok (.bipush 101, 2) := by decide +kernel
theorem dX9_takeClause_117 : decode cX9_takeClause 117 = .ok (.bipush 110, 2) := by decide +kernel
theorem dX9_takeClause_119 : decode cX9_takeClause 119 = .ok (.bipush 101, 2) := by decide +kernel
theorem dX9_takeClause_121 : decode cX9_takeClause 121 = .ok (.invokevirtual 132, 3) := by decide +kernel
theorem dX9_takeClause_124 : decode cX9_takeClause 124 = .ok (.iconst 1, 1) := by decide +kernel
theorem dX9_takeClause_125 : decode cX9_takeClause 125 = .ok (.iload_n 1, 1) := by decide +kernel
theorem dX9_takeClause_126 : decode cX9_takeClause 126 = .ok (.invokevirtual 124, 3) := by decide +kernel
theorem dX9_takeClause_129 : decode cX9_takeClause 129 = .ok (.ifCond .eq 33, 3) := by decide +kernel
theorem dX9_takeClause_132 : decode cX9_takeClause 132 = .ok (.aload_n 0, 1) := by decide +kernel
theorem dX9_takeClause_133 : decode cX9_takeClause 133 = .ok (.aload_n 0, 1) := by decide +kernel
theorem dX9_takeClause_134 : decode cX9_takeClause 134 = .ok (.getfield 47, 3) := by decide +kernel
theorem dX9_takeClause_137 : decode cX9_takeClause 137 = .ok (.bipush 6, 2) := by decide +kernel
theorem dX9_takeClause_139 : decode cX9_takeClause 139 = .ok (.iaload, 1) := by decide +kernel
theorem dX9_takeClause_140 : decode cX9_takeClause 140 = .ok (.bipush 8, 2) := by decide +kernel
theorem dX9_takeClause_142 : decode cX9_takeClause 142 = .ok (.if_icmp .ge 7, 3) := by decide +kernel
theorem dX9_takeClause_145 : decode cX9_takeClause 145 = .ok (.iconst 1, 1) := by decide +kernel
theorem dX9_takeClause_146 : decode cX9_takeClause 146 = .ok (.goto 4, 3) := by decide +kernel
theorem dX9_takeClause_149 : decode cX9_takeClause 149 = .ok (.iconst 0, 1) := by decide +kernel
theorem dX9_takeClause_150 : decode cX9_takeClause 150 = .ok (.iconst 3, 1) := by decide +kernel
theorem dX9_takeClause_151 : decode cX9_takeClause 151 = .ok (.iload_n 1, 1) := by decide +kernel
theorem dX9_takeClause_152 : decode cX9_takeClause 152 = .ok (.invokevirtual 124, 3) := by decide +kernel
theorem dX9_takeClause_155 : decode cX9_takeClause 155 = .ok (.ifCond .eq 7, 3) := by decide +kernel
theorem dX9_takeClause_158 : decode cX9_takeClause 158 = .ok (.aload_n 0, 1) := by decide +kernel
theorem dX9_takeClause_159 : decode cX9_takeClause 159 = .ok (.invokevirtual 150, 3) := by decide +kernel
theorem dX9_takeClause_162 : decode cX9_takeClause 162 = .ok (.return_, 1) := by decide +kernel
theorem dX9_town_0 : decode cX9_town 0 = .ok (.aload_n 0, 1) := by decide +kernel
theorem dX9_town_1 : decode cX9_town 1 = .ok (.iconst 0, 1) := by decide +kernel
theorem dX9_town_2 : decode cX9_town 2 = .ok (.putfield 100, 3) := by decide +kernel
theorem dX9_town_5 : decode cX9_town 5 = .ok (.aload_n 0, 1) := by decide +kernel
theorem dX9_town_6 : decode cX9_town 6 = .ok (.iconst 0, 1) := by decide +kernel
theorem dX9_town_7 : decode cX9_town 7 = .ok (.putfield 103, 3) := by decide +kernel
theorem dX9_town_10 : decode cX9_town 10 = .ok (.aload_n 0, 1) := by decide +kernel
theorem dX9_town_11 : decode cX9_town 11 = .ok (.iconst (-1), 1) := by decide +kernel
theorem dX9_town_12 : decode cX9_town 12 = .ok (.putfield 53, 3) := by decide +kernel
theorem dX9_town_15 : decode cX9_town 15 = .ok (.aload_n 0, 1) := by decide +kernel
theorem dX9_town_16 : decode cX9_town 16 = .ok (.getfield 47, 3) := by decide +kernel
theorem dX9_town_19 : decode cX9_town 19 = .ok (.iconst 4, 1) := by decide +kernel
theorem dX9_town_20 : decode cX9_town 20 = .ok (.iconst 0, 1) := by decide +kernel
theorem dX9_town_21 : decode cX9_town 21 = .ok (.iastore, 1) := by decide +kernel
theorem dX9_town_22 : decode cX9_town 22 = .ok (.aload_n 0, 1) := by decide +kernel
theorem dX9_town_23 : decode cX9_town 23 = .ok (.getfield 47, 3) := by decide +kernel
theorem dX9_town_26 : decode cX9_town 26 = .ok (.iconst 5, 1) := by decide +kernel
theorem dX9_town_27 : decode cX9_town 27 = .ok (.iconst 0, 1) := by decide +kernel
theorem dX9_town_28 : decode cX9_town 28 = .ok (.iastore, 1) := by decide +kernel
theorem dX9_town_29 : decode cX9_town 29 = .ok (.aload_n 0, 1) := by decide +kernel
theorem dX9_town_30 : decode cX9_town 30 = .ok (.getfield 47, 3) := by decide +kernel
theorem dX9_town_33 : decode cX9_town 33 = .ok (.bipush 6, 2) := by decide +kernel
theorem dX9_town_35 : decode cX9_town 35 = .ok (.iconst 0, 1) := by decide +kernel
theorem dX9_town_36 : decode cX9_town 36 = .ok (.iastore, 1) := by decide +kernel
theorem dX9_town_37 : decode cX9_town 37 = .ok (.aload_n 0, 1) := by decide +kernel
theorem dX9_town_38 : decode cX9_town 38 = .ok (.getfield 103, 3) := by decide +kernel
theorem dX9_town_41 : decode cX9_town 41 = .ok (.ifCond .ne 60, 3) := by decide +kernel
theorem dX9_town_44 : decode cX9_town 44 = .ok (.aload_n 0, 1) := by decide +kernel
theorem dX9_town_45 : decode cX9_town 45 = .ok (.invokevirtual 106, 3) := by decide +kernel
theorem dX9_town_48 : decode cX9_town 48 = .ok (.ifCond .lt 53, 3) := by decide +kernel
theorem dX9_town_51 : decode cX9_town 51 = .ok (.aload_n 0, 1) := by decide +kernel
theorem dX9_town_52 : decode cX9_town 52 = .ok (.invokevirtual 153, 3) := by decide +kernel
theorem dX9_town_55 : decode cX9_town 55 = .ok (.aload_n 0, 1) := by decide +kernel
theorem dX9_town_56 : decode cX9_town 56 = .ok (.getfield 103, 3) := by decide +kernel
theorem dX9_town_59 : decode cX9_town 59 = .ok (.ifCond .ne (-22), 3) := by decide +kernel
theorem dX9_town_62 : decode cX9_town 62 = .ok (.aload_n 0, 1) := by decide +kernel
theorem dX9_town_63 : decode cX9_town 63 = .ok (.aload_n 0, 1) := by decide +kernel
theorem dX9_town_64 : decode cX9_town 64 = .ok (.invokevirtual 106, 3) := by decide +kernel
theorem dX9_town_67 : decode cX9_town 67 = .ok (.bipush 59, 2) := by decide +kernel
theorem dX9_town_69 : decode cX9_town 69 = .ok (.if_icmp .ne 7, 3) := by decide +kernel
theorem dX9_town_72 : decode cX9_town 72 = .ok (.iconst 1, 1) := by decide +kernel
theorem dX9_town_73 : decode cX9_town 73 = .ok (.goto 4, 3) := by decide +kernel
theorem dX9_town_76 : decode cX9_town 76 = .ok (.iconst 0, 1) := by decide +kernel
theorem dX9_town_77 : decode cX9_town 77 = .ok (.iconst 1, 1) := by decide +kernel
theorem dX9_town_78 : decode cX9_town 78 = .ok (.aload_n 0, 1) := by decide +kernel
theorem dX9_town_79 : decode cX9_town 79 = .ok (.getfield 100, 3) := by decide +kernel
theorem dX9_town_82 : decode cX9_town 82 = .ok (.invokevirtual 124, 3) := by decide +kernel
theorem dX9_town_85 : decode cX9_town 85 = .ok (.ifCond .eq (-48), 3) := by decide +kernel
theorem dX9_town_88 : decode cX9_town 88 = .ok (.aload_n 0, 1) := by decide +kernel
theorem dX9_town_89 : decode cX9_town 89 = .ok (.dup, 1) := by decide +kernel
theorem dX9_town_90 : decode cX9_town 90 = .ok (.getfield 100, 3) := by decide +kernel
theorem dX9_town_93 : decode cX9_town 93 = .ok (.iconst 1, 1) := by decide +kernel
theorem dX9_town_94 : decode cX9_town 94 = .ok (.iadd, 1) := by decide +kernel
theorem dX9_town_95 : decode cX9_town 95 = .ok (.putfield 100, 3) := by decide +kernel
theorem dX9_town_98 : decode cX9_town 98 = .ok (.goto (-61), 3) := by decide +kernel
theorem dX9_town_101 : decode cX9_town 101 = .ok (.aload_n 0, 1) := by decide +kernel
theorem dX9_town_102 : decode cX9_town 102 = .ok (.iconst 0, 1) := by decide +kernel
theorem dX9_town_103 : decode cX9_town 103 = .ok (.putfield 94, 3) := by decide +kernel
theorem dX9_town_106 : decode cX9_town 106 = .ok (.aload_n 0, 1) := by decide +kernel
theorem dX9_town_107 : decode cX9_town 107 = .ok (.getfield 103, 3) := by decide +kernel
theorem dX9_town_110 : decode cX9_town 110 = .ok (.ifCond .le 11, 3) := by decide +kernel
theorem dX9_town_113 : decode cX9_town 113 = .ok (.bipush (-10), 2) := by decide +kernel
theorem dX9_town_115 : decode cX9_town 115 = .ok (.aload_n 0, 1) := by decide +kernel
theorem dX9_town_116 : decode cX9_town 116 = .ok (.getfield 103, 3) := by decide +kernel
theorem dX9_town_119 : decode cX9_town 119 = .ok (.isub, 1) := by decide +kernel
theorem dX9_town_120 : decode cX9_town 120 = .ok (.ireturn, 1) := by decide +kernel
theorem dX9_town_121 : decode cX9_town 121 = .ok (.aload_n 0, 1) := by decide +kernel
theorem dX9_town_122 : decode cX9_town 122 = .ok (.getfield 47, 3) := by decide +kernel
theorem dX9_town_125 : decode cX9_town 125 = .ok (.iconst 0, 1) := by decide +kernel
theorem dX9_town_126 : decode cX9_town 126 = .ok (.aload_n 0, 1) := by decide +kernel
theorem dX9_town_127 : decode cX9_town 127 = .ok (.getfield 47, 3) := by decide +kernel
theorem dX9_town_130 : decode cX9_town 130 = .ok (.iconst 4, 1) := by decide +kernel
theorem dX9_town_131 : decode cX9_town 131 = .ok (.iaload, 1) := by decide +kernel
theorem dX9_town_132 : decode cX9_town 132 = .ok (.iastore, 1) := by decide +kernel
theorem dX9_town_133 : decode cX9_town 133 = .ok (.aload_n 0, 1) := by decide +kernel
theorem dX9_town_134 : decode cX9_town 134 = .ok (.getfield 47, 3) := by decide +kernel
theorem dX9_town_137 : decode cX9_town 137 = .ok (.iconst 1, 1) := by decide +kernel
theorem dX9_town_138 : decode cX9_town 138 = .ok (.aload_n 0, 1) := by decide +kernel
theorem dX9_town_139 : decode cX9_town 139 = .ok (.getfield 47, 3) := by decide +kernel
theorem dX9_town_142 : decode cX9_town 142 = .ok (.bipush 6, 2) := by decide +kernel
theorem dX9_town_144 : decode cX9_town 144 = .ok (.iaload, 1) := by decide +kernel
theorem dX9_town_145 : decode cX9_town 145 = .ok (.iastore, 1) := by decide +kernel
theorem dX9_town_146 : decode cX9_town 146 = .ok (.iconst 0, 1) := by decide +kernel
theorem dX9_town_147 : decode cX9_town 147 = .ok (.istore_n 1, 1) := by decide +kernel
theorem dX9_town_148 : decode cX9_town 148 = .ok (.iload_n 1, 1) := by decide +kernel
theorem dX9_town_149 : decode cX9_town 149 = .ok (.bipush 10, 2) := by decide +kernel
theorem dX9_town_151 : decode cX9_town 151 = .ok (.if_icmp .ge 127, 3) := by decide +kernel
theorem dX9_town_154 : decode cX9_town 154 = .ok (.aload_n 0, 1) := by decide +kernel
theorem dX9_town_155 : decode cX9_town 155 = .ok (.getfield 17, 3) := by decide +kernel
theorem dX9_town_158 : decode cX9_town 158 = .ok (.iload_n 1, 1) := by decide +kernel
theorem dX9_town_159 : decode cX9_town 159 = .ok (.aload_n 0, 1) := by decide +kernel
theorem dX9_town_160 : decode cX9_town 160 = .ok (.getfield 17, 3) := by decide +kernel
theorem dX9_town_163 : decode cX9_town 163 = .ok (.bipush 10, 2) := by decide +kernel
theorem dX9_town_165 : decode cX9_town 165 = .ok (.iload_n 1, 1) := by decide +kernel
theorem dX9_town_166 : decode cX9_town 166 = .ok (.iadd, 1) := by decide +kernel
theorem dX9_town_167 : decode cX9_town 167 = .ok (.iaload, 1) := by decide +kernel
theorem dX9_town_168 : decode cX9_town 168 = .ok (.iastore, 1) := by decide +kernel
theorem dX9_town_169 : decode cX9_town 169 = .ok (.aload_n 0, 1) := by decide +kernel
theorem dX9_town_170 : decode cX9_town 170 = .ok (.getfield 20, 3) := by decide +kernel
theorem dX9_town_173 : decode cX9_town 173 = .ok (.iload_n 1, 1) := by decide +kernel
theorem dX9_town_174 : decode cX9_town 174 = .ok (.aload_n 0, 1) := by decide +kernel
theorem dX9_town_175 : decode cX9_town 175 = .ok (.getfield 20, 3) := by decide +kernel
theorem dX9_town_178 : decode cX9_town 178 = .ok (.bipush 10, 2) := by decide +kernel
theorem dX9_town_180 : decode cX9_town 180 = .ok (.iload_n 1, 1) := by decide +kernel
theorem dX9_town_181 : decode cX9_town 181 = .ok (.iadd, 1) := by decide +kernel
theorem dX9_town_182 : decode cX9_town 182 = .ok (.iaload, 1) := by decide +kernel
theorem dX9_town_183 : decode cX9_town 183 = .ok (.iastore, 1) := by decide +kernel
theorem dX9_town_184 : decode cX9_town 184 = .ok (.aload_n 0, 1) := by decide +kernel
theorem dX9_town_185 : decode cX9_town 185 = .ok (.getfield 29, 3) := by decide +kernel
theorem dX9_town_188 : decode cX9_town 188 = .ok (.iload_n 1, 1) := by decide +kernel
theorem dX9_town_189 : decode cX9_town 189 = .ok (.aload_n 0, 1) := by decide +kernel
theorem dX9_town_190 : decode cX9_town 190 = .ok (.getfield 29, 3) := by decide +kernel
theorem dX9_town_193 : decode cX9_town 193 = .ok (.bipush 10, 2) := by decide +kernel
theorem dX9_town_195 : decode cX9_town 195 = .ok (.iload_n 1, 1) := by decide +kernel
theorem dX9_town_196 : decode cX9_town 196 = .ok (.iadd, 1) := by decide +kernel
theorem dX9_town_197 : decode cX9_town 197 = .ok (.iaload, 1) := by decide +kernel
theorem dX9_town_198 : decode cX9_town 198 = .ok (.iastore, 1) := by decide +kernel
theorem dX9_town_199 : decode cX9_town 199 = .ok (.aload_n 0, 1) := by decide +kernel
theorem dX9_town_200 : decode cX9_town 200 = .ok (.getfield 32, 3) := by decide +kernel
theorem dX9_town_203 : decode cX9_town 203 = .ok (.iload_n 1, 1) := by decide +kernel
theorem dX9_town_204 : decode cX9_town 204 = .ok (.aload_n 0, 1) := by decide +kernel
theorem dX9_town_205 : decode cX9_town 205 = .ok (.getfield 32, 3) := by decide +kernel
theorem dX9_town_208 : decode cX9_town 208 = .ok (.bipush 10, 2) := by decide +kernel
theorem dX9_town_210 : decode cX9_town 210 = .ok (.iload_n 1, 1) := by decide +kernel
theorem dX9_town_211 : decode cX9_town 211 = .ok (.iadd, 1) := by decide +kernel
theorem dX9_town_212 : decode cX9_town 212 = .ok (.iaload, 1) := by decide +kernel
theorem dX9_town_213 : decode cX9_town 213 = .ok (.iastore, 1) := by decide +kernel
theorem dX9_town_214 : decode cX9_town 214 = .ok (.aload_n 0, 1) := by decide +kernel
theorem dX9_town_215 : decode cX9_town 215 = .ok (.getfield 35, 3) := by decide +kernel
theorem dX9_town_218 : decode cX9_town 218 = .ok (.iload_n 1, 1) := by decide +kernel
theorem dX9_town_219 : decode cX9_town 219 = .ok (.aload_n 0, 1) := by decide +kernel
theorem dX9_town_220 : decode cX9_town 220 = .ok (.getfield 35, 3) := by decide +kernel
theorem dX9_town_223 : decode cX9_town 223 = .ok (.bipush 10, 2) := by decide +kernel
theorem dX9_town_225 : decode cX9_town 225 = .ok (.iload_n 1, 1) := by decide +kernel
theorem dX9_town_226 : decode cX9_town 226 = .ok (.iadd, 1) := by decide +kernel
theorem dX9_town_227 : decode cX9_town 227 = .ok (.iaload, 1) := by decide +kernel
theorem dX9_town_228 : decode cX9_town 228 = .ok (.iastore, 1) := by decide +kernel
theorem dX9_town_229 : decode cX9_town 229 = .ok (.aload_n 0, 1) := by decide +kernel
theorem dX9_town_230 : decode cX9_town 230 = .ok (.getfield 7, 3) := by decide +kernel
theorem dX9_town_233 : decode cX9_town 233 = .ok (.iload_n 1, 1) := by decide +kernel
theorem dX9_town_234 : decode cX9_town 234 = .ok (.aload_n 0, 1) := by decide +kernel
theorem dX9_town_235 : decode cX9_town 235 = .ok (.getfield 23, 3) := by decide +kernel
theorem dX9_town_238 : decode cX9_town 238 = .ok (.bipush 10, 2) := by decide +kernel
theorem dX9_town_240 : decode cX9_town 240 = .ok (.iload_n 1, 1) := by decide +kernel
theorem dX9_town_241 : decode cX9_town 241 = .ok (.iadd, 1) := by decide +kernel
theorem dX9_town_242 : decode cX9_town 242 = .ok (.iaload, 1) := by decide +kernel
theorem dX9_town_243 : decode cX9_town 243 = .ok (.iastore, 1) := by decide +kernel
theorem dX9_town_244 : decode cX9_town 244 = .ok (.aload_n 0, 1) := by decide +kernel
theorem dX9_town_245 : decode cX9_town 245 = .ok (.getfield 7, 3) := by decide +kernel
theorem dX9_town_248 : decode cX9_town 248 = .ok (.bipush 10, 2) := by decide +kernel
theorem dX9_town_250 : decode cX9_town 250 = .ok (.iload_n 1, 1) := by decide +kernel
theorem dX9_town_251 : decode cX9_town 251 = .ok (.iadd, 1) := by decide +kernel
theorem dX9_town_252 : decode cX9_town 252 = .ok (.aload_n 0, 1) := by decide +kernel
theorem dX9_town_253 : decode cX9_town 253 = .ok (.getfield 26, 3) := by decide +kernel
theorem dX9_town_256 : decode cX9_town 256 = .ok (.bipush 10, 2) := by decide +kernel
theorem dX9_town_258 : decode cX9_town 258 = .ok (.iload_n 1, 1) := by decide +kernel
theorem dX9_town_259 : decode cX9_town 259 = .ok (.iadd, 1) := by decide +kernel
theorem dX9_town_260 : decode cX9_town 260 = .ok (.iaload, 1) := by decide +kernel
theorem dX9_town_261 : decode cX9_town 261 = .ok (.iastore, 1) := by decide +kernel
theorem dX9_town_262 : decode cX9_town 262 = .ok (.aload_n 0, 1) := by decide +kernel
theorem dX9_town_263 : decode cX9_town 263 = .ok (.getfield 7, 3) := by decide +kernel
theorem dX9_town_266 : decode cX9_town 266 = .ok (.bipush 20, 2) := by decide +kernel
theorem dX9_town_268 : decode cX9_town 268 = .ok (.iload_n 1, 1) := by decide +kernel
theorem dX9_town_269 : decode cX9_town 269 = .ok (.iadd, 1) := by decide +kernel
theorem dX9_town_270 : decode cX9_town 270 = .ok (.iconst 0, 1) := by decide +kernel
theorem dX9_town_271 : decode cX9_town 271 = .ok (.iastore, 1) := by decide +kernel
theorem dX9_town_272 : decode cX9_town 272 = .ok (.iinc 1 1, 3) := by decide +kernel
theorem dX9_town_275 : decode cX9_town 275 = .ok (.goto (-127), 3) := by decide +kernel
theorem dX9_town_278 : decode cX9_town 278 = .ok (.iconst 0, 1) := by decide +kernel
theorem dX9_town_279 : decode cX9_town 279 = .ok (.istore_n 1, 1) := by decide +kernel
theorem dX9_town_280 : decode cX9_town 280 = .ok (.iload_n 1, 1) := by decide +kernel
theorem dX9_town_281 : decode cX9_town 281 = .ok (.bipush 8, 2) := by decide +kernel
theorem dX9_town_283 : decode cX9_town 283 = .ok (.if_icmp .ge 54, 3) := by decide +kernel
theorem dX9_town_286 : decode cX9_town 286 = .ok (.aload_n 0, 1) := by decide +kernel
theorem dX9_town_287 : decode cX9_town 287 = .ok (.getfield 38, 3) := by decide +kernel
theorem dX9_town_290 : decode cX9_town 290 = .ok (.iload_n 1, 1) := by decide +kernel
theorem dX9_town_291 : decode cX9_town 291 = .ok (.aload_n 0, 1) := by decide +kernel
theorem dX9_town_292 : decode cX9_town 292 = .ok (.getfield 38, 3) := by decide +kernel
theorem dX9_town_295 : decode cX9_town 295 = .ok (.bipush 8, 2) := by decide +kernel
theorem dX9_town_297 : decode cX9_town 297 = .ok (.iload_n 1, 1) := by decide +kernel
theorem dX9_town_298 : decode cX9_town 298 = .ok (.iadd, 1) := by decide +kernel
theorem dX9_town_299 : decode cX9_town 299 = .ok (.iaload, 1) := by decide +kernel
theorem dX9_town_300 : decode cX9_town 300 = .ok (.iastore, 1) := by decide +kernel
theorem dX9_town_301 : decode cX9_town 301 = .ok (.aload_n 0, 1) := by decide +kernel
theorem dX9_town_302 : decode cX9_town 302 = .ok (.getfield 41, 3) := by decide +kernel
theorem dX9_town_305 : decode cX9_town 305 = .ok (.iload_n 1, 1) := by decide +kernel
theorem dX9_town_306 : decode cX9_town 306 = .ok (.aload_n 0, 1) := by decide +kernel
theorem dX9_town_307 : decode cX9_town 307 = .ok (.getfield 41, 3) := by decide +kernel
theorem dX9_town_310 : decode cX9_town 310 = .ok (.bipush 8, 2) := by decide +kernel
theorem dX9_town_312 : decode cX9_town 312 = .ok (.iload_n 1, 1) := by decide +kernel
theorem dX9_town_313 : decode cX9_town 313 = .ok (.iadd, 1) := by decide +kernel
theorem dX9_town_314 : decode cX9_town 314 = .ok (.iaload, 1) := by decide +kernel
theorem dX9_town_315 : decode cX9_town 315 = .ok (.iastore, 1) := by decide +kernel
theorem dX9_town_316 : decode cX9_town 316 = .ok (.aload_n 0, 1) := by decide +kernel
theorem dX9_town_317 : decode cX9_town 317 = .ok (.getfield 44, 3) := by decide +kernel
theorem dX9_town_320 : decode cX9_town 320 = .ok (.iload_n 1, 1) := by decide +kernel
theorem dX9_town_321 : decode cX9_town 321 = .ok (.aload_n 0, 1) := by decide +kernel
theorem dX9_town_322 : decode cX9_town 322 = .ok (.getfield 44, 3) := by decide +kernel
theorem dX9_town_325 : decode cX9_town 325 = .ok (.bipush 8, 2) := by decide +kernel
theorem dX9_town_327 : decode cX9_town 327 = .ok (.iload_n 1, 1) := by decide +kernel
theorem dX9_town_328 : decode cX9_town 328 = .ok (.iadd, 1) := by decide +kernel
theorem dX9_town_329 : decode cX9_town 329 = .ok (.iaload, 1) := by decide +kernel
theorem dX9_town_330 : decode cX9_town 330 = .ok (.iastore, 1) := by decide +kernel
theorem dX9_town_331 : decode cX9_town 331 = .ok (.iinc 1 1, 3) := by decide +kernel
theorem dX9_town_334 : decode cX9_town 334 = .ok (.goto (-54), 3) := by decide +kernel
theorem dX9_town_337 : decode cX9_town 337 = .ok (.aload_n 0, 1) := by decide +kernel
theorem dX9_town_338 : decode cX9_town 338 = .ok (.getfield 7, 3) := by decide +kernel
theorem dX9_town_341 : decode cX9_town 341 = .ok (.bipush 30, 2) := by decide +kernel
theorem dX9_town_343 : decode cX9_town 343 = .ok (.iconst 0, 1) := by decide +kernel
theorem dX9_town_344 : decode cX9_town 344 = .ok (.iastore, 1) := by decide +kernel
theorem dX9_town_345 : decode cX9_town 345 = .ok (.aload_n 0, 1) := by decide +kernel
theorem dX9_town_346 : decode cX9_town 346 = .ok (.getfield 7, 3) := by decide +kernel
theorem dX9_town_349 : decode cX9_town 349 = .ok (.bipush 32, 2) := by decide +kernel
theorem dX9_town_351 : decode cX9_town 351 = .ok (.iconst 0, 1) := by decide +kernel
theorem dX9_town_352 : decode cX9_town 352 = .ok (.iastore, 1) := by decide +kernel
theorem dX9_town_353 : decode cX9_town 353 = .ok (.aload_n 0, 1) := by decide +kernel
theorem dX9_town_354 : decode cX9_town 354 = .ok (.iconst 0, 1) := by decide +kernel
theorem dX9_town_355 : decode cX9_town 355 = .ok (.putfield 156, 3) := by decide +kernel
theorem dX9_town_358 : decode cX9_town 358 = .ok (.aload_n 0, 1) := by decide +kernel
theorem dX9_town_359 : decode cX9_town 359 = .ok (.iconst 0, 1) := by decide +kernel
theorem dX9_town_360 : decode cX9_town 360 = .ok (.putfield 159, 3) := by decide +kernel
theorem dX9_town_363 : decode cX9_town 363 = .ok (.aload_n 0, 1) := by decide +kernel
theorem dX9_town_364 : decode cX9_town 364 = .ok (.getfield 13, 3) := by decide +kernel
theorem dX9_town_367 : decode cX9_town 367 = .ok (.iconst 0, 1) := by decide +kernel
theorem dX9_town_368 : decode cX9_town 368 = .ok (.iconst 0, 1) := by decide +kernel
theorem dX9_town_369 : decode cX9_town 369 = .ok (.bastore, 1) := by decide +kernel
theorem dX9_town_370 : decode cX9_town 370 = .ok (.aload_n 0, 1) := by decide +kernel
theorem dX9_town_371 : decode cX9_town 371 = .ok (.getfield 13, 3) := by decide +kernel
theorem dX9_town_374 : decode cX9_town 374 = .ok (.iconst 1, 1) := by decide +kernel
theorem dX9_town_375 : decode cX9_town 375 = .ok (.iconst 0, 1) := by decide +kernel
theorem dX9_town_376 : decode cX9_town 376 = .ok (.bastore, 1) := by decide +kernel
theorem dX9_town_377 : decode cX9_town 377 = .ok (.aload_n 0, 1) := by decide +kernel
theorem dX9_town_378 : decode cX9_town 378 = .ok (.invokevirtual 162, 3) := by decide +kernel
theorem dX9_town_381 : decode cX9_town 381 = .ok (.aload_n 0, 1) := by decide +kernel
theorem dX9_town_382 : decode cX9_town 382 = .ok (.getfield 47, 3) := by decide +kernel
theorem dX9_town_385 : decode cX9_town 385 = .ok (.iconst 0, 1) := by decide +kernel
theorem dX9_town_386 : decode cX9_town 386 = .ok (.iaload, 1) := by decide +kernel
theorem dX9_town_387 : decode cX9_town 387 = .ok (.ireturn, 1) := by decide +kernel
theorem dX9_fault_0 : decode cX9_fault 0 = .ok (.aload_n 0, 1) := by decide +kernel
theorem dX9_fault_1 : decode cX9_fault 1 = .ok (.getfield 53, 3) := by decide +kernel
theorem dX9_fault_4 : decode cX9_fault 4 = .ok (.ireturn, 1) := by decide +kernel
theorem dX9_findLooks_0 : decode cX9_findLooks 0 = .ok (.aload_n 0, 1) := by decide +kernel
theorem dX9_findLooks_1 : decode cX9_findLooks 1 = .ok (.iconst 0, 1) := by decide +kernel
theorem dX9_findLooks_2 : decode cX9_findLooks 2 = .ok (.putfield 165, 3) := by decide +kernel
theorem dX9_findLooks_5 : decode cX9_findLooks 5 = .ok (.iconst 0, 1) := by decide +kernel
theorem dX9_findLooks_6 : decode cX9_findLooks 6 = .ok (.istore_n 1, 1) := by decide +kernel
theorem dX9_findLooks_7 : decode cX9_findLooks 7 = .ok (.iload_n 1, 1) := by decide +kernel
theorem dX9_findLooks_8 : decode cX9_findLooks 8 = .ok (.aload_n 0, 1) := by decide +kernel
theorem dX9_findLooks_9 : decode cX9_findLooks 9 = .ok (.getfield 47, 3) := by decide +kernel
theorem dX9_findLooks_12 : decode cX9_findLooks 12 = .ok (.iconst 0, 1) := by decide +kernel
theorem dX9_findLooks_13 : decode cX9_findLooks 13 = .ok (.iaload, 1) := by decide +kernel
theorem dX9_findLooks_14 : decode cX9_findLooks 14 = .ok (.if_icmp .ge 155, 3) := by decide +kernel
theorem dX9_findLooks_17 : decode cX9_findLooks 17 = .ok (.iconst 0, 1) := by decide +kernel
theorem dX9_findLooks_18 : decode cX9_findLooks 18 = .ok (.istore_n 2, 1) := by decide +kernel
theorem dX9_findLooks_19 : decode cX9_findLooks 19 = .ok (.iload_n 2, 1) := by decide +kernel
theorem dX9_findLooks_20 : decode cX9_findLooks 20 = .ok (.aload_n 0, 1) := by decide +kernel
theorem dX9_findLooks_21 : decode cX9_findLooks 21 = .ok (.getfield 47, 3) := by decide +kernel
theorem dX9_findLooks_24 : decode cX9_findLooks 24 = .ok (.iconst 0, 1) := by decide +kernel
theorem dX9_findLooks_25 : decode cX9_findLooks 25 = .ok (.iaload, 1) := by decide +kernel
theorem dX9_findLooks_26 : decode cX9_findLooks 26 = .ok (.if_icmp .ge 137, 3) := by decide +kernel
theorem dX9_findLooks_29 : decode cX9_findLooks 29 = .ok (.iconst 0, 1) := by decide +kernel
theorem dX9_findLooks_30 : decode cX9_findLooks 30 = .ok (.istore_n 3, 1) := by decide +kernel
theorem dX9_findLooks_31 : decode cX9_findLooks 31 = .ok (.iload_n 3, 1) := by decide +kernel
theorem dX9_findLooks_32 : decode cX9_findLooks 32 = .ok (.aload_n 0, 1) := by decide +kernel
theorem dX9_findLooks_33 : decode cX9_findLooks 33 = .ok (.getfield 47, 3) := by decide +kernel
theorem dX9_findLooks_36 : decode cX9_findLooks 36 = .ok (.iconst 0, 1) := by decide +kernel
theorem dX9_findLooks_37 : decode cX9_findLooks 37 = .ok (.iaload, 1) := by decide +kernel
theorem dX9_findLooks_38 : decode cX9_findLooks 38 = .ok (.if_icmp .ge 119, 3) := by decide +kernel
theorem dX9_findLooks_41 : decode cX9_findLooks 41 = .ok (.aload_n 0, 1) := by decide +kernel
theorem dX9_findLooks_42 : decode cX9_findLooks 42 = .ok (.getfield 17, 3) := by decide +kernel
theorem dX9_findLooks_45 : decode cX9_findLooks 45 = .ok (.iload_n 1, 1) := by decide +kernel
theorem dX9_findLooks_46 : decode cX9_findLooks 46 = .ok (.iaload, 1) := by decide +kernel
theorem dX9_findLooks_47 : decode cX9_findLooks 47 = .ok (.ifCond .ne 27, 3) := by decide +kernel
theorem dX9_findLooks_50 : decode cX9_findLooks 50 = .ok (.aload_n 0, 1) := by decide +kernel
theorem dX9_findLooks_51 : decode cX9_findLooks 51 = .ok (.getfield 17, 3) := by decide +kernel
theorem dX9_findLooks_54 : decode cX9_findLooks 54 = .ok (.iload_n 2, 1) := by decide +kernel
theorem dX9_findLooks_55 : decode cX9_findLooks 55 = .ok (.iaload, 1) := by decide +kernel
theorem dX9_findLooks_56 : decode cX9_findLooks 56 = .ok (.iconst 1, 1) := by decide +kernel
theorem dX9_findLooks_57 : decode cX9_findLooks 57 = .ok (.if_icmp .ne 17, 3) := by decide +kernel
theorem dX9_findLooks_60 : decode cX9_findLooks 60 = .ok (.aload_n 0, 1) := by decide +kernel
theorem dX9_findLooks_61 : decode cX9_findLooks 61 = .ok (.getfield 17, 3) := by decide +kernel
theorem dX9_findLooks_64 : decode cX9_findLooks 64 = .ok (.iload_n 3, 1) := by decide +kernel
theorem dX9_findLooks_65 : decode cX9_findLooks 65 = .ok (.iaload, 1) := by decide +kernel
theorem dX9_findLooks_66 : decode cX9_findLooks 66 = .ok (.iconst 2, 1) := by decide +kernel
theorem dX9_findLooks_67 : decode cX9_findLooks 67 = .ok (.if_icmp .ne 7, 3) := by decide +kernel
theorem dX9_findLooks_70 : decode cX9_findLooks 70 = .ok (.iconst 1, 1) := by decide +kernel
theorem dX9_findLooks_71 : decode cX9_findLooks 71 = .ok (.goto 4, 3) := by decide +kernel
theorem dX9_findLooks_74 : decode cX9_findLooks 74 = .ok (.iconst 0, 1) := by decide +kernel
theorem dX9_findLooks_75 : decode cX9_findLooks 75 = .ok (.istore 4, 2) := by decide +kernel
theorem dX9_findLooks_77 : decode cX9_findLooks 77 = .ok (.iload 4, 2) := by decide +kernel
theorem dX9_findLooks_79 : decode cX9_findLooks 79 = .ok (.ifCond .eq 72, 3) := by decide +kernel
theorem dX9_findLooks_82 : decode cX9_findLooks 82 = .ok (.aload_n 0, 1) := by decide +kernel
theorem dX9_findLooks_83 : decode cX9_findLooks 83 = .ok (.getfield 35, 3) := by decide +kernel
theorem dX9_findLooks_86 : decode cX9_findLooks 86 = .ok (.iload_n 1, 1) := by decide +kernel
theorem dX9_findLooks_87 : decode cX9_findLooks 87 = .ok (.iaload, 1) := by decide +kernel
theorem dX9_findLooks_88 : decode cX9_findLooks 88 = .ok (.iload_n 2, 1) := by decide +kernel
theorem dX9_findLooks_89 : decode cX9_findLooks 89 = .ok (.invokestatic 140, 3) := by decide +kernel
theorem dX9_findLooks_92 : decode cX9_findLooks 92 = .ok (.ifCond .ne 59, 3) := by decide +kernel
theorem dX9_findLooks_95 : decode cX9_findLooks 95 = .ok (.aload_n 0, 1) := by decide +kernel
theorem dX9_findLooks_96 : decode cX9_findLooks 96 = .ok (.getfield 35, 3) := by decide +kernel
theorem dX9_findLooks_99 : decode cX9_findLooks 99 = .ok (.iload_n 1, 1) := by decide +kernel
theorem dX9_findLooks_100 : decode cX9_findLooks 100 = .ok (.iaload, 1) := by decide +kernel
theorem dX9_findLooks_101 : decode cX9_findLooks 101 = .ok (.iload_n 3, 1) := by decide +kernel
theorem dX9_findLooks_102 : decode cX9_findLooks 102 = .ok (.invokestatic 140, 3) := by decide +kernel
theorem dX9_findLooks_105 : decode cX9_findLooks 105 = .ok (.ifCond .ne 46, 3) := by decide +kernel
theorem dX9_findLooks_108 : decode cX9_findLooks 108 = .ok (.aload_n 0, 1) := by decide +kernel
theorem dX9_findLooks_109 : decode cX9_findLooks 109 = .ok (.getfield 35, 3) := by decide +kernel
theorem dX9_findLooks_112 : decode cX9_findLooks 112 = .ok (.iload_n 2, 1) := by decide +kernel
theorem dX9_findLooks_113 : decode cX9_findLooks 113 = .ok (.iaload, 1) := by decide +kernel
theorem dX9_findLooks_114 : decode cX9_findLooks 114 = .ok (.iload_n 3, 1) := by decide +kernel
theorem dX9_findLooks_115 : decode cX9_findLooks 115 = .ok (.invokestatic 140, 3) := by decide +kernel
theorem dX9_findLooks_118 : decode cX9_findLooks 118 = .ok (.ifCond .ne 33, 3) := by decide +kernel
theorem dX9_findLooks_121 : decode cX9_findLooks 121 = .ok (.aload_n 0, 1) := by decide +kernel
theorem dX9_findLooks_122 : decode cX9_findLooks 122 = .ok (.getfield 57, 3) := by decide +kernel
theorem dX9_findLooks_125 : decode cX9_findLooks 125 = .ok (.aload_n 0, 1) := by decide +kernel
theorem dX9_findLooks_126 : decode cX9_findLooks 126 = .ok (.getfield 165, 3) := by decide +kernel
theorem dX9_findLooks_129 : decode cX9_findLooks 129 = .ok (.iconst 1, 1) := by decide +kernel
theorem dX9_findLooks_130 : decode cX9_findLooks 130 = .ok (.iload_n 1, 1) := by decide +kernel
theorem dX9_findLooks_131 : decode cX9_findLooks 131 = .ok (.ishl, 1) := by decide +kernel
theorem dX9_findLooks_132 : decode cX9_findLooks 132 = .ok (.iconst 1, 1) := by decide +kernel
theorem dX9_findLooks_133 : decode cX9_findLooks 133 = .ok (.iload_n 2, 1) := by decide +kernel
theorem dX9_findLooks_134 : decode cX9_findLooks 134 = .ok (.ishl, 1) := by decide +kernel
theorem dX9_findLooks_135 : decode cX9_findLooks 135 = .ok (.ior, 1) := by decide +kernel
theorem dX9_findLooks_136 : decode cX9_findLooks 136 = .ok (.iconst 1, 1) := by decide +kernel
theorem dX9_findLooks_137 : decode cX9_findLooks 137 = .ok (.iload_n 3, 1) := by decide +kernel
theorem dX9_findLooks_138 : decode cX9_findLooks 138 = .ok (.ishl, 1) := by decide +kernel
theorem dX9_findLooks_139 : decode cX9_findLooks 139 = .ok (.ior, 1) := by decide +kernel
theorem dX9_findLooks_140 : decode cX9_findLooks 140 = .ok (.iastore, 1) := by decide +kernel
theorem dX9_findLooks_141 : decode cX9_findLooks 141 = .ok (.aload_n 0, 1) := by decide +kernel
theorem dX9_findLooks_142 : decode cX9_findLooks 142 = .ok (.dup, 1) := by decide +kernel
theorem dX9_findLooks_143 : decode cX9_findLooks 143 = .ok (.getfield 165, 3) := by decide +kernel
theorem dX9_findLooks_146 : decode cX9_findLooks 146 = .ok (.iconst 1, 1) := by decide +kernel
theorem dX9_findLooks_147 : decode cX9_findLooks 147 = .ok (.iadd, 1) := by decide +kernel
theorem dX9_findLooks_148 : decode cX9_findLooks 148 = .ok (.putfield 165, 3) := by decide +kernel
theorem dX9_findLooks_151 : decode cX9_findLooks 151 = .ok (.iinc 3 1, 3) := by decide +kernel
theorem dX9_findLooks_154 : decode cX9_findLooks 154 = .ok (.goto (-123), 3) := by decide +kernel
theorem dX9_findLooks_157 : decode cX9_findLooks 157 = .ok (.iinc 2 1, 3) := by decide +kernel
theorem dX9_findLooks_160 : decode cX9_findLooks 160 = .ok (.goto (-141), 3) := by decide +kernel
theorem dX9_findLooks_163 : decode cX9_findLooks 163 = .ok (.iinc 1 1, 3) := by decide +kernel
theorem dX9_findLooks_166 : decode cX9_findLooks 166 = .ok (.goto (-159), 3) := by decide +kernel
theorem dX9_findLooks_169 : decode cX9_findLooks 169 = .ok (.return_, 1) := by decide +kernel
theorem dX9_isPart_0 : decode cX9_isPart 0 = .ok (.iload_n 1, 1) := by decide +kernel
theorem dX9_isPart_1 : decode cX9_isPart 1 = .ok (.i2l, 1) := by decide +kernel
theorem dX9_isPart_2 : decode cX9_isPart 2 = .ok (.lconst 0, 1) := by decide +kernel
theorem dX9_isPart_3 : decode cX9_isPart 3 = .ok (.aload_n 0, 1) := by decide +kernel
theorem dX9_isPart_4 : decode cX9_isPart 4 = .ok (.getfield 47, 3) := by decide +kernel
theorem dX9_isPart_7 : decode cX9_isPart 7 = .ok (.iconst 0, 1) := by decide +kernel
theorem dX9_isPart_8 : decode cX9_isPart 8 = .ok (.iaload, 1) := by decide +kernel
theorem dX9_isPart_9 : decode cX9_isPart 9 = .ok (.iconst 1, 1) := by decide +kernel
theorem dX9_isPart_10 : decode cX9_isPart 10 = .ok (.isub, 1) := by decide +kernel
theorem dX9_isPart_11 : decode cX9_isPart 11 = .ok (.i2l, 1) := by decide +kernel
theorem dX9_isPart_12 : decode cX9_isPart 12 = .ok (.invokestatic 89, 3) := by decide +kernel
theorem dX9_isPart_15 : decode cX9_isPart 15 = .ok (.ireturn, 1) := by decide +kernel
theorem dX9_isScene_0 : decode cX9_isScene 0 = .ok (.iload_n 1, 1) := by decide +kernel
theorem dX9_isScene_1 : decode cX9_isScene 1 = .ok (.i2l, 1) := by decide +kernel
theorem dX9_isScene_2 : decode cX9_isScene 2 = .ok (.lconst 0, 1) := by decide +kernel
theorem dX9_isScene_3 : decode cX9_isScene 3 = .ok (.aload_n 0, 1) := by decide +kernel
theorem dX9_isScene_4 : decode cX9_isScene 4 = .ok (.getfield 47, 3) := by decide +kernel
theorem dX9_isScene_7 : decode cX9_isScene 7 = .ok (.iconst 1, 1) := by decide +kernel
theorem dX9_isScene_8 : decode cX9_isScene 8 = .ok (.iaload, 1) := by decide +kernel
theorem dX9_isScene_9 : decode cX9_isScene 9 = .ok (.iconst 1, 1) := by decide +kernel
theorem dX9_isScene_10 : decode cX9_isScene 10 = .ok (.isub, 1) := by decide +kernel
theorem dX9_isScene_11 : decode cX9_isScene 11 = .ok (.i2l, 1) := by decide +kernel
theorem dX9_isScene_12 : decode cX9_isScene 12 = .ok (.invokestatic 89, 3) := by decide +kernel
theorem dX9_isScene_15 : decode cX9_isScene 15 = .ok (.ireturn, 1) := by decide +kernel
theorem dX9_sumOf_0 : decode cX9_sumOf 0 = .ok (.iconst 0, 1) := by decide +kernel
theorem dX9_sumOf_1 : decode cX9_sumOf 1 = .ok (.istore_n 3, 1) := by decide +kernel
theorem dX9_sumOf_2 : decode cX9_sumOf 2 = .ok (.iconst 0, 1) := by decide +kernel
theorem dX9_sumOf_3 : decode cX9_sumOf 3 = .ok (.istore 4, 2) := by decide +kernel
theorem dX9_sumOf_5 : decode cX9_sumOf 5 = .ok (.iload 4, 2) := by decide +kernel
theorem dX9_sumOf_7 : decode cX9_sumOf 7 = .ok (.aload_n 0, 1) := by decide +kernel
theorem dX9_sumOf_8 : decode cX9_sumOf 8 = .ok (.getfield 47, 3) := by decide +kernel
theorem dX9_sumOf_11 : decode cX9_sumOf 11 = .ok (.iconst 0, 1) := by decide +kernel
theorem dX9_sumOf_12 : decode cX9_sumOf 12 = .ok (.iaload, 1) := by decide +kernel
theorem dX9_sumOf_13 : decode cX9_sumOf 13 = .ok (.if_icmp .ge 34, 3) := by decide +kernel
theorem dX9_sumOf_16 : decode cX9_sumOf 16 = .ok (.iload_n 3, 1) := by decide +kernel
theorem dX9_sumOf_17 : decode cX9_sumOf 17 = .ok (.iload_n 2, 1) := by decide +kernel
theorem dX9_sumOf_18 : decode cX9_sumOf 18 = .ok (.iload 4, 2) := by decide +kernel
theorem dX9_sumOf_20 : decode cX9_sumOf 20 = .ok (.invokestatic 140, 3) := by decide +kernel
theorem dX9_sumOf_23 : decode cX9_sumOf 23 = .ok (.ifCond .eq 15, 3) := by decide +kernel
theorem dX9_sumOf_26 : decode cX9_sumOf 26 = .ok (.aload_n 0, 1) := by decide +kernel
theorem dX9_sumOf_27 : decode cX9_sumOf 27 = .ok (.getfield 7, 3) := by decide +kernel
theorem dX9_sumOf_30 : decode cX9_sumOf 30 = .ok (.iload_n 1, 1) := by decide +kernel
theorem dX9_sumOf_31 : decode cX9_sumOf 31 = .ok (.iload 4, 2) := by decide +kernel
theorem dX9_sumOf_33 : decode cX9_sumOf 33 = .ok (.iadd, 1) := by decide +kernel
theorem dX9_sumOf_34 : decode cX9_sumOf 34 = .ok (.iaload, 1) := by decide +kernel
theorem dX9_sumOf_35 : decode cX9_sumOf 35 = .ok (.goto 4, 3) := by decide +kernel
theorem dX9_sumOf_38 : decode cX9_sumOf 38 = .ok (.iconst 0, 1) := by decide +kernel
theorem dX9_sumOf_39 : decode cX9_sumOf 39 = .ok (.iadd, 1) := by decide +kernel
theorem dX9_sumOf_40 : decode cX9_sumOf 40 = .ok (.istore_n 3, 1) := by decide +kernel
theorem dX9_sumOf_41 : decode cX9_sumOf 41 = .ok (.iinc 4 1, 3) := by decide +kernel
theorem dX9_sumOf_44 : decode cX9_sumOf 44 = .ok (.goto (-39), 3) := by decide +kernel
theorem dX9_sumOf_47 : decode cX9_sumOf 47 = .ok (.iload_n 3, 1) := by decide +kernel
theorem dX9_sumOf_48 : decode cX9_sumOf 48 = .ok (.ireturn, 1) := by decide +kernel
theorem dX9_isFree_0 : decode cX9_isFree 0 = .ok (.iconst 1, 1) := by decide +kernel
theorem dX9_isFree_1 : decode cX9_isFree 1 = .ok (.istore_n 3, 1) := by decide +kernel
theorem dX9_isFree_2 : decode cX9_isFree 2 = .ok (.iconst 0, 1) := by decide +kernel
theorem dX9_isFree_3 : decode cX9_isFree 3 = .ok (.istore 4, 2) := by decide +kernel
theorem dX9_isFree_5 : decode cX9_isFree 5 = .ok (.iload 4, 2) := by decide +kernel
theorem dX9_isFree_7 : decode cX9_isFree 7 = .ok (.aload_n 0, 1) := by decide +kernel
theorem dX9_isFree_8 : decode cX9_isFree 8 = .ok (.getfield 47, 3) := by decide +kernel
theorem dX9_isFree_11 : decode cX9_isFree 11 = .ok (.iconst 0, 1) := by decide +kernel
theorem dX9_isFree_12 : decode cX9_isFree 12 = .ok (.iaload, 1) := by decide +kernel
theorem dX9_isFree_13 : decode cX9_isFree 13 = .ok (.if_icmp .ge 64, 3) := by decide +kernel
theorem dX9_isFree_16 : decode cX9_isFree 16 = .ok (.iload_n 3, 1) := by decide +kernel
theorem dX9_isFree_17 : decode cX9_isFree 17 = .ok (.ifCond .eq 52, 3) := by decide +kernel
theorem dX9_isFree_20 : decode cX9_isFree 20 = .ok (.iload_n 1, 1) := by decide +kernel
theorem dX9_isFree_21 : decode cX9_isFree 21 = .ok (.iload 4, 2) := by decide +kernel
theorem dX9_isFree_23 : decode cX9_isFree 23 = .ok (.invokestatic 140, 3) := by decide +kernel
theorem dX9_isFree_26 : decode cX9_isFree 26 = .ok (.ifCond .eq 39, 3) := by decide +kernel
theorem dX9_isFree_29 : decode cX9_isFree 29 = .ok (.iload_n 2, 1) := by decide +kernel
theorem dX9_isFree_30 : decode cX9_isFree 30 = .ok (.i2l, 1) := by decide +kernel
theorem dX9_isFree_31 : decode cX9_isFree 31 = .ok (.aload_n 0, 1) := by decide +kernel
theorem dX9_isFree_32 : decode cX9_isFree 32 = .ok (.getfield 29, 3) := by decide +kernel
theorem dX9_isFree_35 : decode cX9_isFree 35 = .ok (.iload 4, 2) := by decide +kernel
theorem dX9_isFree_37 : decode cX9_isFree 37 = .ok (.iaload, 1) := by decide +kernel
theorem dX9_isFree_38 : decode cX9_isFree 38 = .ok (.i2l, 1) := by decide +kernel
theorem dX9_isFree_39 : decode cX9_isFree 39 = .ok (.aload_n 0, 1) := by decide +kernel
theorem dX9_isFree_40 : decode cX9_isFree 40 = .ok (.getfield 32, 3) := by decide +kernel
theorem dX9_isFree_43 : decode cX9_isFree 43 = .ok (.iload 4, 2) := by decide +kernel
theorem dX9_isFree_45 : decode cX9_isFree 45 = .ok (.iaload, 1) := by decide +kernel
theorem dX9_isFree_46 : decode cX9_isFree 46 = .ok (.i2l, 1) := by decide +kernel
theorem dX9_isFree_47 : decode cX9_isFree 47 = .ok (.invokestatic 89, 3) := by decide +kernel
theorem dX9_isFree_50 : decode cX9_isFree 50 = .ok (.ifCond .eq 19, 3) := by decide +kernel
theorem dX9_isFree_53 : decode cX9_isFree 53 = .ok (.aload_n 0, 1) := by decide +kernel
theorem dX9_isFree_54 : decode cX9_isFree 54 = .ok (.getfield 168, 3) := by decide +kernel
theorem dX9_isFree_57 : decode cX9_isFree 57 = .ok (.iload 4, 2) := by decide +kernel
theorem dX9_isFree_59 : decode cX9_isFree 59 = .ok (.invokestatic 140, 3) := by decide +kernel
theorem dX9_isFree_62 : decode cX9_isFree 62 = .ok (.ifCond .ne 7, 3) := by decide +kernel
theorem dX9_isFree_65 : decode cX9_isFree 65 = .ok (.iconst 1, 1) := by decide +kernel
theorem dX9_isFree_66 : decode cX9_isFree 66 = .ok (.goto 4, 3) := by decide +kernel
theorem dX9_isFree_69 : decode cX9_isFree 69 = .ok (.iconst 0, 1) := by decide +kernel
theorem dX9_isFree_70 : decode cX9_isFree 70 = .ok (.istore_n 3, 1) := by decide +kernel
theorem dX9_isFree_71 : decode cX9_isFree 71 = .ok (.iinc 4 1, 3) := by decide +kernel
theorem dX9_isFree_74 : decode cX9_isFree 74 = .ok (.goto (-69), 3) := by decide +kernel
theorem dX9_isFree_77 : decode cX9_isFree 77 = .ok (.iload_n 3, 1) := by decide +kernel
theorem dX9_isFree_78 : decode cX9_isFree 78 = .ok (.ireturn, 1) := by decide +kernel
theorem dX9_widthsIn_0 : decode cX9_widthsIn 0 = .ok (.iconst 0, 1) := by decide +kernel
theorem dX9_widthsIn_1 : decode cX9_widthsIn 1 = .ok (.istore_n 2, 1) := by decide +kernel
theorem dX9_widthsIn_2 : decode cX9_widthsIn 2 = .ok (.iconst 0, 1) := by decide +kernel
theorem dX9_widthsIn_3 : decode cX9_widthsIn 3 = .ok (.istore_n 3, 1) := by decide +kernel
theorem dX9_widthsIn_4 : decode cX9_widthsIn 4 = .ok (.iload_n 3, 1) := by decide +kernel
theorem dX9_widthsIn_5 : decode cX9_widthsIn 5 = .ok (.aload_n 0, 1) := by decide +kernel
theorem dX9_widthsIn_6 : decode cX9_widthsIn 6 = .ok (.getfield 165, 3) := by decide +kernel
theorem dX9_widthsIn_9 : decode cX9_widthsIn 9 = .ok (.if_icmp .ge 25, 3) := by decide +kernel
theorem dX9_widthsIn_12 : decode cX9_widthsIn 12 = .ok (.iload_n 2, 1) := by decide +kernel
theorem dX9_widthsIn_13 : decode cX9_widthsIn 13 = .ok (.iconst 1, 1) := by decide +kernel
theorem dX9_widthsIn_14 : decode cX9_widthsIn 14 = .ok (.aload_n 0, 1) := by decide +kernel
theorem dX9_widthsIn_15 : decode cX9_widthsIn 15 = .ok (.iload_n 1, 1) := by decide +kernel
theorem dX9_widthsIn_16 : decode cX9_widthsIn 16 = .ok (.aload_n 0, 1) := by decide +kernel
theorem dX9_widthsIn_17 : decode cX9_widthsIn 17 = .ok (.getfield 57, 3) := by decide +kernel
theorem dX9_widthsIn_20 : decode cX9_widthsIn 20 = .ok (.iload_n 3, 1) := by decide +kernel
theorem dX9_widthsIn_21 : decode cX9_widthsIn 21 = .ok (.iaload, 1) := by decide +kernel
theorem dX9_widthsIn_22 : decode cX9_widthsIn 22 = .ok (.invokevirtual 171, 3) := by decide +kernel
theorem dX9_widthsIn_25 : decode cX9_widthsIn 25 = .ok (.ishl, 1) := by decide +kernel
theorem dX9_widthsIn_26 : decode cX9_widthsIn 26 = .ok (.ior, 1) := by decide +kernel
theorem dX9_widthsIn_27 : decode cX9_widthsIn 27 = .ok (.istore_n 2, 1) := by decide +kernel
theorem dX9_widthsIn_28 : decode cX9_widthsIn 28 = .ok (.iinc 3 1, 3) := by decide +kernel
theorem dX9_widthsIn_31 : decode cX9_widthsIn 31 = .ok (.goto (-27), 3) := by decide +kernel
theorem dX9_widthsIn_34 : decode cX9_widthsIn 34 = .ok (.iload_n 2, 1) := by decide +kernel
theorem dX9_widthsIn_35 : decode cX9_widthsIn 35 = .ok (.ireturn, 1) := by decide +kernel
theorem dX9_told_0 : decode cX9_told 0 = .ok (.iload_n 1, 1) := by decide +kernel
theorem dX9_told_1 : decode cX9_told 1 = .ok (.tableswitch 128 0 10 #[59, 66, 73, 78, 83, 91, 99, 107, 112, 117, 122], 59) := by decide +kernel
theorem dX9_told_60 : decode cX9_told 60 = .ok (.aload_n 0, 1) := by decide +kernel
theorem dX9_told_61 : decode cX9_told 61 = .ok (.getfield 47, 3) := by decide +kernel
theorem dX9_told_64 : decode cX9_told 64 = .ok (.iconst 0, 1) := by decide +kernel
theorem dX9_told_65 : decode cX9_told 65 = .ok (.iaload, 1) := by decide +kernel
theorem dX9_told_66 : decode cX9_told 66 = .ok (.ireturn, 1) := by decide +kernel
theorem dX9_told_67 : decode cX9_told 67 = .ok (.aload_n 0, 1) := by decide +kernel
theorem dX9_told_68 : decode cX9_told 68 = .ok (.getfield 47, 3) := by decide +kernel
theorem dX9_told_71 : decode cX9_told 71 = .ok (.iconst 1, 1) := by decide +kernel
theorem dX9_told_72 : decode cX9_told 72 = .ok (.iaload, 1) := by decide +kernel
theorem dX9_told_73 : decode cX9_told 73 = .ok (.ireturn, 1) := by decide +kernel
theorem dX9_told_74 : decode cX9_told 74 = .ok (.aload_n 0, 1) := by decide +kernel
theorem dX9_told_75 : decode cX9_told 75 = .ok (.invokevirtual 174, 3) := by decide +kernel
theorem dX9_told_78 : decode cX9_told 78 = .ok (.ireturn, 1) := by decide +kernel
theorem dX9_told_79 : decode cX9_told 79 = .ok (.aload_n 0, 1) := by decide +kernel
theorem dX9_told_80 : decode cX9_told 80 = .ok (.getfield 94, 3) := by decide +kernel
theorem dX9_told_83 : decode cX9_told 83 = .ok (.ireturn, 1) := by decide +kernel
theorem dX9_told_84 : decode cX9_told 84 = .ok (.aload_n 0, 1) := by decide +kernel
theorem dX9_told_85 : decode cX9_told 85 = .ok (.getfield 7, 3) := by decide +kernel
theorem dX9_told_88 : decode cX9_told 88 = .ok (.bipush 31, 2) := by decide +kernel
theorem dX9_told_90 : decode cX9_told 90 = .ok (.iaload, 1) := by decide +kernel
theorem dX9_told_91 : decode cX9_told 91 = .ok (.ireturn, 1) := by decide +kernel
theorem dX9_told_92 : decode cX9_told 92 = .ok (.aload_n 0, 1) := by decide +kernel
theorem dX9_told_93 : decode cX9_told 93 = .ok (.getfield 7, 3) := by decide +kernel
theorem dX9_told_96 : decode cX9_told 96 = .ok (.bipush 30, 2) := by decide +kernel
theorem dX9_told_98 : decode cX9_told 98 = .ok (.iaload, 1) := by decide +kernel
theorem dX9_told_99 : decode cX9_told 99 = .ok (.ireturn, 1) := by decide +kernel
theorem dX9_told_100 : decode cX9_told 100 = .ok (.aload_n 0, 1) := by decide +kernel
theorem dX9_told_101 : decode cX9_told 101 = .ok (.getfield 7, 3) := by decide +kernel
theorem dX9_told_104 : decode cX9_told 104 = .ok (.bipush 32, 2) := by decide +kernel
theorem dX9_told_106 : decode cX9_told 106 = .ok (.iaload, 1) := by decide +kernel
theorem dX9_told_107 : decode cX9_told 107 = .ok (.ireturn, 1) := by decide +kernel
theorem dX9_told_108 : decode cX9_told 108 = .ok (.aload_n 0, 1) := by decide +kernel
theorem dX9_told_109 : decode cX9_told 109 = .ok (.getfield 156, 3) := by decide +kernel
theorem dX9_told_112 : decode cX9_told 112 = .ok (.ireturn, 1) := by decide +kernel
theorem dX9_told_113 : decode cX9_told 113 = .ok (.aload_n 0, 1) := by decide +kernel
theorem dX9_told_114 : decode cX9_told 114 = .ok (.getfield 159, 3) := by decide +kernel
theorem dX9_told_117 : decode cX9_told 117 = .ok (.ireturn, 1) := by decide +kernel
theorem dX9_told_118 : decode cX9_told 118 = .ok (.aload_n 0, 1) := by decide +kernel
theorem dX9_told_119 : decode cX9_told 119 = .ok (.getfield 165, 3) := by decide +kernel
theorem dX9_told_122 : decode cX9_told 122 = .ok (.ireturn, 1) := by decide +kernel
theorem dX9_told_123 : decode cX9_told 123 = .ok (.aload_n 0, 1) := by decide +kernel
theorem dX9_told_124 : decode cX9_told 124 = .ok (.iconst 0, 1) := by decide +kernel
theorem dX9_told_125 : decode cX9_told 125 = .ok (.invokevirtual 177, 3) := by decide +kernel
theorem dX9_told_128 : decode cX9_told 128 = .ok (.ireturn, 1) := by decide +kernel
theorem dX9_told_129 : decode cX9_told 129 = .ok (.ldc 93, 2) := by decide +kernel
theorem dX9_told_131 : decode cX9_told 131 = .ok (.ireturn, 1) := by decide +kernel
theorem dX9_clashMany_0 : decode cX9_clashMany 0 = .ok (.iconst 0, 1) := by decide +kernel
theorem dX9_clashMany_1 : decode cX9_clashMany 1 = .ok (.istore_n 1, 1) := by decide +kernel
theorem dX9_clashMany_2 : decode cX9_clashMany 2 = .ok (.iconst 0, 1) := by decide +kernel
theorem dX9_clashMany_3 : decode cX9_clashMany 3 = .ok (.istore_n 2, 1) := by decide +kernel
theorem dX9_clashMany_4 : decode cX9_clashMany 4 = .ok (.iload_n 2, 1) := by decide +kernel
theorem dX9_clashMany_5 : decode cX9_clashMany 5 = .ok (.aload_n 0, 1) := by decide +kernel
theorem dX9_clashMany_6 : decode cX9_clashMany 6 = .ok (.getfield 47, 3) := by decide +kernel
theorem dX9_clashMany_9 : decode cX9_clashMany 9 = .ok (.iconst 0, 1) := by decide +kernel
theorem dX9_clashMany_10 : decode cX9_clashMany 10 = .ok (.iaload, 1) := by decide +kernel
theorem dX9_clashMany_11 : decode cX9_clashMany 11 = .ok (.if_icmp .ge 21, 3) := by decide +kernel
theorem dX9_clashMany_14 : decode cX9_clashMany 14 = .ok (.iload_n 1, 1) := by decide +kernel
theorem dX9_clashMany_15 : decode cX9_clashMany 15 = .ok (.aload_n 0, 1) := by decide +kernel
theorem dX9_clashMany_16 : decode cX9_clashMany 16 = .ok (.getfield 35, 3) := by decide +kernel
theorem dX9_clashMany_19 : decode cX9_clashMany 19 = .ok (.iload_n 2, 1) := by decide +kernel
theorem dX9_clashMany_20 : decode cX9_clashMany 20 = .ok (.iaload, 1) := by decide +kernel
theorem dX9_clashMany_21 : decode cX9_clashMany 21 = .ok (.invokestatic 181, 3) := by decide +kernel
theorem dX9_clashMany_24 : decode cX9_clashMany 24 = .ok (.iadd, 1) := by decide +kernel
theorem dX9_clashMany_25 : decode cX9_clashMany 25 = .ok (.istore_n 1, 1) := by decide +kernel
theorem dX9_clashMany_26 : decode cX9_clashMany 26 = .ok (.iinc 2 1, 3) := by decide +kernel
theorem dX9_clashMany_29 : decode cX9_clashMany 29 = .ok (.goto (-25), 3) := by decide +kernel
theorem dX9_clashMany_32 : decode cX9_clashMany 32 = .ok (.iload_n 1, 1) := by decide +kernel
theorem dX9_clashMany_33 : decode cX9_clashMany 33 = .ok (.iconst 2, 1) := by decide +kernel
theorem dX9_clashMany_34 : decode cX9_clashMany 34 = .ok (.idiv, 1) := by decide +kernel
theorem dX9_clashMany_35 : decode cX9_clashMany 35 = .ok (.ireturn, 1) := by decide +kernel
theorem dX9_part_0 : decode cX9_part 0 = .ok (.aload_n 0, 1) := by decide +kernel
theorem dX9_part_1 : decode cX9_part 1 = .ok (.iload_n 1, 1) := by decide +kernel
theorem dX9_part_2 : decode cX9_part 2 = .ok (.invokevirtual 184, 3) := by decide +kernel
theorem dX9_part_5 : decode cX9_part 5 = .ok (.ifCond .ne 6, 3) := by decide +kernel
theorem dX9_part_8 : decode cX9_part 8 = .ok (.ldc 188, 2) := by decide +kernel
theorem dX9_part_10 : decode cX9_part 10 = .ok (.ireturn, 1) := by decide +kernel
theorem dX9_part_11 : decode cX9_part 11 = .ok (.iload_n 2, 1) := by decide +kernel
theorem dX9_part_12 : decode cX9_part 12 = .ok (.tableswitch 110 0 7 #[48, 55, 62, 69, 79, 86, 93, 100], 48) := by decide +kernel
theorem dX9_part_60 : decode cX9_part 60 = .ok (.aload_n 0, 1) := by decide +kernel
theorem dX9_part_61 : decode cX9_part 61 = .ok (.getfield 17, 3) := by decide +kernel
theorem dX9_part_64 : decode cX9_part 64 = .ok (.iload_n 1, 1) := by decide +kernel
theorem dX9_part_65 : decode cX9_part 65 = .ok (.iaload, 1) := by decide +kernel
theorem dX9_part_66 : decode cX9_part 66 = .ok (.ireturn, 1) := by decide +kernel
theorem dX9_part_67 : decode cX9_part 67 = .ok (.aload_n 0, 1) := by decide +kernel
theorem dX9_part_68 : decode cX9_part 68 = .ok (.getfield 20, 3) := by decide +kernel
theorem dX9_part_71 : decode cX9_part 71 = .ok (.iload_n 1, 1) := by decide +kernel
theorem dX9_part_72 : decode cX9_part 72 = .ok (.iaload, 1) := by decide +kernel
theorem dX9_part_73 : decode cX9_part 73 = .ok (.ireturn, 1) := by decide +kernel
theorem dX9_part_74 : decode cX9_part 74 = .ok (.aload_n 0, 1) := by decide +kernel
theorem dX9_part_75 : decode cX9_part 75 = .ok (.getfield 7, 3) := by decide +kernel
theorem dX9_part_78 : decode cX9_part 78 = .ok (.iload_n 1, 1) := by decide +kernel
theorem dX9_part_79 : decode cX9_part 79 = .ok (.iaload, 1) := by decide +kernel
theorem dX9_part_80 : decode cX9_part 80 = .ok (.ireturn, 1) := by decide +kernel
theorem dX9_part_81 : decode cX9_part 81 = .ok (.aload_n 0, 1) := by decide +kernel
theorem dX9_part_82 : decode cX9_part 82 = .ok (.getfield 7, 3) := by decide +kernel
theorem dX9_part_85 : decode cX9_part 85 = .ok (.bipush 10, 2) := by decide +kernel
theorem dX9_part_87 : decode cX9_part 87 = .ok (.iload_n 1, 1) := by decide +kernel
theorem dX9_part_88 : decode cX9_part 88 = .ok (.iadd, 1) := by decide +kernel
theorem dX9_part_89 : decode cX9_part 89 = .ok (.iaload, 1) := by decide +kernel
theorem dX9_part_90 : decode cX9_part 90 = .ok (.ireturn, 1) := by decide +kernel
theorem dX9_part_91 : decode cX9_part 91 = .ok (.aload_n 0, 1) := by decide +kernel
theorem dX9_part_92 : decode cX9_part 92 = .ok (.getfield 29, 3) := by decide +kernel
theorem dX9_part_95 : decode cX9_part 95 = .ok (.iload_n 1, 1) := by decide +kernel
theorem dX9_part_96 : decode cX9_part 96 = .ok (.iaload, 1) := by decide +kernel
theorem dX9_part_97 : decode cX9_part 97 = .ok (.ireturn, 1) := by decide +kernel
theorem dX9_part_98 : decode cX9_part 98 = .ok (.aload_n 0, 1) := by decide +kernel
theorem dX9_part_99 : decode cX9_part 99 = .ok (.getfield 32, 3) := by decide +kernel
theorem dX9_part_102 : decode cX9_part 102 = .ok (.iload_n 1, 1) := by decide +kernel
theorem dX9_part_103 : decode cX9_part 103 = .ok (.iaload, 1) := by decide +kernel
theorem dX9_part_104 : decode cX9_part 104 = .ok (.ireturn, 1) := by decide +kernel
theorem dX9_part_105 : decode cX9_part 105 = .ok (.aload_n 0, 1) := by decide +kernel
theorem dX9_part_106 : decode cX9_part 106 = .ok (.getfield 35, 3) := by decide +kernel
theorem dX9_part_109 : decode cX9_part 109 = .ok (.iload_n 1, 1) := by decide +kernel
theorem dX9_part_110 : decode cX9_part 110 = .ok (.iaload, 1) := by decide +kernel
theorem dX9_part_111 : decode cX9_part 111 = .ok (.ireturn, 1) := by decide +kernel
theorem dX9_part_112 : decode cX9_part 112 = .ok (.aload_n 0, 1) := by decide +kernel
theorem dX9_part_113 : decode cX9_part 113 = .ok (.getfield 7, 3) := by decide +kernel
theorem dX9_part_116 : decode cX9_part 116 = .ok (.bipush 20, 2) := by decide +kernel
theorem dX9_part_118 : decode cX9_part 118 = .ok (.iload_n 1, 1) := by decide +kernel
theorem dX9_part_119 : decode cX9_part 119 = .ok (.iadd, 1) := by decide +kernel
theorem dX9_part_120 : decode cX9_part 120 = .ok (.iaload, 1) := by decide +kernel
theorem dX9_part_121 : decode cX9_part 121 = .ok (.ireturn, 1) := by decide +kernel
theorem dX9_part_122 : decode cX9_part 122 = .ok (.ldc 93, 2) := by decide +kernel
theorem dX9_part_124 : decode cX9_part 124 = .ok (.ireturn, 1) := by decide +kernel
theorem dX9_scene_0 : decode cX9_scene 0 = .ok (.aload_n 0, 1) := by decide +kernel
theorem dX9_scene_1 : decode cX9_scene 1 = .ok (.iload_n 1, 1) := by decide +kernel
theorem dX9_scene_2 : decode cX9_scene 2 = .ok (.invokevirtual 189, 3) := by decide +kernel
theorem dX9_scene_5 : decode cX9_scene 5 = .ok (.ifCond .ne 6, 3) := by decide +kernel
theorem dX9_scene_8 : decode cX9_scene 8 = .ok (.ldc 188, 2) := by decide +kernel
theorem dX9_scene_10 : decode cX9_scene 10 = .ok (.ireturn, 1) := by decide +kernel
theorem dX9_scene_11 : decode cX9_scene 11 = .ok (.iload_n 2, 1) := by decide +kernel
theorem dX9_scene_12 : decode cX9_scene 12 = .ok (.ifCond .ne 12, 3) := by decide +kernel
theorem dX9_scene_15 : decode cX9_scene 15 = .ok (.aload_n 0, 1) := by decide +kernel
theorem dX9_scene_16 : decode cX9_scene 16 = .ok (.getfield 38, 3) := by decide +kernel
theorem dX9_scene_19 : decode cX9_scene 19 = .ok (.iload_n 1, 1) := by decide +kernel
theorem dX9_scene_20 : decode cX9_scene 20 = .ok (.iaload, 1) := by decide +kernel
theorem dX9_scene_21 : decode cX9_scene 21 = .ok (.goto 33, 3) := by decide +kernel
theorem dX9_scene_24 : decode cX9_scene 24 = .ok (.iload_n 2, 1) := by decide +kernel
theorem dX9_scene_25 : decode cX9_scene 25 = .ok (.iconst 1, 1) := by decide +kernel
theorem dX9_scene_26 : decode cX9_scene 26 = .ok (.if_icmp .ne 12, 3) := by decide +kernel
theorem dX9_scene_29 : decode cX9_scene 29 = .ok (.aload_n 0, 1) := by decide +kernel
theorem dX9_scene_30 : decode cX9_scene 30 = .ok (.getfield 41, 3) := by decide +kernel
theorem dX9_scene_33 : decode cX9_scene 33 = .ok (.iload_n 1, 1) := by decide +kernel
theorem dX9_scene_34 : decode cX9_scene 34 = .ok (.iaload, 1) := by decide +kernel
theorem dX9_scene_35 : decode cX9_scene 35 = .ok (.goto 19, 3) := by decide +kernel
theorem dX9_scene_38 : decode cX9_scene 38 = .ok (.iload_n 2, 1) := by decide +kernel
theorem dX9_scene_39 : decode cX9_scene 39 = .ok (.iconst 2, 1) := by decide +kernel
theorem dX9_scene_40 : decode cX9_scene 40 = .ok (.if_icmp .ne 12, 3) := by decide +kernel
theorem dX9_scene_43 : decode cX9_scene 43 = .ok (.aload_n 0, 1) := by decide +kernel
theorem dX9_scene_44 : decode cX9_scene 44 = .ok (.getfield 44, 3) := by decide +kernel
theorem dX9_scene_47 : decode cX9_scene 47 = .ok (.iload_n 1, 1) := by decide +kernel
theorem dX9_scene_48 : decode cX9_scene 48 = .ok (.iaload, 1) := by decide +kernel
theorem dX9_scene_49 : decode cX9_scene 49 = .ok (.goto 5, 3) := by decide +kernel
theorem dX9_scene_52 : decode cX9_scene 52 = .ok (.ldc 93, 2) := by decide +kernel
theorem dX9_scene_54 : decode cX9_scene 54 = .ok (.ireturn, 1) := by decide +kernel
theorem dX9_look_0 : decode cX9_look 0 = .ok (.iload_n 2, 1) := by decide +kernel
theorem dX9_look_1 : decode cX9_look 1 = .ok (.i2l, 1) := by decide +kernel
theorem dX9_look_2 : decode cX9_look 2 = .ok (.lconst 0, 1) := by decide +kernel
theorem dX9_look_3 : decode cX9_look 3 = .ok (.ldc2_w 192, 3) := by decide +kernel
theorem dX9_look_6 : decode cX9_look 6 = .ok (.invokestatic 89, 3) := by decide +kernel
theorem dX9_look_9 : decode cX9_look 9 = .ok (.ifCond .ne 6, 3) := by decide +kernel
theorem dX9_look_12 : decode cX9_look 12 = .ok (.ldc 93, 2) := by decide +kernel
theorem dX9_look_14 : decode cX9_look 14 = .ok (.ireturn, 1) := by decide +kernel
theorem dX9_look_15 : decode cX9_look 15 = .ok (.iload_n 1, 1) := by decide +kernel
theorem dX9_look_16 : decode cX9_look 16 = .ok (.i2l, 1) := by decide +kernel
theorem dX9_look_17 : decode cX9_look 17 = .ok (.lconst 0, 1) := by decide +kernel
theorem dX9_look_18 : decode cX9_look 18 = .ok (.aload_n 0, 1) := by decide +kernel
theorem dX9_look_19 : decode cX9_look 19 = .ok (.getfield 165, 3) := by decide +kernel
theorem dX9_look_22 : decode cX9_look 22 = .ok (.iconst 1, 1) := by decide +kernel
theorem dX9_look_23 : decode cX9_look 23 = .ok (.isub, 1) := by decide +kernel
theorem dX9_look_24 : decode cX9_look 24 = .ok (.i2l, 1) := by decide +kernel
theorem dX9_look_25 : decode cX9_look 25 = .ok (.invokestatic 89, 3) := by decide +kernel
theorem dX9_look_28 : decode cX9_look 28 = .ok (.ifCond .ne 5, 3) := by decide +kernel
theorem dX9_look_31 : decode cX9_look 31 = .ok (.iconst (-1), 1) := by decide +kernel
theorem dX9_look_32 : decode cX9_look 32 = .ok (.ireturn, 1) := by decide +kernel
theorem dX9_look_33 : decode cX9_look 33 = .ok (.iload_n 2, 1) := by decide +kernel
theorem dX9_look_34 : decode cX9_look 34 = .ok (.ifCond .ne 12, 3) := by decide +kernel
theorem dX9_look_37 : decode cX9_look 37 = .ok (.aload_n 0, 1) := by decide +kernel
theorem dX9_look_38 : decode cX9_look 38 = .ok (.getfield 57, 3) := by decide +kernel
theorem dX9_look_41 : decode cX9_look 41 = .ok (.iload_n 1, 1) := by decide +kernel
theorem dX9_look_42 : decode cX9_look 42 = .ok (.iaload, 1) := by decide +kernel
theorem dX9_look_43 : decode cX9_look 43 = .ok (.goto 24, 3) := by decide +kernel
theorem dX9_look_46 : decode cX9_look 46 = .ok (.aload_n 0, 1) := by decide +kernel
theorem dX9_look_47 : decode cX9_look 47 = .ok (.iload_n 2, 1) := by decide +kernel
theorem dX9_look_48 : decode cX9_look 48 = .ok (.iconst 1, 1) := by decide +kernel
theorem dX9_look_49 : decode cX9_look 49 = .ok (.if_icmp .ne 7, 3) := by decide +kernel
theorem dX9_look_52 : decode cX9_look 52 = .ok (.iconst 0, 1) := by decide +kernel
theorem dX9_look_53 : decode cX9_look 53 = .ok (.goto 5, 3) := by decide +kernel
theorem dX9_look_56 : decode cX9_look 56 = .ok (.bipush 10, 2) := by decide +kernel
theorem dX9_look_58 : decode cX9_look 58 = .ok (.aload_n 0, 1) := by decide +kernel
theorem dX9_look_59 : decode cX9_look 59 = .ok (.getfield 57, 3) := by decide +kernel
theorem dX9_look_62 : decode cX9_look 62 = .ok (.iload_n 1, 1) := by decide +kernel
theorem dX9_look_63 : decode cX9_look 63 = .ok (.iaload, 1) := by decide +kernel
theorem dX9_look_64 : decode cX9_look 64 = .ok (.invokevirtual 171, 3) := by decide +kernel
theorem dX9_look_67 : decode cX9_look 67 = .ok (.ireturn, 1) := by decide +kernel
theorem dX9_law_0 : decode cX9_law 0 = .ok (.iload_n 1, 1) := by decide +kernel
theorem dX9_law_1 : decode cX9_law 1 = .ok (.i2l, 1) := by decide +kernel
theorem dX9_law_2 : decode cX9_law 2 = .ok (.lconst 0, 1) := by decide +kernel
theorem dX9_law_3 : decode cX9_law 3 = .ok (.lconst 1, 1) := by decide +kernel
theorem dX9_law_4 : decode cX9_law 4 = .ok (.invokestatic 89, 3) := by decide +kernel
theorem dX9_law_7 : decode cX9_law 7 = .ok (.ifCond .ne 6, 3) := by decide +kernel
theorem dX9_law_10 : decode cX9_law 10 = .ok (.ldc 93, 2) := by decide +kernel
theorem dX9_law_12 : decode cX9_law 12 = .ok (.ireturn, 1) := by decide +kernel
theorem dX9_law_13 : decode cX9_law 13 = .ok (.aload_n 0, 1) := by decide +kernel
theorem dX9_law_14 : decode cX9_law 14 = .ok (.getfield 7, 3) := by decide +kernel
theorem dX9_law_17 : decode cX9_law 17 = .ok (.bipush 31, 2) := by decide +kernel
theorem dX9_law_19 : decode cX9_law 19 = .ok (.iaload, 1) := by decide +kernel
theorem dX9_law_20 : decode cX9_law 20 = .ok (.istore_n 2, 1) := by decide +kernel
theorem dX9_law_21 : decode cX9_law 21 = .ok (.aload_n 0, 1) := by decide +kernel
theorem dX9_law_22 : decode cX9_law 22 = .ok (.getfield 7, 3) := by decide +kernel
theorem dX9_law_25 : decode cX9_law 25 = .ok (.bipush 31, 2) := by decide +kernel
theorem dX9_law_27 : decode cX9_law 27 = .ok (.iload_n 1, 1) := by decide +kernel
theorem dX9_law_28 : decode cX9_law 28 = .ok (.iastore, 1) := by decide +kernel
theorem dX9_law_29 : decode cX9_law 29 = .ok (.iload_n 2, 1) := by decide +kernel
theorem dX9_law_30 : decode cX9_law 30 = .ok (.ireturn, 1) := by decide +kernel
theorem dX9_price_0 : decode cX9_price 0 = .ok (.aload_n 0, 1) := by decide +kernel
theorem dX9_price_1 : decode cX9_price 1 = .ok (.iload_n 1, 1) := by decide +kernel
theorem dX9_price_2 : decode cX9_price 2 = .ok (.invokevirtual 184, 3) := by decide +kernel
theorem dX9_price_5 : decode cX9_price 5 = .ok (.ifCond .ne 6, 3) := by decide +kernel
theorem dX9_price_8 : decode cX9_price 8 = .ok (.ldc 188, 2) := by decide +kernel
theorem dX9_price_10 : decode cX9_price 10 = .ok (.ireturn, 1) := by decide +kernel
theorem dX9_price_11 : decode cX9_price 11 = .ok (.iload_n 2, 1) := by decide +kernel
theorem dX9_price_12 : decode cX9_price 12 = .ok (.i2l, 1) := by decide +kernel
theorem dX9_price_13 : decode cX9_price 13 = .ok (.lconst 0, 1) := by decide +kernel
theorem dX9_price_14 : decode cX9_price 14 = .ok (.ldc2_w 194, 3) := by decide +kernel
theorem dX9_price_17 : decode cX9_price 17 = .ok (.invokestatic 89, 3) := by decide +kernel
theorem dX9_price_20 : decode cX9_price 20 = .ok (.ifCond .ne 6, 3) := by decide +kernel
theorem dX9_price_23 : decode cX9_price 23 = .ok (.ldc 93, 2) := by decide +kernel
theorem dX9_price_25 : decode cX9_price 25 = .ok (.ireturn, 1) := by decide +kernel
theorem dX9_price_26 : decode cX9_price 26 = .ok (.aload_n 0, 1) := by decide +kernel
theorem dX9_price_27 : decode cX9_price 27 = .ok (.getfield 7, 3) := by decide +kernel
theorem dX9_price_30 : decode cX9_price 30 = .ok (.bipush 10, 2) := by decide +kernel
theorem dX9_price_32 : decode cX9_price 32 = .ok (.iload_n 1, 1) := by decide +kernel
theorem dX9_price_33 : decode cX9_price 33 = .ok (.iadd, 1) := by decide +kernel
theorem dX9_price_34 : decode cX9_price 34 = .ok (.iaload, 1) := by decide +kernel
theorem dX9_price_35 : decode cX9_price 35 = .ok (.istore_n 3, 1) := by decide +kernel
theorem dX9_price_36 : decode cX9_price 36 = .ok (.aload_n 0, 1) := by decide +kernel
theorem dX9_price_37 : decode cX9_price 37 = .ok (.getfield 7, 3) := by decide +kernel
theorem dX9_price_40 : decode cX9_price 40 = .ok (.bipush 10, 2) := by decide +kernel
theorem dX9_price_42 : decode cX9_price 42 = .ok (.iload_n 1, 1) := by decide +kernel
theorem dX9_price_43 : decode cX9_price 43 = .ok (.iadd, 1) := by decide +kernel
theorem dX9_price_44 : decode cX9_price 44 = .ok (.iload_n 2, 1) := by decide +kernel
theorem dX9_price_45 : decode cX9_price 45 = .ok (.iastore, 1) := by decide +kernel
theorem dX9_price_46 : decode cX9_price 46 = .ok (.iload_n 3, 1) := by decide +kernel
theorem dX9_price_47 : decode cX9_price 47 = .ok (.ireturn, 1) := by decide +kernel
theorem dX9_width_0 : decode cX9_width 0 = .ok (.aload_n 0, 1) := by decide +kernel
theorem dX9_width_1 : decode cX9_width 1 = .ok (.iload_n 1, 1) := by decide +kernel
theorem dX9_width_2 : decode cX9_width 2 = .ok (.invokevirtual 184, 3) := by decide +kernel
theorem dX9_width_5 : decode cX9_width 5 = .ok (.ifCond .ne 6, 3) := by decide +kernel
theorem dX9_width_8 : decode cX9_width 8 = .ok (.ldc 188, 2) := by decide +kernel
theorem dX9_width_10 : decode cX9_width 10 = .ok (.ireturn, 1) := by decide +kernel
theorem dX9_width_11 : decode cX9_width 11 = .ok (.iload_n 2, 1) := by decide +kernel
theorem dX9_width_12 : decode cX9_width 12 = .ok (.i2l, 1) := by decide +kernel
theorem dX9_width_13 : decode cX9_width 13 = .ok (.lconst 0, 1) := by decide +kernel
theorem dX9_width_14 : decode cX9_width 14 = .ok (.ldc2_w 196, 3) := by decide +kernel
theorem dX9_width_17 : decode cX9_width 17 = .ok (.invokestatic 89, 3) := by decide +kernel
theorem dX9_width_20 : decode cX9_width 20 = .ok (.ifCond .ne 6, 3) := by decide +kernel
theorem dX9_width_23 : decode cX9_width 23 = .ok (.ldc 93, 2) := by decide +kernel
theorem dX9_width_25 : decode cX9_width 25 = .ok (.ireturn, 1) := by decide +kernel
theorem dX9_width_26 : decode cX9_width 26 = .ok (.aload_n 0, 1) := by decide +kernel
theorem dX9_width_27 : decode cX9_width 27 = .ok (.getfield 7, 3) := by decide +kernel
theorem dX9_width_30 : decode cX9_width 30 = .ok (.iload_n 1, 1) := by decide +kernel
theorem dX9_width_31 : decode cX9_width 31 = .ok (.iaload, 1) := by decide +kernel
theorem dX9_width_32 : decode cX9_width 32 = .ok (.istore_n 3, 1) := by decide +kernel
theorem dX9_width_33 : decode cX9_width 33 = .ok (.aload_n 0, 1) := by decide +kernel
theorem dX9_width_34 : decode cX9_width 34 = .ok (.getfield 7, 3) := by decide +kernel
theorem dX9_width_37 : decode cX9_width 37 = .ok (.iload_n 1, 1) := by decide +kernel
theorem dX9_width_38 : decode cX9_width 38 = .ok (.iload_n 2, 1) := by decide +kernel
theorem dX9_width_39 : decode cX9_width 39 = .ok (.iastore, 1) := by decide +kernel
theorem dX9_width_40 : decode cX9_width 40 = .ok (.iload_n 3, 1) := by decide +kernel
theorem dX9_width_41 : decode cX9_width 41 = .ok (.ireturn, 1) := by decide +kernel
theorem dX9_isFor_0 : decode cX9_isFor 0 = .ok (.aload_n 0, 1) := by decide +kernel
theorem dX9_isFor_1 : decode cX9_isFor 1 = .ok (.iload_n 2, 1) := by decide +kernel
theorem dX9_isFor_2 : decode cX9_isFor 2 = .ok (.aload_n 0, 1) := by decide +kernel
theorem dX9_isFor_3 : decode cX9_isFor 3 = .ok (.getfield 38, 3) := by decide +kernel
theorem dX9_isFor_6 : decode cX9_isFor 6 = .ok (.iload_n 3, 1) := by decide +kernel
theorem dX9_isFor_7 : decode cX9_isFor 7 = .ok (.iaload, 1) := by decide +kernel
theorem dX9_isFor_8 : decode cX9_isFor 8 = .ok (.invokevirtual 198, 3) := by decide +kernel
theorem dX9_isFor_11 : decode cX9_isFor 11 = .ok (.ifCond .eq 34, 3) := by decide +kernel
theorem dX9_isFor_14 : decode cX9_isFor 14 = .ok (.aload_n 0, 1) := by decide +kernel
theorem dX9_isFor_15 : decode cX9_isFor 15 = .ok (.iload_n 1, 1) := by decide +kernel
theorem dX9_isFor_16 : decode cX9_isFor 16 = .ok (.iload_n 2, 1) := by decide +kernel
theorem dX9_isFor_17 : decode cX9_isFor 17 = .ok (.invokevirtual 171, 3) := by decide +kernel
theorem dX9_isFor_20 : decode cX9_isFor 20 = .ok (.i2l, 1) := by decide +kernel
theorem dX9_isFor_21 : decode cX9_isFor 21 = .ok (.aload_n 0, 1) := by decide +kernel
theorem dX9_isFor_22 : decode cX9_isFor 22 = .ok (.getfield 41, 3) := by decide +kernel
theorem dX9_isFor_25 : decode cX9_isFor 25 = .ok (.iload_n 3, 1) := by decide +kernel
theorem dX9_isFor_26 : decode cX9_isFor 26 = .ok (.iaload, 1) := by decide +kernel
theorem dX9_isFor_27 : decode cX9_isFor 27 = .ok (.i2l, 1) := by decide +kernel
theorem dX9_isFor_28 : decode cX9_isFor 28 = .ok (.aload_n 0, 1) := by decide +kernel
theorem dX9_isFor_29 : decode cX9_isFor 29 = .ok (.getfield 44, 3) := by decide +kernel
theorem dX9_isFor_32 : decode cX9_isFor 32 = .ok (.iload_n 3, 1) := by decide +kernel
theorem dX9_isFor_33 : decode cX9_isFor 33 = .ok (.iaload, 1) := by decide +kernel
theorem dX9_isFor_34 : decode cX9_isFor 34 = .ok (.i2l, 1) := by decide +kernel
theorem dX9_isFor_35 : decode cX9_isFor 35 = .ok (.invokestatic 89, 3) := by decide +kernel
theorem dX9_isFor_38 : decode cX9_isFor 38 = .ok (.ifCond .eq 7, 3) := by decide +kernel
theorem dX9_isFor_41 : decode cX9_isFor 41 = .ok (.iconst 1, 1) := by decide +kernel
theorem dX9_isFor_42 : decode cX9_isFor 42 = .ok (.goto 4, 3) := by decide +kernel
theorem dX9_isFor_45 : decode cX9_isFor 45 = .ok (.iconst 0, 1) := by decide +kernel
theorem dX9_isFor_46 : decode cX9_isFor 46 = .ok (.ireturn, 1) := by decide +kernel
theorem dX9_cheapest_0 : decode cX9_cheapest 0 = .ok (.aload_n 0, 1) := by decide +kernel
theorem dX9_cheapest_1 : decode cX9_cheapest 1 = .ok (.iload_n 1, 1) := by decide +kernel
theorem dX9_cheapest_2 : decode cX9_cheapest 2 = .ok (.invokevirtual 189, 3) := by decide +kernel
theorem dX9_cheapest_5 : decode cX9_cheapest 5 = .ok (.ifCond .ne 6, 3) := by decide +kernel
theorem dX9_cheapest_8 : decode cX9_cheapest 8 = .ok (.ldc 188, 2) := by decide +kernel
theorem dX9_cheapest_10 : decode cX9_cheapest 10 = .ok (.ireturn, 1) := by decide +kernel
theorem dX9_cheapest_11 : decode cX9_cheapest 11 = .ok (.iload_n 2, 1) := by decide +kernel
theorem dX9_cheapest_12 : decode cX9_cheapest 12 = .ok (.i2l, 1) := by decide +kernel
theorem dX9_cheapest_13 : decode cX9_cheapest 13 = .ok (.lconst 0, 1) := by decide +kernel
theorem dX9_cheapest_14 : decode cX9_cheapest 14 = .ok (.lconst 1, 1) := by decide +kernel
theorem dX9_cheapest_15 : decode cX9_cheapest 15 = .ok (.invokestatic 89, 3) := by decide +kernel
theorem dX9_cheapest_18 : decode cX9_cheapest 18 = .ok (.ifCond .ne 6, 3) := by decide +kernel
theorem dX9_cheapest_21 : decode cX9_cheapest 21 = .ok (.ldc 93, 2) := by decide +kernel
theorem dX9_cheapest_23 : decode cX9_cheapest 23 = .ok (.ireturn, 1) := by decide +kernel
theorem dX9_cheapest_24 : decode cX9_cheapest 24 = .ok (.iconst (-1), 1) := by decide +kernel
theorem dX9_cheapest_25 : decode cX9_cheapest 25 = .ok (.istore_n 3, 1) := by decide +kernel
theorem dX9_cheapest_26 : decode cX9_cheapest 26 = .ok (.iconst 0, 1) := by decide +kernel
theorem dX9_cheapest_27 : decode cX9_cheapest 27 = .ok (.istore 4, 2) := by decide +kernel
theorem dX9_cheapest_29 : decode cX9_cheapest 29 = .ok (.iload 4, 2) := by decide +kernel
theorem dX9_cheapest_31 : decode cX9_cheapest 31 = .ok (.aload_n 0, 1) := by decide +kernel
theorem dX9_cheapest_32 : decode cX9_cheapest 32 = .ok (.getfield 165, 3) := by decide +kernel
theorem dX9_cheapest_35 : decode cX9_cheapest 35 = .ok (.if_icmp .ge 68, 3) := by decide +kernel
theorem dX9_cheapest_38 : decode cX9_cheapest 38 = .ok (.aload_n 0, 1) := by decide +kernel
theorem dX9_cheapest_39 : decode cX9_cheapest 39 = .ok (.iconst 0, 1) := by decide +kernel
theorem dX9_cheapest_40 : decode cX9_cheapest 40 = .ok (.aload_n 0, 1) := by decide +kernel
theorem dX9_cheapest_41 : decode cX9_cheapest 41 = .ok (.getfield 57, 3) := by decide +kernel
theorem dX9_cheapest_44 : decode cX9_cheapest 44 = .ok (.iload 4, 2) := by decide +kernel
theorem dX9_cheapest_46 : decode cX9_cheapest 46 = .ok (.iaload, 1) := by decide +kernel
theorem dX9_cheapest_47 : decode cX9_cheapest 47 = .ok (.iload_n 1, 1) := by decide +kernel
theorem dX9_cheapest_48 : decode cX9_cheapest 48 = .ok (.invokevirtual 201, 3) := by decide +kernel
theorem dX9_cheapest_51 : decode cX9_cheapest 51 = .ok (.istore 5, 2) := by decide +kernel
theorem dX9_cheapest_53 : decode cX9_cheapest 53 = .ok (.iload 5, 2) := by decide +kernel
theorem dX9_cheapest_55 : decode cX9_cheapest 55 = .ok (.ifCond .eq 40, 3) := by decide +kernel
theorem dX9_cheapest_58 : decode cX9_cheapest 58 = .ok (.iload_n 3, 1) := by decide +kernel
theorem dX9_cheapest_59 : decode cX9_cheapest 59 = .ok (.ifCond .lt 31, 3) := by decide +kernel
theorem dX9_cheapest_62 : decode cX9_cheapest 62 = .ok (.aload_n 0, 1) := by decide +kernel
theorem dX9_cheapest_63 : decode cX9_cheapest 63 = .ok (.bipush 10, 2) := by decide +kernel
theorem dX9_cheapest_65 : decode cX9_cheapest 65 = .ok (.aload_n 0, 1) := by decide +kernel
theorem dX9_cheapest_66 : decode cX9_cheapest 66 = .ok (.getfield 57, 3) := by decide +kernel
theorem dX9_cheapest_69 : decode cX9_cheapest 69 = .ok (.iload 4, 2) := by decide +kernel
theorem dX9_cheapest_71 : decode cX9_cheapest 71 = .ok (.iaload, 1) := by decide +kernel
theorem dX9_cheapest_72 : decode cX9_cheapest 72 = .ok (.invokevirtual 171, 3) := by decide +kernel
theorem dX9_cheapest_75 : decode cX9_cheapest 75 = .ok (.aload_n 0, 1) := by decide +kernel
theorem dX9_cheapest_76 : decode cX9_cheapest 76 = .ok (.bipush 10, 2) := by decide +kernel
theorem dX9_cheapest_78 : decode cX9_cheapest 78 = .ok (.aload_n 0, 1) := by decide +kernel
theorem dX9_cheapest_79 : decode cX9_cheapest 79 = .ok (.getfield 57, 3) := by decide +kernel
theorem dX9_cheapest_82 : decode cX9_cheapest 82 = .ok (.iload_n 3, 1) := by decide +kernel
theorem dX9_cheapest_83 : decode cX9_cheapest 83 = .ok (.iaload, 1) := by decide +kernel
theorem dX9_cheapest_84 : decode cX9_cheapest 84 = .ok (.invokevirtual 171, 3) := by decide +kernel
theorem dX9_cheapest_87 : decode cX9_cheapest 87 = .ok (.if_icmp .ge 8, 3) := by decide +kernel
theorem dX9_cheapest_90 : decode cX9_cheapest 90 = .ok (.iload 4, 2) := by decide +kernel
theorem dX9_cheapest_92 : decode cX9_cheapest 92 = .ok (.goto 4, 3) := by decide +kernel
theorem dX9_cheapest_95 : decode cX9_cheapest 95 = .ok (.iload_n 3, 1) := by decide +kernel
theorem dX9_cheapest_96 : decode cX9_cheapest 96 = .ok (.istore_n 3, 1) := by decide +kernel
theorem dX9_cheapest_97 : decode cX9_cheapest 97 = .ok (.iinc 4 1, 3) := by decide +kernel
theorem dX9_cheapest_100 : decode cX9_cheapest 100 = .ok (.goto (-71), 3) := by decide +kernel
theorem dX9_cheapest_103 : decode cX9_cheapest 103 = .ok (.iload_n 3, 1) := by decide +kernel
theorem dX9_cheapest_104 : decode cX9_cheapest 104 = .ok (.ifCond .ge 7, 3) := by decide +kernel
theorem dX9_cheapest_107 : decode cX9_cheapest 107 = .ok (.iconst (-1), 1) := by decide +kernel
theorem dX9_cheapest_108 : decode cX9_cheapest 108 = .ok (.goto 28, 3) := by decide +kernel
theorem dX9_cheapest_111 : decode cX9_cheapest 111 = .ok (.iload_n 2, 1) := by decide +kernel
theorem dX9_cheapest_112 : decode cX9_cheapest 112 = .ok (.ifCond .ne 12, 3) := by decide +kernel
theorem dX9_cheapest_115 : decode cX9_cheapest 115 = .ok (.aload_n 0, 1) := by decide +kernel
theorem dX9_cheapest_116 : decode cX9_cheapest 116 = .ok (.getfield 57, 3) := by decide +kernel
theorem dX9_cheapest_119 : decode cX9_cheapest 119 = .ok (.iload_n 3, 1) := by decide +kernel
theorem dX9_cheapest_120 : decode cX9_cheapest 120 = .ok (.iaload, 1) := by decide +kernel
theorem dX9_cheapest_121 : decode cX9_cheapest 121 = .ok (.goto 15, 3) := by decide +kernel
theorem dX9_cheapest_124 : decode cX9_cheapest 124 = .ok (.aload_n 0, 1) := by decide +kernel
theorem dX9_cheapest_125 : decode cX9_cheapest 125 = .ok (.bipush 10, 2) := by decide +kernel
theorem dX9_cheapest_127 : decode cX9_cheapest 127 = .ok (.aload_n 0, 1) := by decide +kernel
theorem dX9_cheapest_128 : decode cX9_cheapest 128 = .ok (.getfield 57, 3) := by decide +kernel
theorem dX9_cheapest_131 : decode cX9_cheapest 131 = .ok (.iload_n 3, 1) := by decide +kernel
theorem dX9_cheapest_132 : decode cX9_cheapest 132 = .ok (.iaload, 1) := by decide +kernel
theorem dX9_cheapest_133 : decode cX9_cheapest 133 = .ok (.invokevirtual 171, 3) := by decide +kernel
theorem dX9_cheapest_136 : decode cX9_cheapest 136 = .ok (.ireturn, 1) := by decide +kernel
theorem dX9_findSets_0 : decode cX9_findSets 0 = .ok (.iconst 0, 1) := by decide +kernel
theorem dX9_findSets_1 : decode cX9_findSets 1 = .ok (.istore_n 3, 1) := by decide +kernel
theorem dX9_findSets_2 : decode cX9_findSets 2 = .ok (.iload_n 3, 1) := by decide +kernel
theorem dX9_findSets_3 : decode cX9_findSets 3 = .ok (.sipush 1024, 3) := by decide +kernel
theorem dX9_findSets_6 : decode cX9_findSets 6 = .ok (.if_icmp .ge 24, 3) := by decide +kernel
theorem dX9_findSets_9 : decode cX9_findSets 9 = .ok (.aload_n 0, 1) := by decide +kernel
theorem dX9_findSets_10 : decode cX9_findSets 10 = .ok (.getfield 69, 3) := by decide +kernel
theorem dX9_findSets_13 : decode cX9_findSets 13 = .ok (.iload_n 3, 1) := by decide +kernel
theorem dX9_findSets_14 : decode cX9_findSets 14 = .ok (.iload_n 3, 1) := by decide +kernel
theorem dX9_findSets_15 : decode cX9_findSets 15 = .ok (.ifCond .ne 7, 3) := by decide +kernel
theorem dX9_findSets_18 : decode cX9_findSets 18 = .ok (.iconst 1, 1) := by decide +kernel
theorem dX9_findSets_19 : decode cX9_findSets 19 = .ok (.goto 4, 3) := by decide +kernel
theorem dX9_findSets_22 : decode cX9_findSets 22 = .ok (.iconst 0, 1) := by decide +kernel
theorem dX9_findSets_23 : decode cX9_findSets 23 = .ok (.bastore, 1) := by decide +kernel
theorem dX9_findSets_24 : decode cX9_findSets 24 = .ok (.iinc 3 1, 3) := by decide +kernel
theorem dX9_findSets_27 : decode cX9_findSets 27 = .ok (.goto (-25), 3) := by decide +kernel
theorem dX9_findSets_30 : decode cX9_findSets 30 = .ok (.iconst 0, 1) := by decide +kernel
theorem dX9_findSets_31 : decode cX9_findSets 31 = .ok (.istore_n 3, 1) := by decide +kernel
theorem dX9_findSets_32 : decode cX9_findSets 32 = .ok (.iload_n 3, 1) := by decide +kernel
theorem dX9_findSets_33 : decode cX9_findSets 33 = .ok (.aload_n 0, 1) := by decide +kernel
theorem dX9_findSets_34 : decode cX9_findSets 34 = .ok (.getfield 47, 3) := by decide +kernel
theorem dX9_findSets_37 : decode cX9_findSets 37 = .ok (.iconst 1, 1) := by decide +kernel
theorem dX9_findSets_38 : decode cX9_findSets 38 = .ok (.iaload, 1) := by decide +kernel
theorem dX9_findSets_39 : decode cX9_findSets 39 = .ok (.if_icmp .ge 25, 3) := by decide +kernel
theorem dX9_findSets_42 : decode cX9_findSets 42 = .ok (.aload_n 0, 1) := by decide +kernel
theorem dX9_findSets_43 : decode cX9_findSets 43 = .ok (.getfield 38, 3) := by decide +kernel
theorem dX9_findSets_46 : decode cX9_findSets 46 = .ok (.iload_n 3, 1) := by decide +kernel
theorem dX9_findSets_47 : decode cX9_findSets 47 = .ok (.iaload, 1) := by decide +kernel
theorem dX9_findSets_48 : decode cX9_findSets 48 = .ok (.iload_n 2, 1) := by decide +kernel
theorem dX9_findSets_49 : decode cX9_findSets 49 = .ok (.if_icmp .ne 9, 3) := by decide +kernel
theorem dX9_findSets_52 : decode cX9_findSets 52 = .ok (.aload_n 0, 1) := by decide +kernel
theorem dX9_findSets_53 : decode cX9_findSets 53 = .ok (.iload_n 1, 1) := by decide +kernel
theorem dX9_findSets_54 : decode cX9_findSets 54 = .ok (.iload_n 3, 1) := by decide +kernel
theorem dX9_findSets_55 : decode cX9_findSets 55 = .ok (.invokevirtual 205, 3) := by decide +kernel
theorem dX9_findSets_58 : decode cX9_findSets 58 = .ok (.iinc 3 1, 3) := by decide +kernel
theorem dX9_findSets_61 : decode cX9_findSets 61 = .ok (.goto (-29), 3) := by decide +kernel
theorem dX9_findSets_64 : decode cX9_findSets 64 = .ok (.iconst 0, 1) := by decide +kernel
theorem dX9_findSets_65 : decode cX9_findSets 65 = .ok (.istore_n 3, 1) := by decide +kernel
theorem dX9_findSets_66 : decode cX9_findSets 66 = .ok (.iload_n 3, 1) := by decide +kernel
theorem dX9_findSets_67 : decode cX9_findSets 67 = .ok (.sipush 1024, 3) := by decide +kernel
theorem dX9_findSets_70 : decode cX9_findSets 70 = .ok (.if_icmp .ge 27, 3) := by decide +kernel
theorem dX9_findSets_73 : decode cX9_findSets 73 = .ok (.aload_n 0, 1) := by decide +kernel
theorem dX9_findSets_74 : decode cX9_findSets 74 = .ok (.getfield 60, 3) := by decide +kernel
theorem dX9_findSets_77 : decode cX9_findSets 77 = .ok (.sipush 1024, 3) := by decide +kernel
theorem dX9_findSets_80 : decode cX9_findSets 80 = .ok (.iload_n 2, 1) := by decide +kernel
theorem dX9_findSets_81 : decode cX9_findSets 81 = .ok (.imul, 1) := by decide +kernel
theorem dX9_findSets_82 : decode cX9_findSets 82 = .ok (.iload_n 3, 1) := by decide +kernel
theorem dX9_findSets_83 : decode cX9_findSets 83 = .ok (.iadd, 1) := by decide +kernel
theorem dX9_findSets_84 : decode cX9_findSets 84 = .ok (.aload_n 0, 1) := by decide +kernel
theorem dX9_findSets_85 : decode cX9_findSets 85 = .ok (.getfield 69, 3) := by decide +kernel
theorem dX9_findSets_88 : decode cX9_findSets 88 = .ok (.iload_n 3, 1) := by decide +kernel
theorem dX9_findSets_89 : decode cX9_findSets 89 = .ok (.baload, 1) := by decide +kernel
theorem dX9_findSets_90 : decode cX9_findSets 90 = .ok (.bastore, 1) := by decide +kernel
theorem dX9_findSets_91 : decode cX9_findSets 91 = .ok (.iinc 3 1, 3) := by decide +kernel
theorem dX9_findSets_94 : decode cX9_findSets 94 = .ok (.goto (-28), 3) := by decide +kernel
theorem dX9_findSets_97 : decode cX9_findSets 97 = .ok (.return_, 1) := by decide +kernel
theorem dX9_addScene_0 : decode cX9_addScene 0 = .ok (.iconst 0, 1) := by decide +kernel
theorem dX9_addScene_1 : decode cX9_addScene 1 = .ok (.istore_n 3, 1) := by decide +kernel
theorem dX9_addScene_2 : decode cX9_addScene 2 = .ok (.iload_n 3, 1) := by decide +kernel
theorem dX9_addScene_3 : decode cX9_addScene 3 = .ok (.sipush 1024, 3) := by decide +kernel
theorem dX9_addScene_6 : decode cX9_addScene 6 = .ok (.if_icmp .ge 28, 3) := by decide +kernel
theorem dX9_addScene_9 : decode cX9_addScene 9 = .ok (.aload_n 0, 1) := by decide +kernel
theorem dX9_addScene_10 : decode cX9_addScene 10 = .ok (.getfield 66, 3) := by decide +kernel
theorem dX9_addScene_13 : decode cX9_addScene 13 = .ok (.iload_n 3, 1) := by decide +kernel
theorem dX9_addScene_14 : decode cX9_addScene 14 = .ok (.aload_n 0, 1) := by decide +kernel
theorem dX9_addScene_15 : decode cX9_addScene 15 = .ok (.getfield 69, 3) := by decide +kernel
theorem dX9_addScene_18 : decode cX9_addScene 18 = .ok (.iload_n 3, 1) := by decide +kernel
theorem dX9_addScene_19 : decode cX9_addScene 19 = .ok (.baload, 1) := by decide +kernel
theorem dX9_addScene_20 : decode cX9_addScene 20 = .ok (.bastore, 1) := by decide +kernel
theorem dX9_addScene_21 : decode cX9_addScene 21 = .ok (.aload_n 0, 1) := by decide +kernel
theorem dX9_addScene_22 : decode cX9_addScene 22 = .ok (.getfield 69, 3) := by decide +kernel
theorem dX9_addScene_25 : decode cX9_addScene 25 = .ok (.iload_n 3, 1) := by decide +kernel
theorem dX9_addScene_26 : decode cX9_addScene 26 = .ok (.iconst 0, 1) := by decide +kernel
theorem dX9_addScene_27 : decode cX9_addScene 27 = .ok (.bastore, 1) := by decide +kernel
theorem dX9_addScene_28 : decode cX9_addScene 28 = .ok (.iinc 3 1, 3) := by decide +kernel
theorem dX9_addScene_31 : decode cX9_addScene 31 = .ok (.goto (-29), 3) := by decide +kernel
theorem dX9_addScene_34 : decode cX9_addScene 34 = .ok (.iconst 0, 1) := by decide +kernel
theorem dX9_addScene_35 : decode cX9_addScene 35 = .ok (.istore_n 3, 1) := by decide +kernel
theorem dX9_addScene_36 : decode cX9_addScene 36 = .ok (.iload_n 3, 1) := by decide +kernel
theorem dX9_addScene_37 : decode cX9_addScene 37 = .ok (.aload_n 0, 1) := by decide +kernel
theorem dX9_addScene_38 : decode cX9_addScene 38 = .ok (.getfield 165, 3) := by decide +kernel
theorem dX9_addScene_41 : decode cX9_addScene 41 = .ok (.if_icmp .ge 78, 3) := by decide +kernel
theorem dX9_addScene_44 : decode cX9_addScene 44 = .ok (.aload_n 0, 1) := by decide +kernel
theorem dX9_addScene_45 : decode cX9_addScene 45 = .ok (.iload_n 1, 1) := by decide +kernel
theorem dX9_addScene_46 : decode cX9_addScene 46 = .ok (.aload_n 0, 1) := by decide +kernel
theorem dX9_addScene_47 : decode cX9_addScene 47 = .ok (.getfield 57, 3) := by decide +kernel
theorem dX9_addScene_50 : decode cX9_addScene 50 = .ok (.iload_n 3, 1) := by decide +kernel
theorem dX9_addScene_51 : decode cX9_addScene 51 = .ok (.iaload, 1) := by decide +kernel
theorem dX9_addScene_52 : decode cX9_addScene 52 = .ok (.iload_n 2, 1) := by decide +kernel
theorem dX9_addScene_53 : decode cX9_addScene 53 = .ok (.invokevirtual 201, 3) := by decide +kernel
theorem dX9_addScene_56 : decode cX9_addScene 56 = .ok (.ifCond .eq 57, 3) := by decide +kernel
theorem dX9_addScene_59 : decode cX9_addScene 59 = .ok (.iconst 0, 1) := by decide +kernel
theorem dX9_addScene_60 : decode cX9_addScene 60 = .ok (.istore 4, 2) := by decide +kernel
theorem dX9_addScene_62 : decode cX9_addScene 62 = .ok (.iload 4, 2) := by decide +kernel
theorem dX9_addScene_64 : decode cX9_addScene 64 = .ok (.sipush 1024, 3) := by decide +kernel
theorem dX9_addScene_67 : decode cX9_addScene 67 = .ok (.if_icmp .ge 46, 3) := by decide +kernel
theorem dX9_addScene_70 : decode cX9_addScene 70 = .ok (.aload_n 0, 1) := by decide +kernel
theorem dX9_addScene_71 : decode cX9_addScene 71 = .ok (.getfield 66, 3) := by decide +kernel
theorem dX9_addScene_74 : decode cX9_addScene 74 = .ok (.iload 4, 2) := by decide +kernel
theorem dX9_addScene_76 : decode cX9_addScene 76 = .ok (.baload, 1) := by decide +kernel
theorem dX9_addScene_77 : decode cX9_addScene 77 = .ok (.ifCond .eq 30, 3) := by decide +kernel
theorem dX9_addScene_80 : decode cX9_addScene 80 = .ok (.iload 4, 2) := by decide +kernel
theorem dX9_addScene_82 : decode cX9_addScene 82 = .ok (.aload_n 0, 1) := by decide +kernel
theorem dX9_addScene_83 : decode cX9_addScene 83 = .ok (.getfield 57, 3) := by decide +kernel
theorem dX9_addScene_86 : decode cX9_addScene 86 = .ok (.iload_n 3, 1) := by decide +kernel
theorem dX9_addScene_87 : decode cX9_addScene 87 = .ok (.iaload, 1) := by decide +kernel
theorem dX9_addScene_88 : decode cX9_addScene 88 = .ok (.iand, 1) := by decide +kernel
theorem dX9_addScene_89 : decode cX9_addScene 89 = .ok (.ifCond .ne 18, 3) := by decide +kernel
theorem dX9_addScene_92 : decode cX9_addScene 92 = .ok (.aload_n 0, 1) := by decide +kernel
theorem dX9_addScene_93 : decode cX9_addScene 93 = .ok (.getfield 69, 3) := by decide +kernel
theorem dX9_addScene_96 : decode cX9_addScene 96 = .ok (.iload 4, 2) := by decide +kernel
theorem dX9_addScene_98 : decode cX9_addScene 98 = .ok (.aload_n 0, 1) := by decide +kernel
theorem dX9_addScene_99 : decode cX9_addScene 99 = .ok (.getfield 57, 3) := by decide +kernel
theorem dX9_addScene_102 : decode cX9_addScene 102 = .ok (.iload_n 3, 1) := by decide +kernel
theorem dX9_addScene_103 : decode cX9_addScene 103 = .ok (.iaload, 1) := by decide +kernel
theorem dX9_addScene_104 : decode cX9_addScene 104 = .ok (.ior, 1) := by decide +kernel
theorem dX9_addScene_105 : decode cX9_addScene 105 = .ok (.iconst 1, 1) := by decide +kernel
theorem dX9_addScene_106 : decode cX9_addScene 106 = .ok (.bastore, 1) := by decide +kernel
theorem dX9_addScene_107 : decode cX9_addScene 107 = .ok (.iinc 4 1, 3) := by decide +kernel
theorem dX9_addScene_110 : decode cX9_addScene 110 = .ok (.goto (-48), 3) := by decide +kernel
theorem dX9_addScene_113 : decode cX9_addScene 113 = .ok (.iinc 3 1, 3) := by decide +kernel
theorem dX9_addScene_116 : decode cX9_addScene 116 = .ok (.goto (-80), 3) := by decide +kernel
theorem dX9_addScene_119 : decode cX9_addScene 119 = .ok (.return_, 1) := by decide +kernel
theorem dX9_best_0 : decode cX9_best 0 = .ok (.ldc 209, 2) := by decide +kernel
theorem dX9_best_2 : decode cX9_best 2 = .ok (.istore 4, 2) := by decide +kernel
theorem dX9_best_4 : decode cX9_best 4 = .ok (.iconst 0, 1) := by decide +kernel
theorem dX9_best_5 : decode cX9_best 5 = .ok (.istore 5, 2) := by decide +kernel
theorem dX9_best_7 : decode cX9_best 7 = .ok (.iload 5, 2) := by decide +kernel
theorem dX9_best_9 : decode cX9_best 9 = .ok (.sipush 1024, 3) := by decide +kernel
theorem dX9_best_12 : decode cX9_best 12 = .ok (.if_icmp .ge 104, 3) := by decide +kernel
theorem dX9_best_15 : decode cX9_best 15 = .ok (.aload_n 0, 1) := by decide +kernel
theorem dX9_best_16 : decode cX9_best 16 = .ok (.getfield 60, 3) := by decide +kernel
theorem dX9_best_19 : decode cX9_best 19 = .ok (.sipush 1024, 3) := by decide +kernel
theorem dX9_best_22 : decode cX9_best 22 = .ok (.iload_n 2, 1) := by decide +kernel
theorem dX9_best_23 : decode cX9_best 23 = .ok (.imul, 1) := by decide +kernel
theorem dX9_best_24 : decode cX9_best 24 = .ok (.iload 5, 2) := by decide +kernel
theorem dX9_best_26 : decode cX9_best 26 = .ok (.iadd, 1) := by decide +kernel
theorem dX9_best_27 : decode cX9_best 27 = .ok (.baload, 1) := by decide +kernel
theorem dX9_best_28 : decode cX9_best 28 = .ok (.ifCond .eq 82, 3) := by decide +kernel
theorem dX9_best_31 : decode cX9_best 31 = .ok (.aload_n 0, 1) := by decide +kernel
theorem dX9_best_32 : decode cX9_best 32 = .ok (.getfield 7, 3) := by decide +kernel
theorem dX9_best_35 : decode cX9_best 35 = .ok (.iload_n 1, 1) := by decide +kernel
theorem dX9_best_36 : decode cX9_best 36 = .ok (.bipush 31, 2) := by decide +kernel
theorem dX9_best_38 : decode cX9_best 38 = .ok (.iadd, 1) := by decide +kernel
theorem dX9_best_39 : decode cX9_best 39 = .ok (.iaload, 1) := by decide +kernel
theorem dX9_best_40 : decode cX9_best 40 = .ok (.ifCond .eq 10, 3) := by decide +kernel
theorem dX9_best_43 : decode cX9_best 43 = .ok (.iload 5, 2) := by decide +kernel
theorem dX9_best_45 : decode cX9_best 45 = .ok (.iload_n 3, 1) := by decide +kernel
theorem dX9_best_46 : decode cX9_best 46 = .ok (.iand, 1) := by decide +kernel
theorem dX9_best_47 : decode cX9_best 47 = .ok (.ifCond .ne 63, 3) := by decide +kernel
theorem dX9_best_50 : decode cX9_best 50 = .ok (.aload_n 0, 1) := by decide +kernel
theorem dX9_best_51 : decode cX9_best 51 = .ok (.iload_n 1, 1) := by decide +kernel
theorem dX9_best_52 : decode cX9_best 52 = .ok (.bipush 10, 2) := by decide +kernel
theorem dX9_best_54 : decode cX9_best 54 = .ok (.iadd, 1) := by decide +kernel
theorem dX9_best_55 : decode cX9_best 55 = .ok (.iload 5, 2) := by decide +kernel
theorem dX9_best_57 : decode cX9_best 57 = .ok (.invokevirtual 171, 3) := by decide +kernel
theorem dX9_best_60 : decode cX9_best 60 = .ok (.aload_n 0, 1) := by decide +kernel
theorem dX9_best_61 : decode cX9_best 61 = .ok (.getfield 63, 3) := by decide +kernel
theorem dX9_best_64 : decode cX9_best 64 = .ok (.sipush 1024, 3) := by decide +kernel
theorem dX9_best_67 : decode cX9_best 67 = .ok (.iload_n 2, 1) := by decide +kernel
theorem dX9_best_68 : decode cX9_best 68 = .ok (.iconst 1, 1) := by decide +kernel
theorem dX9_best_69 : decode cX9_best 69 = .ok (.iadd, 1) := by decide +kernel
theorem dX9_best_70 : decode cX9_best 70 = .ok (.imul, 1) := by decide +kernel
theorem dX9_best_71 : decode cX9_best 71 = .ok (.aload_n 0, 1) := by decide +kernel
theorem dX9_best_72 : decode cX9_best 72 = .ok (.getfield 7, 3) := by decide +kernel
theorem dX9_best_75 : decode cX9_best 75 = .ok (.iload_n 1, 1) := by decide +kernel
theorem dX9_best_76 : decode cX9_best 76 = .ok (.bipush 31, 2) := by decide +kernel
theorem dX9_best_78 : decode cX9_best 78 = .ok (.iadd, 1) := by decide +kernel
theorem dX9_best_79 : decode cX9_best 79 = .ok (.iaload, 1) := by decide +kernel
theorem dX9_best_80 : decode cX9_best 80 = .ok (.ifCond .ne 7, 3) := by decide +kernel
theorem dX9_best_83 : decode cX9_best 83 = .ok (.iconst 0, 1) := by decide +kernel
theorem dX9_best_84 : decode cX9_best 84 = .ok (.goto 5, 3) := by decide +kernel
theorem dX9_best_87 : decode cX9_best 87 = .ok (.iload 5, 2) := by decide +kernel
theorem dX9_best_89 : decode cX9_best 89 = .ok (.iadd, 1) := by decide +kernel
theorem dX9_best_90 : decode cX9_best 90 = .ok (.iaload, 1) := by decide +kernel
theorem dX9_best_91 : decode cX9_best 91 = .ok (.iadd, 1) := by decide +kernel
theorem dX9_best_92 : decode cX9_best 92 = .ok (.istore 6, 2) := by decide +kernel
theorem dX9_best_94 : decode cX9_best 94 = .ok (.iload 6, 2) := by decide +kernel
theorem dX9_best_96 : decode cX9_best 96 = .ok (.iload 4, 2) := by decide +kernel
theorem dX9_best_98 : decode cX9_best 98 = .ok (.if_icmp .ge 8, 3) := by decide +kernel
theorem dX9_best_101 : decode cX9_best 101 = .ok (.iload 6, 2) := by decide +kernel
theorem dX9_best_103 : decode cX9_best 103 = .ok (.goto 5, 3) := by decide +kernel
theorem dX9_best_106 : decode cX9_best 106 = .ok (.iload 4, 2) := by decide +kernel
theorem dX9_best_108 : decode cX9_best 108 = .ok (.istore 4, 2) := by decide +kernel
theorem dX9_best_110 : decode cX9_best 110 = .ok (.iinc 5 1, 3) := by decide +kernel
theorem dX9_best_113 : decode cX9_best 113 = .ok (.goto (-106), 3) := by decide +kernel
theorem dX9_best_116 : decode cX9_best 116 = .ok (.iload 4, 2) := by decide +kernel
theorem dX9_best_118 : decode cX9_best 118 = .ok (.ireturn, 1) := by decide +kernel
theorem dX9_findAllSets_0 : decode cX9_findAllSets 0 = .ok (.iconst 0, 1) := by decide +kernel
theorem dX9_findAllSets_1 : decode cX9_findAllSets 1 = .ok (.istore_n 2, 1) := by decide +kernel
theorem dX9_findAllSets_2 : decode cX9_findAllSets 2 = .ok (.iload_n 2, 1) := by decide +kernel
theorem dX9_findAllSets_3 : decode cX9_findAllSets 3 = .ok (.bipush 12, 2) := by decide +kernel
theorem dX9_findAllSets_5 : decode cX9_findAllSets 5 = .ok (.if_icmp .ge 15, 3) := by decide +kernel
theorem dX9_findAllSets_8 : decode cX9_findAllSets 8 = .ok (.aload_n 0, 1) := by decide +kernel
theorem dX9_findAllSets_9 : decode cX9_findAllSets 9 = .ok (.iload_n 1, 1) := by decide +kernel
theorem dX9_findAllSets_10 : decode cX9_findAllSets 10 = .ok (.iload_n 2, 1) := by decide +kernel
theorem dX9_findAllSets_11 : decode cX9_findAllSets 11 = .ok (.invokevirtual 210, 3) := by decide +kernel
theorem dX9_findAllSets_14 : decode cX9_findAllSets 14 = .ok (.iinc 2 1, 3) := by decide +kernel
theorem dX9_findAllSets_17 : decode cX9_findAllSets 17 = .ok (.goto (-15), 3) := by decide +kernel
theorem dX9_findAllSets_20 : decode cX9_findAllSets 20 = .ok (.return_, 1) := by decide +kernel
theorem dX9_findLeast_0 : decode cX9_findLeast 0 = .ok (.iconst 0, 1) := by decide +kernel
theorem dX9_findLeast_1 : decode cX9_findLeast 1 = .ok (.istore_n 2, 1) := by decide +kernel
theorem dX9_findLeast_2 : decode cX9_findLeast 2 = .ok (.iload_n 2, 1) := by decide +kernel
theorem dX9_findLeast_3 : decode cX9_findLeast 3 = .ok (.sipush 1024, 3) := by decide +kernel
theorem dX9_findLeast_6 : decode cX9_findLeast 6 = .ok (.if_icmp .ge 20, 3) := by decide +kernel
theorem dX9_findLeast_9 : decode cX9_findLeast 9 = .ok (.aload_n 0, 1) := by decide +kernel
theorem dX9_findLeast_10 : decode cX9_findLeast 10 = .ok (.getfield 63, 3) := by decide +kernel
theorem dX9_findLeast_13 : decode cX9_findLeast 13 = .ok (.sipush 12288, 3) := by decide +kernel
theorem dX9_findLeast_16 : decode cX9_findLeast 16 = .ok (.iload_n 2, 1) := by decide +kernel
theorem dX9_findLeast_17 : decode cX9_findLeast 17 = .ok (.iadd, 1) := by decide +kernel
theorem dX9_findLeast_18 : decode cX9_findLeast 18 = .ok (.iconst 0, 1) := by decide +kernel
theorem dX9_findLeast_19 : decode cX9_findLeast 19 = .ok (.iastore, 1) := by decide +kernel
theorem dX9_findLeast_20 : decode cX9_findLeast 20 = .ok (.iinc 2 1, 3) := by decide +kernel
theorem dX9_findLeast_23 : decode cX9_findLeast 23 = .ok (.goto (-21), 3) := by decide +kernel
theorem dX9_findLeast_26 : decode cX9_findLeast 26 = .ok (.bipush 11, 2) := by decide +kernel
theorem dX9_findLeast_28 : decode cX9_findLeast 28 = .ok (.istore_n 2, 1) := by decide +kernel
theorem dX9_findLeast_29 : decode cX9_findLeast 29 = .ok (.iload_n 2, 1) := by decide +kernel
theorem dX9_findLeast_30 : decode cX9_findLeast 30 = .ok (.ifCond .lt 99, 3) := by decide +kernel
theorem dX9_findLeast_33 : decode cX9_findLeast 33 = .ok (.aload_n 0, 1) := by decide +kernel
theorem dX9_findLeast_34 : decode cX9_findLeast 34 = .ok (.getfield 63, 3) := by decide +kernel
theorem dX9_findLeast_37 : decode cX9_findLeast 37 = .ok (.sipush 1024, 3) := by decide +kernel
theorem dX9_findLeast_40 : decode cX9_findLeast 40 = .ok (.iload_n 2, 1) := by decide +kernel
theorem dX9_findLeast_41 : decode cX9_findLeast 41 = .ok (.imul, 1) := by decide +kernel
theorem dX9_findLeast_42 : decode cX9_findLeast 42 = .ok (.aload_n 0, 1) := by decide +kernel
theorem dX9_findLeast_43 : decode cX9_findLeast 43 = .ok (.iload_n 1, 1) := by decide +kernel
theorem dX9_findLeast_44 : decode cX9_findLeast 44 = .ok (.iload_n 2, 1) := by decide +kernel
theorem dX9_findLeast_45 : decode cX9_findLeast 45 = .ok (.iconst 0, 1) := by decide +kernel
theorem dX9_findLeast_46 : decode cX9_findLeast 46 = .ok (.invokevirtual 213, 3) := by decide +kernel
