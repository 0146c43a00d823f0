theorem dX7_look_163 : decode cX7_look 163 = .ok (.ireturn, 1) := by decide +kernel
theorem dX7_look_164 : decode cX7_look 164 = .ok (.iload 7, 2) := by decide +kernel
theorem dX7_look_166 : decode cX7_look 166 = .ok (.aload_n 0, 1) := by decide +kernel
theorem dX7_look_167 : decode cX7_look 167 = .ok (.getfield 87, 3) := by decide +kernel
theorem dX7_look_170 : decode cX7_look 170 = .ok (.iadd, 1) := by decide +kernel
theorem dX7_look_171 : decode cX7_look 171 = .ok (.istore 7, 2) := by decide +kernel
theorem dX7_look_173 : decode cX7_look 173 = .ok (.iload 8, 2) := by decide +kernel
theorem dX7_look_175 : decode cX7_look 175 = .ok (.aload_n 0, 1) := by decide +kernel
theorem dX7_look_176 : decode cX7_look 176 = .ok (.getfield 90, 3) := by decide +kernel
theorem dX7_look_179 : decode cX7_look 179 = .ok (.invokestatic 93, 3) := by decide +kernel
theorem dX7_look_182 : decode cX7_look 182 = .ok (.istore 8, 2) := by decide +kernel
theorem dX7_look_184 : decode cX7_look 184 = .ok (.iload 9, 2) := by decide +kernel
theorem dX7_look_186 : decode cX7_look 186 = .ok (.aload_n 0, 1) := by decide +kernel
theorem dX7_look_187 : decode cX7_look 187 = .ok (.getfield 90, 3) := by decide +kernel
theorem dX7_look_190 : decode cX7_look 190 = .ok (.invokestatic 99, 3) := by decide +kernel
theorem dX7_look_193 : decode cX7_look 193 = .ok (.istore 9, 2) := by decide +kernel
theorem dX7_look_195 : decode cX7_look 195 = .ok (.iinc 10 1, 3) := by decide +kernel
theorem dX7_look_198 : decode cX7_look 198 = .ok (.goto (-129), 3) := by decide +kernel
theorem dX7_look_201 : decode cX7_look 201 = .ok (.aload_n 0, 1) := by decide +kernel
theorem dX7_look_202 : decode cX7_look 202 = .ok (.aload_n 0, 1) := by decide +kernel
theorem dX7_look_203 : decode cX7_look 203 = .ok (.getfield 20, 3) := by decide +kernel
theorem dX7_look_206 : decode cX7_look 206 = .ok (.iload 5, 2) := by decide +kernel
theorem dX7_look_208 : decode cX7_look 208 = .ok (.iaload, 1) := by decide +kernel
theorem dX7_look_209 : decode cX7_look 209 = .ok (.aload_n 1, 1) := by decide +kernel
theorem dX7_look_210 : decode cX7_look 210 = .ok (.iload_n 3, 1) := by decide +kernel
theorem dX7_look_211 : decode cX7_look 211 = .ok (.iload 6, 2) := by decide +kernel
theorem dX7_look_213 : decode cX7_look 213 = .ok (.iload 9, 2) := by decide +kernel
theorem dX7_look_215 : decode cX7_look 215 = .ok (.iload 8, 2) := by decide +kernel
theorem dX7_look_217 : decode cX7_look 217 = .ok (.iload 9, 2) := by decide +kernel
theorem dX7_look_219 : decode cX7_look 219 = .ok (.invokestatic 93, 3) := by decide +kernel
theorem dX7_look_222 : decode cX7_look 222 = .ok (.isub, 1) := by decide +kernel
theorem dX7_look_223 : decode cX7_look 223 = .ok (.iload 5, 2) := by decide +kernel
theorem dX7_look_225 : decode cX7_look 225 = .ok (.invokevirtual 102, 3) := by decide +kernel
theorem dX7_look_228 : decode cX7_look 228 = .ok (.ifCond .ne 5, 3) := by decide +kernel
theorem dX7_look_231 : decode cX7_look 231 = .ok (.iconst (-1), 1) := by decide +kernel
theorem dX7_look_232 : decode cX7_look 232 = .ok (.ireturn, 1) := by decide +kernel
theorem dX7_look_233 : decode cX7_look 233 = .ok (.aload_n 0, 1) := by decide +kernel
theorem dX7_look_234 : decode cX7_look 234 = .ok (.iload 7, 2) := by decide +kernel
theorem dX7_look_236 : decode cX7_look 236 = .ok (.putfield 87, 3) := by decide +kernel
theorem dX7_look_239 : decode cX7_look 239 = .ok (.aload_n 0, 1) := by decide +kernel
theorem dX7_look_240 : decode cX7_look 240 = .ok (.iconst 1, 1) := by decide +kernel
theorem dX7_look_241 : decode cX7_look 241 = .ok (.iload 9, 2) := by decide +kernel
theorem dX7_look_243 : decode cX7_look 243 = .ok (.iadd, 1) := by decide +kernel
theorem dX7_look_244 : decode cX7_look 244 = .ok (.putfield 90, 3) := by decide +kernel
theorem dX7_look_247 : decode cX7_look 247 = .ok (.iload 6, 2) := by decide +kernel
theorem dX7_look_249 : decode cX7_look 249 = .ok (.ireturn, 1) := by decide +kernel
theorem dX7_isTrue_0 : decode cX7_isTrue 0 = .ok (.iload_n 1, 1) := by decide +kernel
theorem dX7_isTrue_1 : decode cX7_isTrue 1 = .ok (.iconst 3, 1) := by decide +kernel
theorem dX7_isTrue_2 : decode cX7_isTrue 2 = .ok (.if_icmp .ne 14, 3) := by decide +kernel
theorem dX7_isTrue_5 : decode cX7_isTrue 5 = .ok (.iload 5, 2) := by decide +kernel
theorem dX7_isTrue_7 : decode cX7_isTrue 7 = .ok (.ifCond .ne 7, 3) := by decide +kernel
theorem dX7_isTrue_10 : decode cX7_isTrue 10 = .ok (.iconst 1, 1) := by decide +kernel
theorem dX7_isTrue_11 : decode cX7_isTrue 11 = .ok (.goto 4, 3) := by decide +kernel
theorem dX7_isTrue_14 : decode cX7_isTrue 14 = .ok (.iconst 0, 1) := by decide +kernel
theorem dX7_isTrue_15 : decode cX7_isTrue 15 = .ok (.ireturn, 1) := by decide +kernel
theorem dX7_isTrue_16 : decode cX7_isTrue 16 = .ok (.iload_n 1, 1) := by decide +kernel
theorem dX7_isTrue_17 : decode cX7_isTrue 17 = .ok (.iconst 4, 1) := by decide +kernel
theorem dX7_isTrue_18 : decode cX7_isTrue 18 = .ok (.if_icmp .ne 15, 3) := by decide +kernel
theorem dX7_isTrue_21 : decode cX7_isTrue 21 = .ok (.iload 5, 2) := by decide +kernel
theorem dX7_isTrue_23 : decode cX7_isTrue 23 = .ok (.iconst 1, 1) := by decide +kernel
theorem dX7_isTrue_24 : decode cX7_isTrue 24 = .ok (.if_icmp .gt 7, 3) := by decide +kernel
theorem dX7_isTrue_27 : decode cX7_isTrue 27 = .ok (.iconst 1, 1) := by decide +kernel
theorem dX7_isTrue_28 : decode cX7_isTrue 28 = .ok (.goto 4, 3) := by decide +kernel
theorem dX7_isTrue_31 : decode cX7_isTrue 31 = .ok (.iconst 0, 1) := by decide +kernel
theorem dX7_isTrue_32 : decode cX7_isTrue 32 = .ok (.ireturn, 1) := by decide +kernel
theorem dX7_isTrue_33 : decode cX7_isTrue 33 = .ok (.iconst (-1), 1) := by decide +kernel
theorem dX7_isTrue_34 : decode cX7_isTrue 34 = .ok (.istore 7, 2) := by decide +kernel
theorem dX7_isTrue_36 : decode cX7_isTrue 36 = .ok (.iconst (-1), 1) := by decide +kernel
theorem dX7_isTrue_37 : decode cX7_isTrue 37 = .ok (.istore 8, 2) := by decide +kernel
theorem dX7_isTrue_39 : decode cX7_isTrue 39 = .ok (.iconst 0, 1) := by decide +kernel
theorem dX7_isTrue_40 : decode cX7_isTrue 40 = .ok (.istore 9, 2) := by decide +kernel
theorem dX7_isTrue_42 : decode cX7_isTrue 42 = .ok (.iconst 1, 1) := by decide +kernel
theorem dX7_isTrue_43 : decode cX7_isTrue 43 = .ok (.istore 10, 2) := by decide +kernel
theorem dX7_isTrue_45 : decode cX7_isTrue 45 = .ok (.bipush 100, 2) := by decide +kernel
theorem dX7_isTrue_47 : decode cX7_isTrue 47 = .ok (.istore 11, 2) := by decide +kernel
theorem dX7_isTrue_49 : decode cX7_isTrue 49 = .ok (.iload_n 3, 1) := by decide +kernel
theorem dX7_isTrue_50 : decode cX7_isTrue 50 = .ok (.istore 12, 2) := by decide +kernel
theorem dX7_isTrue_52 : decode cX7_isTrue 52 = .ok (.iload 12, 2) := by decide +kernel
theorem dX7_isTrue_54 : decode cX7_isTrue 54 = .ok (.iload 4, 2) := by decide +kernel
theorem dX7_isTrue_56 : decode cX7_isTrue 56 = .ok (.if_icmp .ge 68, 3) := by decide +kernel
theorem dX7_isTrue_59 : decode cX7_isTrue 59 = .ok (.aload_n 2, 1) := by decide +kernel
theorem dX7_isTrue_60 : decode cX7_isTrue 60 = .ok (.iload 12, 2) := by decide +kernel
theorem dX7_isTrue_62 : decode cX7_isTrue 62 = .ok (.iaload, 1) := by decide +kernel
theorem dX7_isTrue_63 : decode cX7_isTrue 63 = .ok (.bipush 100, 2) := by decide +kernel
theorem dX7_isTrue_65 : decode cX7_isTrue 65 = .ok (.if_icmp .lt 6, 3) := by decide +kernel
theorem dX7_isTrue_68 : decode cX7_isTrue 68 = .ok (.goto 50, 3) := by decide +kernel
theorem dX7_isTrue_71 : decode cX7_isTrue 71 = .ok (.iload 10, 2) := by decide +kernel
theorem dX7_isTrue_73 : decode cX7_isTrue 73 = .ok (.ifCond .eq 16, 3) := by decide +kernel
theorem dX7_isTrue_76 : decode cX7_isTrue 76 = .ok (.aload_n 2, 1) := by decide +kernel
theorem dX7_isTrue_77 : decode cX7_isTrue 77 = .ok (.iload 12, 2) := by decide +kernel
theorem dX7_isTrue_79 : decode cX7_isTrue 79 = .ok (.iaload, 1) := by decide +kernel
theorem dX7_isTrue_80 : decode cX7_isTrue 80 = .ok (.iload 8, 2) := by decide +kernel
theorem dX7_isTrue_82 : decode cX7_isTrue 82 = .ok (.if_icmp .le 7, 3) := by decide +kernel
theorem dX7_isTrue_85 : decode cX7_isTrue 85 = .ok (.iconst 1, 1) := by decide +kernel
theorem dX7_isTrue_86 : decode cX7_isTrue 86 = .ok (.goto 4, 3) := by decide +kernel
theorem dX7_isTrue_89 : decode cX7_isTrue 89 = .ok (.iconst 0, 1) := by decide +kernel
theorem dX7_isTrue_90 : decode cX7_isTrue 90 = .ok (.istore 10, 2) := by decide +kernel
theorem dX7_isTrue_92 : decode cX7_isTrue 92 = .ok (.aload_n 2, 1) := by decide +kernel
theorem dX7_isTrue_93 : decode cX7_isTrue 93 = .ok (.iload 12, 2) := by decide +kernel
theorem dX7_isTrue_95 : decode cX7_isTrue 95 = .ok (.iaload, 1) := by decide +kernel
theorem dX7_isTrue_96 : decode cX7_isTrue 96 = .ok (.istore 8, 2) := by decide +kernel
theorem dX7_isTrue_98 : decode cX7_isTrue 98 = .ok (.iload 9, 2) := by decide +kernel
theorem dX7_isTrue_100 : decode cX7_isTrue 100 = .ok (.aload_n 2, 1) := by decide +kernel
theorem dX7_isTrue_101 : decode cX7_isTrue 101 = .ok (.iload 12, 2) := by decide +kernel
theorem dX7_isTrue_103 : decode cX7_isTrue 103 = .ok (.iaload, 1) := by decide +kernel
theorem dX7_isTrue_104 : decode cX7_isTrue 104 = .ok (.iadd, 1) := by decide +kernel
theorem dX7_isTrue_105 : decode cX7_isTrue 105 = .ok (.istore 9, 2) := by decide +kernel
theorem dX7_isTrue_107 : decode cX7_isTrue 107 = .ok (.iload 11, 2) := by decide +kernel
theorem dX7_isTrue_109 : decode cX7_isTrue 109 = .ok (.aload_n 2, 1) := by decide +kernel
theorem dX7_isTrue_110 : decode cX7_isTrue 110 = .ok (.iload 12, 2) := by decide +kernel
theorem dX7_isTrue_112 : decode cX7_isTrue 112 = .ok (.iaload, 1) := by decide +kernel
theorem dX7_isTrue_113 : decode cX7_isTrue 113 = .ok (.invokestatic 93, 3) := by decide +kernel
theorem dX7_isTrue_116 : decode cX7_isTrue 116 = .ok (.istore 11, 2) := by decide +kernel
theorem dX7_isTrue_118 : decode cX7_isTrue 118 = .ok (.iinc 12 1, 3) := by decide +kernel
theorem dX7_isTrue_121 : decode cX7_isTrue 121 = .ok (.goto (-69), 3) := by decide +kernel
theorem dX7_isTrue_124 : decode cX7_isTrue 124 = .ok (.iload_n 1, 1) := by decide +kernel
theorem dX7_isTrue_125 : decode cX7_isTrue 125 = .ok (.iconst 1, 1) := by decide +kernel
theorem dX7_isTrue_126 : decode cX7_isTrue 126 = .ok (.if_icmp .ne 6, 3) := by decide +kernel
theorem dX7_isTrue_129 : decode cX7_isTrue 129 = .ok (.iload 10, 2) := by decide +kernel
theorem dX7_isTrue_131 : decode cX7_isTrue 131 = .ok (.ireturn, 1) := by decide +kernel
theorem dX7_isTrue_132 : decode cX7_isTrue 132 = .ok (.iload_n 1, 1) := by decide +kernel
theorem dX7_isTrue_133 : decode cX7_isTrue 133 = .ok (.iconst 5, 1) := by decide +kernel
theorem dX7_isTrue_134 : decode cX7_isTrue 134 = .ok (.if_icmp .ne 16, 3) := by decide +kernel
theorem dX7_isTrue_137 : decode cX7_isTrue 137 = .ok (.iload 9, 2) := by decide +kernel
theorem dX7_isTrue_139 : decode cX7_isTrue 139 = .ok (.iconst 2, 1) := by decide +kernel
theorem dX7_isTrue_140 : decode cX7_isTrue 140 = .ok (.irem, 1) := by decide +kernel
theorem dX7_isTrue_141 : decode cX7_isTrue 141 = .ok (.ifCond .ne 7, 3) := by decide +kernel
theorem dX7_isTrue_144 : decode cX7_isTrue 144 = .ok (.iconst 1, 1) := by decide +kernel
theorem dX7_isTrue_145 : decode cX7_isTrue 145 = .ok (.goto 4, 3) := by decide +kernel
theorem dX7_isTrue_148 : decode cX7_isTrue 148 = .ok (.iconst 0, 1) := by decide +kernel
theorem dX7_isTrue_149 : decode cX7_isTrue 149 = .ok (.ireturn, 1) := by decide +kernel
theorem dX7_isTrue_150 : decode cX7_isTrue 150 = .ok (.iload_n 1, 1) := by decide +kernel
theorem dX7_isTrue_151 : decode cX7_isTrue 151 = .ok (.iconst 2, 1) := by decide +kernel
theorem dX7_isTrue_152 : decode cX7_isTrue 152 = .ok (.if_icmp .eq 5, 3) := by decide +kernel
theorem dX7_isTrue_155 : decode cX7_isTrue 155 = .ok (.iconst 1, 1) := by decide +kernel
theorem dX7_isTrue_156 : decode cX7_isTrue 156 = .ok (.ireturn, 1) := by decide +kernel
theorem dX7_isTrue_157 : decode cX7_isTrue 157 = .ok (.iload_n 3, 1) := by decide +kernel
theorem dX7_isTrue_158 : decode cX7_isTrue 158 = .ok (.iconst 1, 1) := by decide +kernel
theorem dX7_isTrue_159 : decode cX7_isTrue 159 = .ok (.iadd, 1) := by decide +kernel
theorem dX7_isTrue_160 : decode cX7_isTrue 160 = .ok (.istore 12, 2) := by decide +kernel
theorem dX7_isTrue_162 : decode cX7_isTrue 162 = .ok (.iconst 0, 1) := by decide +kernel
theorem dX7_isTrue_163 : decode cX7_isTrue 163 = .ok (.istore 13, 2) := by decide +kernel
theorem dX7_isTrue_165 : decode cX7_isTrue 165 = .ok (.iload 13, 2) := by decide +kernel
theorem dX7_isTrue_167 : decode cX7_isTrue 167 = .ok (.iconst 3, 1) := by decide +kernel
theorem dX7_isTrue_168 : decode cX7_isTrue 168 = .ok (.if_icmp .ge 62, 3) := by decide +kernel
theorem dX7_isTrue_171 : decode cX7_isTrue 171 = .ok (.iload 7, 2) := by decide +kernel
theorem dX7_isTrue_173 : decode cX7_isTrue 173 = .ok (.iconst (-1), 1) := by decide +kernel
theorem dX7_isTrue_174 : decode cX7_isTrue 174 = .ok (.if_icmp .ne 56, 3) := by decide +kernel
theorem dX7_isTrue_177 : decode cX7_isTrue 177 = .ok (.aload_n 0, 1) := by decide +kernel
theorem dX7_isTrue_178 : decode cX7_isTrue 178 = .ok (.getfield 17, 3) := by decide +kernel
theorem dX7_isTrue_181 : decode cX7_isTrue 181 = .ok (.iconst 3, 1) := by decide +kernel
theorem dX7_isTrue_182 : decode cX7_isTrue 182 = .ok (.iload 6, 2) := by decide +kernel
theorem dX7_isTrue_184 : decode cX7_isTrue 184 = .ok (.imul, 1) := by decide +kernel
theorem dX7_isTrue_185 : decode cX7_isTrue 185 = .ok (.iload 13, 2) := by decide +kernel
theorem dX7_isTrue_187 : decode cX7_isTrue 187 = .ok (.iadd, 1) := by decide +kernel
theorem dX7_isTrue_188 : decode cX7_isTrue 188 = .ok (.iaload, 1) := by decide +kernel
theorem dX7_isTrue_189 : decode cX7_isTrue 189 = .ok (.istore 14, 2) := by decide +kernel
theorem dX7_isTrue_191 : decode cX7_isTrue 191 = .ok (.iload 14, 2) := by decide +kernel
theorem dX7_isTrue_193 : decode cX7_isTrue 193 = .ok (.iconst (-1), 1) := by decide +kernel
theorem dX7_isTrue_194 : decode cX7_isTrue 194 = .ok (.if_icmp .ne 5, 3) := by decide +kernel
theorem dX7_isTrue_197 : decode cX7_isTrue 197 = .ok (.iconst 1, 1) := by decide +kernel
theorem dX7_isTrue_198 : decode cX7_isTrue 198 = .ok (.ireturn, 1) := by decide +kernel
theorem dX7_isTrue_199 : decode cX7_isTrue 199 = .ok (.iload 14, 2) := by decide +kernel
theorem dX7_isTrue_201 : decode cX7_isTrue 201 = .ok (.bipush 9, 2) := by decide +kernel
theorem dX7_isTrue_203 : decode cX7_isTrue 203 = .ok (.if_icmp .ne 12, 3) := by decide +kernel
theorem dX7_isTrue_206 : decode cX7_isTrue 206 = .ok (.aload_n 2, 1) := by decide +kernel
theorem dX7_isTrue_207 : decode cX7_isTrue 207 = .ok (.iload 12, 2) := by decide +kernel
theorem dX7_isTrue_209 : decode cX7_isTrue 209 = .ok (.iaload, 1) := by decide +kernel
theorem dX7_isTrue_210 : decode cX7_isTrue 210 = .ok (.istore 7, 2) := by decide +kernel
theorem dX7_isTrue_212 : decode cX7_isTrue 212 = .ok (.goto 12, 3) := by decide +kernel
theorem dX7_isTrue_215 : decode cX7_isTrue 215 = .ok (.aload_n 0, 1) := by decide +kernel
theorem dX7_isTrue_216 : decode cX7_isTrue 216 = .ok (.aload_n 2, 1) := by decide +kernel
theorem dX7_isTrue_217 : decode cX7_isTrue 217 = .ok (.iload 12, 2) := by decide +kernel
theorem dX7_isTrue_219 : decode cX7_isTrue 219 = .ok (.invokevirtual 106, 3) := by decide +kernel
theorem dX7_isTrue_222 : decode cX7_isTrue 222 = .ok (.istore 12, 2) := by decide +kernel
theorem dX7_isTrue_224 : decode cX7_isTrue 224 = .ok (.iinc 13 1, 3) := by decide +kernel
theorem dX7_isTrue_227 : decode cX7_isTrue 227 = .ok (.goto (-62), 3) := by decide +kernel
theorem dX7_isTrue_230 : decode cX7_isTrue 230 = .ok (.iload 7, 2) := by decide +kernel
theorem dX7_isTrue_232 : decode cX7_isTrue 232 = .ok (.iconst (-1), 1) := by decide +kernel
theorem dX7_isTrue_233 : decode cX7_isTrue 233 = .ok (.if_icmp .eq 10, 3) := by decide +kernel
theorem dX7_isTrue_236 : decode cX7_isTrue 236 = .ok (.iload 7, 2) := by decide +kernel
theorem dX7_isTrue_238 : decode cX7_isTrue 238 = .ok (.iload 11, 2) := by decide +kernel
theorem dX7_isTrue_240 : decode cX7_isTrue 240 = .ok (.if_icmp .gt 7, 3) := by decide +kernel
theorem dX7_isTrue_243 : decode cX7_isTrue 243 = .ok (.iconst 1, 1) := by decide +kernel
theorem dX7_isTrue_244 : decode cX7_isTrue 244 = .ok (.goto 4, 3) := by decide +kernel
theorem dX7_isTrue_247 : decode cX7_isTrue 247 = .ok (.iconst 0, 1) := by decide +kernel
theorem dX7_isTrue_248 : decode cX7_isTrue 248 = .ok (.ireturn, 1) := by decide +kernel
theorem dX7_end_0 : decode cX7_end 0 = .ok (.aload_n 1, 1) := by decide +kernel
theorem dX7_end_1 : decode cX7_end 1 = .ok (.iload_n 2, 1) := by decide +kernel
theorem dX7_end_2 : decode cX7_end 2 = .ok (.iaload, 1) := by decide +kernel
theorem dX7_end_3 : decode cX7_end 3 = .ok (.bipush 100, 2) := by decide +kernel
theorem dX7_end_5 : decode cX7_end 5 = .ok (.isub, 1) := by decide +kernel
theorem dX7_end_6 : decode cX7_end 6 = .ok (.istore_n 3, 1) := by decide +kernel
theorem dX7_end_7 : decode cX7_end 7 = .ok (.iload_n 2, 1) := by decide +kernel
theorem dX7_end_8 : decode cX7_end 8 = .ok (.iconst 1, 1) := by decide +kernel
theorem dX7_end_9 : decode cX7_end 9 = .ok (.iadd, 1) := by decide +kernel
theorem dX7_end_10 : decode cX7_end 10 = .ok (.istore 4, 2) := by decide +kernel
theorem dX7_end_12 : decode cX7_end 12 = .ok (.iconst 0, 1) := by decide +kernel
theorem dX7_end_13 : decode cX7_end 13 = .ok (.istore 5, 2) := by decide +kernel
theorem dX7_end_15 : decode cX7_end 15 = .ok (.iload 5, 2) := by decide +kernel
theorem dX7_end_17 : decode cX7_end 17 = .ok (.iconst 3, 1) := by decide +kernel
theorem dX7_end_18 : decode cX7_end 18 = .ok (.if_icmp .ge 56, 3) := by decide +kernel
theorem dX7_end_21 : decode cX7_end 21 = .ok (.aload_n 0, 1) := by decide +kernel
theorem dX7_end_22 : decode cX7_end 22 = .ok (.getfield 17, 3) := by decide +kernel
theorem dX7_end_25 : decode cX7_end 25 = .ok (.iconst 3, 1) := by decide +kernel
theorem dX7_end_26 : decode cX7_end 26 = .ok (.iload_n 3, 1) := by decide +kernel
theorem dX7_end_27 : decode cX7_end 27 = .ok (.imul, 1) := by decide +kernel
theorem dX7_end_28 : decode cX7_end 28 = .ok (.iload 5, 2) := by decide +kernel
theorem dX7_end_30 : decode cX7_end 30 = .ok (.iadd, 1) := by decide +kernel
theorem dX7_end_31 : decode cX7_end 31 = .ok (.iaload, 1) := by decide +kernel
theorem dX7_end_32 : decode cX7_end 32 = .ok (.iconst (-1), 1) := by decide +kernel
theorem dX7_end_33 : decode cX7_end 33 = .ok (.if_icmp .eq 41, 3) := by decide +kernel
theorem dX7_end_36 : decode cX7_end 36 = .ok (.aload_n 0, 1) := by decide +kernel
theorem dX7_end_37 : decode cX7_end 37 = .ok (.getfield 17, 3) := by decide +kernel
theorem dX7_end_40 : decode cX7_end 40 = .ok (.iconst 3, 1) := by decide +kernel
theorem dX7_end_41 : decode cX7_end 41 = .ok (.iload_n 3, 1) := by decide +kernel
theorem dX7_end_42 : decode cX7_end 42 = .ok (.imul, 1) := by decide +kernel
theorem dX7_end_43 : decode cX7_end 43 = .ok (.iload 5, 2) := by decide +kernel
theorem dX7_end_45 : decode cX7_end 45 = .ok (.iadd, 1) := by decide +kernel
theorem dX7_end_46 : decode cX7_end 46 = .ok (.iaload, 1) := by decide +kernel
theorem dX7_end_47 : decode cX7_end 47 = .ok (.bipush 9, 2) := by decide +kernel
theorem dX7_end_49 : decode cX7_end 49 = .ok (.if_icmp .ne 10, 3) := by decide +kernel
theorem dX7_end_52 : decode cX7_end 52 = .ok (.iload 4, 2) := by decide +kernel
theorem dX7_end_54 : decode cX7_end 54 = .ok (.iconst 1, 1) := by decide +kernel
theorem dX7_end_55 : decode cX7_end 55 = .ok (.iadd, 1) := by decide +kernel
theorem dX7_end_56 : decode cX7_end 56 = .ok (.goto 10, 3) := by decide +kernel
theorem dX7_end_59 : decode cX7_end 59 = .ok (.aload_n 0, 1) := by decide +kernel
theorem dX7_end_60 : decode cX7_end 60 = .ok (.aload_n 1, 1) := by decide +kernel
theorem dX7_end_61 : decode cX7_end 61 = .ok (.iload 4, 2) := by decide +kernel
theorem dX7_end_63 : decode cX7_end 63 = .ok (.invokevirtual 106, 3) := by decide +kernel
theorem dX7_end_66 : decode cX7_end 66 = .ok (.istore 4, 2) := by decide +kernel
theorem dX7_end_68 : decode cX7_end 68 = .ok (.iinc 5 1, 3) := by decide +kernel
theorem dX7_end_71 : decode cX7_end 71 = .ok (.goto (-56), 3) := by decide +kernel
theorem dX7_end_74 : decode cX7_end 74 = .ok (.iload 4, 2) := by decide +kernel
theorem dX7_end_76 : decode cX7_end 76 = .ok (.ireturn, 1) := by decide +kernel
theorem dX7_value_0 : decode cX7_value 0 = .ok (.aload_n 0, 1) := by decide +kernel
theorem dX7_value_1 : decode cX7_value 1 = .ok (.getfield 43, 3) := by decide +kernel
theorem dX7_value_4 : decode cX7_value 4 = .ok (.sipush 300, 3) := by decide +kernel
theorem dX7_value_7 : decode cX7_value 7 = .ok (.iload_n 1, 1) := by decide +kernel
theorem dX7_value_8 : decode cX7_value 8 = .ok (.imul, 1) := by decide +kernel
theorem dX7_value_9 : decode cX7_value 9 = .ok (.iload_n 2, 1) := by decide +kernel
theorem dX7_value_10 : decode cX7_value 10 = .ok (.iadd, 1) := by decide +kernel
theorem dX7_value_11 : decode cX7_value 11 = .ok (.iaload, 1) := by decide +kernel
theorem dX7_value_12 : decode cX7_value 12 = .ok (.ireturn, 1) := by decide +kernel
theorem dX7_choices_0 : decode cX7_choices 0 = .ok (.iload_n 1, 1) := by decide +kernel
theorem dX7_choices_1 : decode cX7_choices 1 = .ok (.iconst (-1), 1) := by decide +kernel
theorem dX7_choices_2 : decode cX7_choices 2 = .ok (.if_icmp .ne 14, 3) := by decide +kernel
theorem dX7_choices_5 : decode cX7_choices 5 = .ok (.iconst 1, 1) := by decide +kernel
theorem dX7_choices_6 : decode cX7_choices 6 = .ok (.anewarray 29, 3) := by decide +kernel
theorem dX7_choices_9 : decode cX7_choices 9 = .ok (.dup, 1) := by decide +kernel
theorem dX7_choices_10 : decode cX7_choices 10 = .ok (.iconst 0, 1) := by decide +kernel
theorem dX7_choices_11 : decode cX7_choices 11 = .ok (.iconst 0, 1) := by decide +kernel
theorem dX7_choices_12 : decode cX7_choices 12 = .ok (.newarray .int, 2) := by decide +kernel
theorem dX7_choices_14 : decode cX7_choices 14 = .ok (.aastore, 1) := by decide +kernel
theorem dX7_choices_15 : decode cX7_choices 15 = .ok (.areturn, 1) := by decide +kernel
theorem dX7_choices_16 : decode cX7_choices 16 = .ok (.iload_n 1, 1) := by decide +kernel
theorem dX7_choices_17 : decode cX7_choices 17 = .ok (.bipush 9, 2) := by decide +kernel
theorem dX7_choices_19 : decode cX7_choices 19 = .ok (.if_icmp .ne 58, 3) := by decide +kernel
theorem dX7_choices_22 : decode cX7_choices 22 = .ok (.aload_n 0, 1) := by decide +kernel
theorem dX7_choices_23 : decode cX7_choices 23 = .ok (.getfield 7, 3) := by decide +kernel
theorem dX7_choices_26 : decode cX7_choices 26 = .ok (.aload_n 0, 1) := by decide +kernel
theorem dX7_choices_27 : decode cX7_choices 27 = .ok (.getfield 66, 3) := by decide +kernel
theorem dX7_choices_30 : decode cX7_choices 30 = .ok (.isub, 1) := by decide +kernel
theorem dX7_choices_31 : decode cX7_choices 31 = .ok (.iconst 1, 1) := by decide +kernel
theorem dX7_choices_32 : decode cX7_choices 32 = .ok (.iadd, 1) := by decide +kernel
theorem dX7_choices_33 : decode cX7_choices 33 = .ok (.anewarray 29, 3) := by decide +kernel
theorem dX7_choices_36 : decode cX7_choices 36 = .ok (.astore_n 3, 1) := by decide +kernel
theorem dX7_choices_37 : decode cX7_choices 37 = .ok (.aload_n 0, 1) := by decide +kernel
theorem dX7_choices_38 : decode cX7_choices 38 = .ok (.getfield 66, 3) := by decide +kernel
theorem dX7_choices_41 : decode cX7_choices 41 = .ok (.istore 4, 2) := by decide +kernel
theorem dX7_choices_43 : decode cX7_choices 43 = .ok (.iload 4, 2) := by decide +kernel
theorem dX7_choices_45 : decode cX7_choices 45 = .ok (.aload_n 0, 1) := by decide +kernel
theorem dX7_choices_46 : decode cX7_choices 46 = .ok (.getfield 7, 3) := by decide +kernel
theorem dX7_choices_49 : decode cX7_choices 49 = .ok (.if_icmp .gt 26, 3) := by decide +kernel
theorem dX7_choices_52 : decode cX7_choices 52 = .ok (.aload_n 3, 1) := by decide +kernel
theorem dX7_choices_53 : decode cX7_choices 53 = .ok (.iload 4, 2) := by decide +kernel
theorem dX7_choices_55 : decode cX7_choices 55 = .ok (.aload_n 0, 1) := by decide +kernel
theorem dX7_choices_56 : decode cX7_choices 56 = .ok (.getfield 66, 3) := by decide +kernel
theorem dX7_choices_59 : decode cX7_choices 59 = .ok (.isub, 1) := by decide +kernel
theorem dX7_choices_60 : decode cX7_choices 60 = .ok (.iconst 1, 1) := by decide +kernel
theorem dX7_choices_61 : decode cX7_choices 61 = .ok (.newarray .int, 2) := by decide +kernel
theorem dX7_choices_63 : decode cX7_choices 63 = .ok (.dup, 1) := by decide +kernel
theorem dX7_choices_64 : decode cX7_choices 64 = .ok (.iconst 0, 1) := by decide +kernel
theorem dX7_choices_65 : decode cX7_choices 65 = .ok (.iload 4, 2) := by decide +kernel
theorem dX7_choices_67 : decode cX7_choices 67 = .ok (.iastore, 1) := by decide +kernel
theorem dX7_choices_68 : decode cX7_choices 68 = .ok (.aastore, 1) := by decide +kernel
theorem dX7_choices_69 : decode cX7_choices 69 = .ok (.iinc 4 1, 3) := by decide +kernel
theorem dX7_choices_72 : decode cX7_choices 72 = .ok (.goto (-29), 3) := by decide +kernel
theorem dX7_choices_75 : decode cX7_choices 75 = .ok (.aload_n 3, 1) := by decide +kernel
theorem dX7_choices_76 : decode cX7_choices 76 = .ok (.areturn, 1) := by decide +kernel
theorem dX7_choices_77 : decode cX7_choices 77 = .ok (.iconst 0, 1) := by decide +kernel
theorem dX7_choices_78 : decode cX7_choices 78 = .ok (.istore_n 3, 1) := by decide +kernel
theorem dX7_choices_79 : decode cX7_choices 79 = .ok (.iload_n 3, 1) := by decide +kernel
theorem dX7_choices_80 : decode cX7_choices 80 = .ok (.aload_n 0, 1) := by decide +kernel
theorem dX7_choices_81 : decode cX7_choices 81 = .ok (.getfield 40, 3) := by decide +kernel
theorem dX7_choices_84 : decode cX7_choices 84 = .ok (.iload_n 1, 1) := by decide +kernel
theorem dX7_choices_85 : decode cX7_choices 85 = .ok (.iaload, 1) := by decide +kernel
theorem dX7_choices_86 : decode cX7_choices 86 = .ok (.if_icmp .ge 24, 3) := by decide +kernel
theorem dX7_choices_89 : decode cX7_choices 89 = .ok (.aload_n 0, 1) := by decide +kernel
theorem dX7_choices_90 : decode cX7_choices 90 = .ok (.getfield 34, 3) := by decide +kernel
theorem dX7_choices_93 : decode cX7_choices 93 = .ok (.aload_n 0, 1) := by decide +kernel
theorem dX7_choices_94 : decode cX7_choices 94 = .ok (.iload_n 1, 1) := by decide +kernel
theorem dX7_choices_95 : decode cX7_choices 95 = .ok (.iload_n 3, 1) := by decide +kernel
theorem dX7_choices_96 : decode cX7_choices 96 = .ok (.invokevirtual 110, 3) := by decide +kernel
theorem dX7_choices_99 : decode cX7_choices 99 = .ok (.iaload, 1) := by decide +kernel
theorem dX7_choices_100 : decode cX7_choices 100 = .ok (.iload_n 2, 1) := by decide +kernel
theorem dX7_choices_101 : decode cX7_choices 101 = .ok (.if_icmp .gt 9, 3) := by decide +kernel
theorem dX7_choices_104 : decode cX7_choices 104 = .ok (.iinc 3 1, 3) := by decide +kernel
theorem dX7_choices_107 : decode cX7_choices 107 = .ok (.goto (-28), 3) := by decide +kernel
theorem dX7_choices_110 : decode cX7_choices 110 = .ok (.iload_n 3, 1) := by decide +kernel
theorem dX7_choices_111 : decode cX7_choices 111 = .ok (.anewarray 29, 3) := by decide +kernel
theorem dX7_choices_114 : decode cX7_choices 114 = .ok (.astore 4, 2) := by decide +kernel
theorem dX7_choices_116 : decode cX7_choices 116 = .ok (.iconst 0, 1) := by decide +kernel
theorem dX7_choices_117 : decode cX7_choices 117 = .ok (.istore 5, 2) := by decide +kernel
theorem dX7_choices_119 : decode cX7_choices 119 = .ok (.iload 5, 2) := by decide +kernel
theorem dX7_choices_121 : decode cX7_choices 121 = .ok (.iload_n 3, 1) := by decide +kernel
theorem dX7_choices_122 : decode cX7_choices 122 = .ok (.if_icmp .ge 26, 3) := by decide +kernel
theorem dX7_choices_125 : decode cX7_choices 125 = .ok (.aload 4, 2) := by decide +kernel
theorem dX7_choices_127 : decode cX7_choices 127 = .ok (.iload 5, 2) := by decide +kernel
theorem dX7_choices_129 : decode cX7_choices 129 = .ok (.aload_n 0, 1) := by decide +kernel
theorem dX7_choices_130 : decode cX7_choices 130 = .ok (.getfield 30, 3) := by decide +kernel
theorem dX7_choices_133 : decode cX7_choices 133 = .ok (.aload_n 0, 1) := by decide +kernel
theorem dX7_choices_134 : decode cX7_choices 134 = .ok (.iload_n 1, 1) := by decide +kernel
theorem dX7_choices_135 : decode cX7_choices 135 = .ok (.iload 5, 2) := by decide +kernel
theorem dX7_choices_137 : decode cX7_choices 137 = .ok (.invokevirtual 110, 3) := by decide +kernel
theorem dX7_choices_140 : decode cX7_choices 140 = .ok (.aaload, 1) := by decide +kernel
theorem dX7_choices_141 : decode cX7_choices 141 = .ok (.aastore, 1) := by decide +kernel
theorem dX7_choices_142 : decode cX7_choices 142 = .ok (.iinc 5 1, 3) := by decide +kernel
theorem dX7_choices_145 : decode cX7_choices 145 = .ok (.goto (-26), 3) := by decide +kernel
theorem dX7_choices_148 : decode cX7_choices 148 = .ok (.aload 4, 2) := by decide +kernel
theorem dX7_choices_150 : decode cX7_choices 150 = .ok (.areturn, 1) := by decide +kernel
theorem dX7_constructorsIn_0 : decode cX7_constructorsIn 0 = .ok (.iconst 0, 1) := by decide +kernel
theorem dX7_constructorsIn_1 : decode cX7_constructorsIn 1 = .ok (.istore_n 1, 1) := by decide +kernel
theorem dX7_constructorsIn_2 : decode cX7_constructorsIn 2 = .ok (.iconst 0, 1) := by decide +kernel
theorem dX7_constructorsIn_3 : decode cX7_constructorsIn 3 = .ok (.istore_n 2, 1) := by decide +kernel
theorem dX7_constructorsIn_4 : decode cX7_constructorsIn 4 = .ok (.iload_n 2, 1) := by decide +kernel
theorem dX7_constructorsIn_5 : decode cX7_constructorsIn 5 = .ok (.aload_n 0, 1) := by decide +kernel
theorem dX7_constructorsIn_6 : decode cX7_constructorsIn 6 = .ok (.arraylength, 1) := by decide +kernel
theorem dX7_constructorsIn_7 : decode cX7_constructorsIn 7 = .ok (.if_icmp .ge 25, 3) := by decide +kernel
theorem dX7_constructorsIn_10 : decode cX7_constructorsIn 10 = .ok (.iload_n 1, 1) := by decide +kernel
theorem dX7_constructorsIn_11 : decode cX7_constructorsIn 11 = .ok (.aload_n 0, 1) := by decide +kernel
theorem dX7_constructorsIn_12 : decode cX7_constructorsIn 12 = .ok (.iload_n 2, 1) := by decide +kernel
theorem dX7_constructorsIn_13 : decode cX7_constructorsIn 13 = .ok (.iaload, 1) := by decide +kernel
theorem dX7_constructorsIn_14 : decode cX7_constructorsIn 14 = .ok (.bipush 100, 2) := by decide +kernel
theorem dX7_constructorsIn_16 : decode cX7_constructorsIn 16 = .ok (.if_icmp .lt 7, 3) := by decide +kernel
theorem dX7_constructorsIn_19 : decode cX7_constructorsIn 19 = .ok (.iconst 1, 1) := by decide +kernel
theorem dX7_constructorsIn_20 : decode cX7_constructorsIn 20 = .ok (.goto 4, 3) := by decide +kernel
theorem dX7_constructorsIn_23 : decode cX7_constructorsIn 23 = .ok (.iconst 0, 1) := by decide +kernel
theorem dX7_constructorsIn_24 : decode cX7_constructorsIn 24 = .ok (.iadd, 1) := by decide +kernel
theorem dX7_constructorsIn_25 : decode cX7_constructorsIn 25 = .ok (.istore_n 1, 1) := by decide +kernel
theorem dX7_constructorsIn_26 : decode cX7_constructorsIn 26 = .ok (.iinc 2 1, 3) := by decide +kernel
theorem dX7_constructorsIn_29 : decode cX7_constructorsIn 29 = .ok (.goto (-25), 3) := by decide +kernel
theorem dX7_constructorsIn_32 : decode cX7_constructorsIn 32 = .ok (.iload_n 1, 1) := by decide +kernel
theorem dX7_constructorsIn_33 : decode cX7_constructorsIn 33 = .ok (.ireturn, 1) := by decide +kernel
theorem dX7_write_0 : decode cX7_write 0 = .ok (.aload_n 0, 1) := by decide +kernel
theorem dX7_write_1 : decode cX7_write 1 = .ok (.aload_n 0, 1) := by decide +kernel
theorem dX7_write_2 : decode cX7_write 2 = .ok (.getfield 17, 3) := by decide +kernel
theorem dX7_write_5 : decode cX7_write 5 = .ok (.iconst 3, 1) := by decide +kernel
theorem dX7_write_6 : decode cX7_write 6 = .ok (.iload_n 1, 1) := by decide +kernel
theorem dX7_write_7 : decode cX7_write 7 = .ok (.imul, 1) := by decide +kernel
theorem dX7_write_8 : decode cX7_write 8 = .ok (.iaload, 1) := by decide +kernel
theorem dX7_write_9 : decode cX7_write 9 = .ok (.iload_n 2, 1) := by decide +kernel
theorem dX7_write_10 : decode cX7_write 10 = .ok (.iconst 1, 1) := by decide +kernel
theorem dX7_write_11 : decode cX7_write 11 = .ok (.isub, 1) := by decide +kernel
theorem dX7_write_12 : decode cX7_write 12 = .ok (.invokevirtual 113, 3) := by decide +kernel
theorem dX7_write_15 : decode cX7_write 15 = .ok (.astore_n 3, 1) := by decide +kernel
theorem dX7_write_16 : decode cX7_write 16 = .ok (.aload_n 0, 1) := by decide +kernel
theorem dX7_write_17 : decode cX7_write 17 = .ok (.aload_n 0, 1) := by decide +kernel
theorem dX7_write_18 : decode cX7_write 18 = .ok (.getfield 17, 3) := by decide +kernel
theorem dX7_write_21 : decode cX7_write 21 = .ok (.iconst 3, 1) := by decide +kernel
theorem dX7_write_22 : decode cX7_write 22 = .ok (.iload_n 1, 1) := by decide +kernel
theorem dX7_write_23 : decode cX7_write 23 = .ok (.imul, 1) := by decide +kernel
theorem dX7_write_24 : decode cX7_write 24 = .ok (.iconst 1, 1) := by decide +kernel
theorem dX7_write_25 : decode cX7_write 25 = .ok (.iadd, 1) := by decide +kernel
theorem dX7_write_26 : decode cX7_write 26 = .ok (.iaload, 1) := by decide +kernel
theorem dX7_write_27 : decode cX7_write 27 = .ok (.iload_n 2, 1) := by decide +kernel
theorem dX7_write_28 : decode cX7_write 28 = .ok (.iconst 1, 1) := by decide +kernel
theorem dX7_write_29 : decode cX7_write 29 = .ok (.isub, 1) := by decide +kernel
theorem dX7_write_30 : decode cX7_write 30 = .ok (.invokevirtual 113, 3) := by decide +kernel
theorem dX7_write_33 : decode cX7_write 33 = .ok (.astore 4, 2) := by decide +kernel
theorem dX7_write_35 : decode cX7_write 35 = .ok (.aload_n 0, 1) := by decide +kernel
theorem dX7_write_36 : decode cX7_write 36 = .ok (.aload_n 0, 1) := by decide +kernel
theorem dX7_write_37 : decode cX7_write 37 = .ok (.getfield 17, 3) := by decide +kernel
theorem dX7_write_40 : decode cX7_write 40 = .ok (.iconst 3, 1) := by decide +kernel
theorem dX7_write_41 : decode cX7_write 41 = .ok (.iload_n 1, 1) := by decide +kernel
theorem dX7_write_42 : decode cX7_write 42 = .ok (.imul, 1) := by decide +kernel
theorem dX7_write_43 : decode cX7_write 43 = .ok (.iconst 2, 1) := by decide +kernel
theorem dX7_write_44 : decode cX7_write 44 = .ok (.iadd, 1) := by decide +kernel
theorem dX7_write_45 : decode cX7_write 45 = .ok (.iaload, 1) := by decide +kernel
theorem dX7_write_46 : decode cX7_write 46 = .ok (.iload_n 2, 1) := by decide +kernel
theorem dX7_write_47 : decode cX7_write 47 = .ok (.iconst 1, 1) := by decide +kernel
theorem dX7_write_48 : decode cX7_write 48 = .ok (.isub, 1) := by decide +kernel
theorem dX7_write_49 : decode cX7_write 49 = .ok (.invokevirtual 113, 3) := by decide +kernel
theorem dX7_write_52 : decode cX7_write 52 = .ok (.astore 5, 2) := by decide +kernel
theorem dX7_write_54 : decode cX7_write 54 = .ok (.aload_n 3, 1) := by decide +kernel
theorem dX7_write_55 : decode cX7_write 55 = .ok (.astore 6, 2) := by decide +kernel
theorem dX7_write_57 : decode cX7_write 57 = .ok (.aload 6, 2) := by decide +kernel
theorem dX7_write_59 : decode cX7_write 59 = .ok (.arraylength, 1) := by decide +kernel
theorem dX7_write_60 : decode cX7_write 60 = .ok (.istore 7, 2) := by decide +kernel
theorem dX7_write_62 : decode cX7_write 62 = .ok (.iconst 0, 1) := by decide +kernel
theorem dX7_write_63 : decode cX7_write 63 = .ok (.istore 8, 2) := by decide +kernel
theorem dX7_write_65 : decode cX7_write 65 = .ok (.iload 8, 2) := by decide +kernel
theorem dX7_write_67 : decode cX7_write 67 = .ok (.iload 7, 2) := by decide +kernel
theorem dX7_write_69 : decode cX7_write 69 = .ok (.if_icmp .ge 349, 3) := by decide +kernel
theorem dX7_write_72 : decode cX7_write 72 = .ok (.aload 6, 2) := by decide +kernel
theorem dX7_write_74 : decode cX7_write 74 = .ok (.iload 8, 2) := by decide +kernel
theorem dX7_write_76 : decode cX7_write 76 = .ok (.aaload, 1) := by decide +kernel
theorem dX7_write_77 : decode cX7_write 77 = .ok (.astore 9, 2) := by decide +kernel
theorem dX7_write_79 : decode cX7_write 79 = .ok (.iload_n 2, 1) := by decide +kernel
theorem dX7_write_80 : decode cX7_write 80 = .ok (.iconst 1, 1) := by decide +kernel
theorem dX7_write_81 : decode cX7_write 81 = .ok (.isub, 1) := by decide +kernel
theorem dX7_write_82 : decode cX7_write 82 = .ok (.aload 9, 2) := by decide +kernel
theorem dX7_write_84 : decode cX7_write 84 = .ok (.invokestatic 117, 3) := by decide +kernel
theorem dX7_write_87 : decode cX7_write 87 = .ok (.isub, 1) := by decide +kernel
theorem dX7_write_88 : decode cX7_write 88 = .ok (.istore 10, 2) := by decide +kernel
theorem dX7_write_90 : decode cX7_write 90 = .ok (.aload 4, 2) := by decide +kernel
theorem dX7_write_92 : decode cX7_write 92 = .ok (.astore 11, 2) := by decide +kernel
theorem dX7_write_94 : decode cX7_write 94 = .ok (.aload 11, 2) := by decide +kernel
theorem dX7_write_96 : decode cX7_write 96 = .ok (.arraylength, 1) := by decide +kernel
theorem dX7_write_97 : decode cX7_write 97 = .ok (.istore 12, 2) := by decide +kernel
theorem dX7_write_99 : decode cX7_write 99 = .ok (.iconst 0, 1) := by decide +kernel
theorem dX7_write_100 : decode cX7_write 100 = .ok (.istore 13, 2) := by decide +kernel
theorem dX7_write_102 : decode cX7_write 102 = .ok (.iload 13, 2) := by decide +kernel
theorem dX7_write_104 : decode cX7_write 104 = .ok (.iload 12, 2) := by decide +kernel
theorem dX7_write_106 : decode cX7_write 106 = .ok (.if_icmp .ge 306, 3) := by decide +kernel
theorem dX7_write_109 : decode cX7_write 109 = .ok (.aload 11, 2) := by decide +kernel
theorem dX7_write_111 : decode cX7_write 111 = .ok (.iload 13, 2) := by decide +kernel
theorem dX7_write_113 : decode cX7_write 113 = .ok (.aaload, 1) := by decide +kernel
theorem dX7_write_114 : decode cX7_write 114 = .ok (.astore 14, 2) := by decide +kernel
theorem dX7_write_116 : decode cX7_write 116 = .ok (.iload 10, 2) := by decide +kernel
theorem dX7_write_118 : decode cX7_write 118 = .ok (.aload 14, 2) := by decide +kernel
theorem dX7_write_120 : decode cX7_write 120 = .ok (.invokestatic 117, 3) := by decide +kernel
theorem dX7_write_123 : decode cX7_write 123 = .ok (.isub, 1) := by decide +kernel
theorem dX7_write_124 : decode cX7_write 124 = .ok (.istore 15, 2) := by decide +kernel
theorem dX7_write_126 : decode cX7_write 126 = .ok (.iload 15, 2) := by decide +kernel
theorem dX7_write_128 : decode cX7_write 128 = .ok (.ifCond .ge 6, 3) := by decide +kernel
theorem dX7_write_131 : decode cX7_write 131 = .ok (.goto 275, 3) := by decide +kernel
theorem dX7_write_134 : decode cX7_write 134 = .ok (.aload 5, 2) := by decide +kernel
theorem dX7_write_136 : decode cX7_write 136 = .ok (.astore 16, 2) := by decide +kernel
theorem dX7_write_138 : decode cX7_write 138 = .ok (.aload 16, 2) := by decide +kernel
theorem dX7_write_140 : decode cX7_write 140 = .ok (.arraylength, 1) := by decide +kernel
theorem dX7_write_141 : decode cX7_write 141 = .ok (.istore 17, 2) := by decide +kernel
theorem dX7_write_143 : decode cX7_write 143 = .ok (.iconst 0, 1) := by decide +kernel
theorem dX7_write_144 : decode cX7_write 144 = .ok (.istore 18, 2) := by decide +kernel
theorem dX7_write_146 : decode cX7_write 146 = .ok (.iload 18, 2) := by decide +kernel
theorem dX7_write_148 : decode cX7_write 148 = .ok (.iload 17, 2) := by decide +kernel
theorem dX7_write_150 : decode cX7_write 150 = .ok (.if_icmp .ge 256, 3) := by decide +kernel
theorem dX7_write_153 : decode cX7_write 153 = .ok (.aload 16, 2) := by decide +kernel
theorem dX7_write_155 : decode cX7_write 155 = .ok (.iload 18, 2) := by decide +kernel
theorem dX7_write_157 : decode cX7_write 157 = .ok (.aaload, 1) := by decide +kernel
theorem dX7_write_158 : decode cX7_write 158 = .ok (.astore 19, 2) := by decide +kernel
theorem dX7_write_160 : decode cX7_write 160 = .ok (.aload 19, 2) := by decide +kernel
theorem dX7_write_162 : decode cX7_write 162 = .ok (.invokestatic 117, 3) := by decide +kernel
theorem dX7_write_165 : decode cX7_write 165 = .ok (.iload 15, 2) := by decide +kernel
theorem dX7_write_167 : decode cX7_write 167 = .ok (.if_icmp .eq 6, 3) := by decide +kernel
theorem dX7_write_170 : decode cX7_write 170 = .ok (.goto 230, 3) := by decide +kernel
theorem dX7_write_173 : decode cX7_write 173 = .ok (.iconst 1, 1) := by decide +kernel
theorem dX7_write_174 : decode cX7_write 174 = .ok (.aload 9, 2) := by decide +kernel
theorem dX7_write_176 : decode cX7_write 176 = .ok (.arraylength, 1) := by decide +kernel
theorem dX7_write_177 : decode cX7_write 177 = .ok (.iadd, 1) := by decide +kernel
theorem dX7_write_178 : decode cX7_write 178 = .ok (.aload 14, 2) := by decide +kernel
theorem dX7_write_180 : decode cX7_write 180 = .ok (.arraylength, 1) := by decide +kernel
theorem dX7_write_181 : decode cX7_write 181 = .ok (.iadd, 1) := by decide +kernel
theorem dX7_write_182 : decode cX7_write 182 = .ok (.aload 19, 2) := by decide +kernel
theorem dX7_write_184 : decode cX7_write 184 = .ok (.arraylength, 1) := by decide +kernel
theorem dX7_write_185 : decode cX7_write 185 = .ok (.iadd, 1) := by decide +kernel
theorem dX7_write_186 : decode cX7_write 186 = .ok (.istore 20, 2) := by decide +kernel
theorem dX7_write_188 : decode cX7_write 188 = .ok (.aload_n 0, 1) := by decide +kernel
theorem dX7_write_189 : decode cX7_write 189 = .ok (.getfield 46, 3) := by decide +kernel
theorem dX7_write_192 : decode cX7_write 192 = .ok (.iconst 0, 1) := by decide +kernel
theorem dX7_write_193 : decode cX7_write 193 = .ok (.bipush 100, 2) := by decide +kernel
theorem dX7_write_195 : decode cX7_write 195 = .ok (.iload_n 1, 1) := by decide +kernel
theorem dX7_write_196 : decode cX7_write 196 = .ok (.iadd, 1) := by decide +kernel
theorem dX7_write_197 : decode cX7_write 197 = .ok (.iastore, 1) := by decide +kernel
theorem dX7_write_198 : decode cX7_write 198 = .ok (.aload 9, 2) := by decide +kernel
theorem dX7_write_200 : decode cX7_write 200 = .ok (.iconst 0, 1) := by decide +kernel
theorem dX7_write_201 : decode cX7_write 201 = .ok (.aload_n 0, 1) := by decide +kernel
theorem dX7_write_202 : decode cX7_write 202 = .ok (.getfield 46, 3) := by decide +kernel
theorem dX7_write_205 : decode cX7_write 205 = .ok (.iconst 1, 1) := by decide +kernel
theorem dX7_write_206 : decode cX7_write 206 = .ok (.aload 9, 2) := by decide +kernel
theorem dX7_write_208 : decode cX7_write 208 = .ok (.arraylength, 1) := by decide +kernel
theorem dX7_write_209 : decode cX7_write 209 = .ok (.invokestatic 121, 3) := by decide +kernel
theorem dX7_write_212 : decode cX7_write 212 = .ok (.aload 14, 2) := by decide +kernel
theorem dX7_write_214 : decode cX7_write 214 = .ok (.iconst 0, 1) := by decide +kernel
theorem dX7_write_215 : decode cX7_write 215 = .ok (.aload_n 0, 1) := by decide +kernel
theorem dX7_write_216 : decode cX7_write 216 = .ok (.getfield 46, 3) := by decide +kernel
theorem dX7_write_219 : decode cX7_write 219 = .ok (.iconst 1, 1) := by decide +kernel
theorem dX7_write_220 : decode cX7_write 220 = .ok (.aload 9, 2) := by decide +kernel
theorem dX7_write_222 : decode cX7_write 222 = .ok (.arraylength, 1) := by decide +kernel
theorem dX7_write_223 : decode cX7_write 223 = .ok (.iadd, 1) := by decide +kernel
theorem dX7_write_224 : decode cX7_write 224 = .ok (.aload 14, 2) := by decide +kernel
theorem dX7_write_226 : decode cX7_write 226 = .ok (.arraylength, 1) := by decide +kernel
theorem dX7_write_227 : decode cX7_write 227 = .ok (.invokestatic 121, 3) := by decide +kernel
theorem dX7_write_230 : decode cX7_write 230 = .ok (.aload 19, 2) := by decide +kernel
theorem dX7_write_232 : decode cX7_write 232 = .ok (.iconst 0, 1) := by decide +kernel
theorem dX7_write_233 : decode cX7_write 233 = .ok (.aload_n 0, 1) := by decide +kernel
theorem dX7_write_234 : decode cX7_write 234 = .ok (.getfield 46, 3) := by decide +kernel
theorem dX7_write_237 : decode cX7_write 237 = .ok (.iconst 1, 1) := by decide +kernel
theorem dX7_write_238 : decode cX7_write 238 = .ok (.aload 9, 2) := by decide +kernel
theorem dX7_write_240 : decode cX7_write 240 = .ok (.arraylength, 1) := by decide +kernel
theorem dX7_write_241 : decode cX7_write 241 = .ok (.iadd, 1) := by decide +kernel
theorem dX7_write_242 : decode cX7_write 242 = .ok (.aload 14, 2) := by decide +kernel
theorem dX7_write_244 : decode cX7_write 244 = .ok (.arraylength, 1) := by decide +kernel
theorem dX7_write_245 : decode cX7_write 245 = .ok (.iadd, 1) := by decide +kernel
theorem dX7_write_246 : decode cX7_write 246 = .ok (.aload 19, 2) := by decide +kernel
theorem dX7_write_248 : decode cX7_write 248 = .ok (.arraylength, 1) := by decide +kernel
theorem dX7_write_249 : decode cX7_write 249 = .ok (.invokestatic 121, 3) := by decide +kernel
theorem dX7_write_252 : decode cX7_write 252 = .ok (.aload_n 0, 1) := by decide +kernel
theorem dX7_write_253 : decode cX7_write 253 = .ok (.aload_n 0, 1) := by decide +kernel
theorem dX7_write_254 : decode cX7_write 254 = .ok (.getfield 46, 3) := by decide +kernel
theorem dX7_write_257 : decode cX7_write 257 = .ok (.iload 20, 2) := by decide +kernel
theorem dX7_write_259 : decode cX7_write 259 = .ok (.iconst 0, 1) := by decide +kernel
theorem dX7_write_260 : decode cX7_write 260 = .ok (.aload_n 0, 1) := by decide +kernel
theorem dX7_write_261 : decode cX7_write 261 = .ok (.getfield 13, 3) := by decide +kernel
theorem dX7_write_264 : decode cX7_write 264 = .ok (.iload_n 1, 1) := by decide +kernel
theorem dX7_write_265 : decode cX7_write 265 = .ok (.iaload, 1) := by decide +kernel
theorem dX7_write_266 : decode cX7_write 266 = .ok (.invokevirtual 83, 3) := by decide +kernel
theorem dX7_write_269 : decode cX7_write 269 = .ok (.iconst (-1), 1) := by decide +kernel
theorem dX7_write_270 : decode cX7_write 270 = .ok (.if_icmp .ne 6, 3) := by decide +kernel
theorem dX7_write_273 : decode cX7_write 273 = .ok (.goto 127, 3) := by decide +kernel
theorem dX7_write_276 : decode cX7_write 276 = .ok (.aload_n 0, 1) := by decide +kernel
theorem dX7_write_277 : decode cX7_write 277 = .ok (.getfield 127, 3) := by decide +kernel
theorem dX7_write_280 : decode cX7_write 280 = .ok (.sipush 300, 3) := by decide +kernel
theorem dX7_write_283 : decode cX7_write 283 = .ok (.if_icmp .ne 5, 3) := by decide +kernel
theorem dX7_write_286 : decode cX7_write 286 = .ok (.iconst 0, 1) := by decide +kernel
theorem dX7_write_287 : decode cX7_write 287 = .ok (.ireturn, 1) := by decide +kernel
theorem dX7_write_288 : decode cX7_write 288 = .ok (.aload_n 0, 1) := by decide +kernel
theorem dX7_write_289 : decode cX7_write 289 = .ok (.getfield 30, 3) := by decide +kernel
theorem dX7_write_292 : decode cX7_write 292 = .ok (.aload_n 0, 1) := by decide +kernel
theorem dX7_write_293 : decode cX7_write 293 = .ok (.getfield 127, 3) := by decide +kernel
theorem dX7_write_296 : decode cX7_write 296 = .ok (.iload 20, 2) := by decide +kernel
theorem dX7_write_298 : decode cX7_write 298 = .ok (.newarray .int, 2) := by decide +kernel
theorem dX7_write_300 : decode cX7_write 300 = .ok (.aastore, 1) := by decide +kernel
theorem dX7_write_301 : decode cX7_write 301 = .ok (.aload_n 0, 1) := by decide +kernel
theorem dX7_write_302 : decode cX7_write 302 = .ok (.getfield 46, 3) := by decide +kernel
theorem dX7_write_305 : decode cX7_write 305 = .ok (.iconst 0, 1) := by decide +kernel
theorem dX7_write_306 : decode cX7_write 306 = .ok (.aload_n 0, 1) := by decide +kernel
theorem dX7_write_307 : decode cX7_write 307 = .ok (.getfield 30, 3) := by decide +kernel
theorem dX7_write_310 : decode cX7_write 310 = .ok (.aload_n 0, 1) := by decide +kernel
theorem dX7_write_311 : decode cX7_write 311 = .ok (.getfield 127, 3) := by decide +kernel
theorem dX7_write_314 : decode cX7_write 314 = .ok (.aaload, 1) := by decide +kernel
theorem dX7_write_315 : decode cX7_write 315 = .ok (.iconst 0, 1) := by decide +kernel
theorem dX7_write_316 : decode cX7_write 316 = .ok (.iload 20, 2) := by decide +kernel
theorem dX7_write_318 : decode cX7_write 318 = .ok (.invokestatic 121, 3) := by decide +kernel
theorem dX7_write_321 : decode cX7_write 321 = .ok (.aload_n 0, 1) := by decide +kernel
theorem dX7_write_322 : decode cX7_write 322 = .ok (.getfield 34, 3) := by decide +kernel
theorem dX7_write_325 : decode cX7_write 325 = .ok (.aload_n 0, 1) := by decide +kernel
theorem dX7_write_326 : decode cX7_write 326 = .ok (.getfield 127, 3) := by decide +kernel
theorem dX7_write_329 : decode cX7_write 329 = .ok (.iload_n 2, 1) := by decide +kernel
theorem dX7_write_330 : decode cX7_write 330 = .ok (.iastore, 1) := by decide +kernel
theorem dX7_write_331 : decode cX7_write 331 = .ok (.aload_n 0, 1) := by decide +kernel
theorem dX7_write_332 : decode cX7_write 332 = .ok (.getfield 37, 3) := by decide +kernel
theorem dX7_write_335 : decode cX7_write 335 = .ok (.aload_n 0, 1) := by decide +kernel
theorem dX7_write_336 : decode cX7_write 336 = .ok (.getfield 127, 3) := by decide +kernel
theorem dX7_write_339 : decode cX7_write 339 = .ok (.aload_n 0, 1) := by decide +kernel
theorem dX7_write_340 : decode cX7_write 340 = .ok (.getfield 90, 3) := by decide +kernel
theorem dX7_write_343 : decode cX7_write 343 = .ok (.iastore, 1) := by decide +kernel
theorem dX7_write_344 : decode cX7_write 344 = .ok (.aload_n 0, 1) := by decide +kernel
theorem dX7_write_345 : decode cX7_write 345 = .ok (.getfield 43, 3) := by decide +kernel
theorem dX7_write_348 : decode cX7_write 348 = .ok (.sipush 300, 3) := by decide +kernel
theorem dX7_write_351 : decode cX7_write 351 = .ok (.aload_n 0, 1) := by decide +kernel
theorem dX7_write_352 : decode cX7_write 352 = .ok (.getfield 13, 3) := by decide +kernel
theorem dX7_write_355 : decode cX7_write 355 = .ok (.iload_n 1, 1) := by decide +kernel
theorem dX7_write_356 : decode cX7_write 356 = .ok (.iaload, 1) := by decide +kernel
theorem dX7_write_357 : decode cX7_write 357 = .ok (.imul, 1) := by decide +kernel
theorem dX7_write_358 : decode cX7_write 358 = .ok (.aload_n 0, 1) := by decide +kernel
theorem dX7_write_359 : decode cX7_write 359 = .ok (.getfield 40, 3) := by decide +kernel
theorem dX7_write_362 : decode cX7_write 362 = .ok (.aload_n 0, 1) := by decide +kernel
theorem dX7_write_363 : decode cX7_write 363 = .ok (.getfield 13, 3) := by decide +kernel
theorem dX7_write_366 : decode cX7_write 366 = .ok (.iload_n 1, 1) := by decide +kernel
theorem dX7_write_367 : decode cX7_write 367 = .ok (.iaload, 1) := by decide +kernel
theorem dX7_write_368 : decode cX7_write 368 = .ok (.iaload, 1) := by decide +kernel
theorem dX7_write_369 : decode cX7_write 369 = .ok (.iadd, 1) := by decide +kernel
theorem dX7_write_370 : decode cX7_write 370 = .ok (.aload_n 0, 1) := by decide +kernel
theorem dX7_write_371 : decode cX7_write 371 = .ok (.getfield 127, 3) := by decide +kernel
theorem dX7_write_374 : decode cX7_write 374 = .ok (.iastore, 1) := by decide +kernel
theorem dX7_write_375 : decode cX7_write 375 = .ok (.aload_n 0, 1) := by decide +kernel
theorem dX7_write_376 : decode cX7_write 376 = .ok (.getfield 40, 3) := by decide +kernel
theorem dX7_write_379 : decode cX7_write 379 = .ok (.aload_n 0, 1) := by decide +kernel
theorem dX7_write_380 : decode cX7_write 380 = .ok (.getfield 13, 3) := by decide +kernel
theorem dX7_write_383 : decode cX7_write 383 = .ok (.iload_n 1, 1) := by decide +kernel
theorem dX7_write_384 : decode cX7_write 384 = .ok (.iaload, 1) := by decide +kernel
theorem dX7_write_385 : decode cX7_write 385 = .ok (.dup2, 1) := by decide +kernel
theorem dX7_write_386 : decode cX7_write 386 = .ok (.iaload, 1) := by decide +kernel
theorem dX7_write_387 : decode cX7_write 387 = .ok (.iconst 1, 1) := by decide +kernel
theorem dX7_write_388 : decode cX7_write 388 = .ok (.iadd, 1) := by decide +kernel
theorem dX7_write_389 : decode cX7_write 389 = .ok (.iastore, 1) := by decide +kernel
theorem dX7_write_390 : decode cX7_write 390 = .ok (.aload_n 0, 1) := by decide +kernel
theorem dX7_write_391 : decode cX7_write 391 = .ok (.dup, 1) := by decide +kernel
theorem dX7_write_392 : decode cX7_write 392 = .ok (.getfield 127, 3) := by decide +kernel
theorem dX7_write_395 : decode cX7_write 395 = .ok (.iconst 1, 1) := by decide +kernel
theorem dX7_write_396 : decode cX7_write 396 = .ok (.iadd, 1) := by decide +kernel
theorem dX7_write_397 : decode cX7_write 397 = .ok (.putfield 127, 3) := by decide +kernel
theorem dX7_write_400 : decode cX7_write 400 = .ok (.iinc 18 1, 3) := by decide +kernel
theorem dX7_write_403 : decode cX7_write 403 = .ok (.goto (-257), 3) := by decide +kernel
theorem dX7_write_406 : decode cX7_write 406 = .ok (.iinc 13 1, 3) := by decide +kernel
theorem dX7_write_409 : decode cX7_write 409 = .ok (.goto (-307), 3) := by decide +kernel
theorem dX7_write_412 : decode cX7_write 412 = .ok (.iinc 8 1, 3) := by decide +kernel
theorem dX7_write_415 : decode cX7_write 415 = .ok (.goto (-350), 3) := by decide +kernel
theorem dX7_write_418 : decode cX7_write 418 = .ok (.iconst 1, 1) := by decide +kernel
theorem dX7_write_419 : decode cX7_write 419 = .ok (.ireturn, 1) := by decide +kernel
theorem dX7_make_0 : decode cX7_make 0 = .ok (.aload_n 0, 1) := by decide +kernel
theorem dX7_make_1 : decode cX7_make 1 = .ok (.getfield 62, 3) := by decide +kernel
theorem dX7_make_4 : decode cX7_make 4 = .ok (.ifCond .eq 4, 3) := by decide +kernel
theorem dX7_make_7 : decode cX7_make 7 = .ok (.return_, 1) := by decide +kernel
theorem dX7_make_8 : decode cX7_make 8 = .ok (.aload_n 0, 1) := by decide +kernel
theorem dX7_make_9 : decode cX7_make 9 = .ok (.iconst 1, 1) := by decide +kernel
theorem dX7_make_10 : decode cX7_make 10 = .ok (.putfield 62, 3) := by decide +kernel
theorem dX7_make_13 : decode cX7_make 13 = .ok (.aload_n 0, 1) := by decide +kernel
theorem dX7_make_14 : decode cX7_make 14 = .ok (.iconst 0, 1) := by decide +kernel
theorem dX7_make_15 : decode cX7_make 15 = .ok (.putfield 130, 3) := by decide +kernel
theorem dX7_make_18 : decode cX7_make 18 = .ok (.aload_n 0, 1) := by decide +kernel
theorem dX7_make_19 : decode cX7_make 19 = .ok (.iconst 0, 1) := by decide +kernel
theorem dX7_make_20 : decode cX7_make 20 = .ok (.putfield 127, 3) := by decide +kernel
theorem dX7_make_23 : decode cX7_make 23 = .ok (.iconst 0, 1) := by decide +kernel
theorem dX7_make_24 : decode cX7_make 24 = .ok (.istore_n 1, 1) := by decide +kernel
theorem dX7_make_25 : decode cX7_make 25 = .ok (.iload_n 1, 1) := by decide +kernel
theorem dX7_make_26 : decode cX7_make 26 = .ok (.iconst 4, 1) := by decide +kernel
theorem dX7_make_27 : decode cX7_make 27 = .ok (.if_icmp .ge 16, 3) := by decide +kernel
theorem dX7_make_30 : decode cX7_make 30 = .ok (.aload_n 0, 1) := by decide +kernel
theorem dX7_make_31 : decode cX7_make 31 = .ok (.getfield 40, 3) := by decide +kernel
theorem dX7_make_34 : decode cX7_make 34 = .ok (.iload_n 1, 1) := by decide +kernel
theorem dX7_make_35 : decode cX7_make 35 = .ok (.iconst 0, 1) := by decide +kernel
theorem dX7_make_36 : decode cX7_make 36 = .ok (.iastore, 1) := by decide +kernel
theorem dX7_make_37 : decode cX7_make 37 = .ok (.iinc 1 1, 3) := by decide +kernel
theorem dX7_make_40 : decode cX7_make 40 = .ok (.goto (-15), 3) := by decide +kernel
theorem dX7_make_43 : decode cX7_make 43 = .ok (.iconst 1, 1) := by decide +kernel
theorem dX7_make_44 : decode cX7_make 44 = .ok (.istore_n 1, 1) := by decide +kernel
theorem dX7_make_45 : decode cX7_make 45 = .ok (.iload_n 1, 1) := by decide +kernel
theorem dX7_make_46 : decode cX7_make 46 = .ok (.ifCond .eq 129, 3) := by decide +kernel
theorem dX7_make_49 : decode cX7_make 49 = .ok (.aload_n 0, 1) := by decide +kernel
theorem dX7_make_50 : decode cX7_make 50 = .ok (.getfield 130, 3) := by decide +kernel
theorem dX7_make_53 : decode cX7_make 53 = .ok (.bipush 8, 2) := by decide +kernel
theorem dX7_make_55 : decode cX7_make 55 = .ok (.if_icmp .ge 120, 3) := by decide +kernel
theorem dX7_make_58 : decode cX7_make 58 = .ok (.iconst 4, 1) := by decide +kernel
theorem dX7_make_59 : decode cX7_make 59 = .ok (.newarray .int, 2) := by decide +kernel
theorem dX7_make_61 : decode cX7_make 61 = .ok (.astore_n 2, 1) := by decide +kernel
theorem dX7_make_62 : decode cX7_make 62 = .ok (.iconst 0, 1) := by decide +kernel
theorem dX7_make_63 : decode cX7_make 63 = .ok (.istore_n 3, 1) := by decide +kernel
theorem dX7_make_64 : decode cX7_make 64 = .ok (.iload_n 3, 1) := by decide +kernel
theorem dX7_make_65 : decode cX7_make 65 = .ok (.iconst 4, 1) := by decide +kernel
theorem dX7_make_66 : decode cX7_make 66 = .ok (.if_icmp .ge 18, 3) := by decide +kernel
theorem dX7_make_69 : decode cX7_make 69 = .ok (.aload_n 2, 1) := by decide +kernel
theorem dX7_make_70 : decode cX7_make 70 = .ok (.iload_n 3, 1) := by decide +kernel
theorem dX7_make_71 : decode cX7_make 71 = .ok (.aload_n 0, 1) := by decide +kernel
theorem dX7_make_72 : decode cX7_make 72 = .ok (.getfield 40, 3) := by decide +kernel
theorem dX7_make_75 : decode cX7_make 75 = .ok (.iload_n 3, 1) := by decide +kernel
theorem dX7_make_76 : decode cX7_make 76 = .ok (.iaload, 1) := by decide +kernel
theorem dX7_make_77 : decode cX7_make 77 = .ok (.iastore, 1) := by decide +kernel
theorem dX7_make_78 : decode cX7_make 78 = .ok (.iinc 3 1, 3) := by decide +kernel
theorem dX7_make_81 : decode cX7_make 81 = .ok (.goto (-17), 3) := by decide +kernel
theorem dX7_make_84 : decode cX7_make 84 = .ok (.aload_n 0, 1) := by decide +kernel
theorem dX7_make_85 : decode cX7_make 85 = .ok (.getfield 127, 3) := by decide +kernel
theorem dX7_make_88 : decode cX7_make 88 = .ok (.istore_n 3, 1) := by decide +kernel
theorem dX7_make_89 : decode cX7_make 89 = .ok (.iconst 0, 1) := by decide +kernel
theorem dX7_make_90 : decode cX7_make 90 = .ok (.istore 4, 2) := by decide +kernel
theorem dX7_make_92 : decode cX7_make 92 = .ok (.iload 4, 2) := by decide +kernel
theorem dX7_make_94 : decode cX7_make 94 = .ok (.aload_n 0, 1) := by decide +kernel
theorem dX7_make_95 : decode cX7_make 95 = .ok (.getfield 80, 3) := by decide +kernel
theorem dX7_make_98 : decode cX7_make 98 = .ok (.if_icmp .ge 26, 3) := by decide +kernel
theorem dX7_make_101 : decode cX7_make 101 = .ok (.iload_n 1, 1) := by decide +kernel
theorem dX7_make_102 : decode cX7_make 102 = .ok (.ifCond .eq 22, 3) := by decide +kernel
theorem dX7_make_105 : decode cX7_make 105 = .ok (.aload_n 0, 1) := by decide +kernel
theorem dX7_make_106 : decode cX7_make 106 = .ok (.iload 4, 2) := by decide +kernel
theorem dX7_make_108 : decode cX7_make 108 = .ok (.aload_n 0, 1) := by decide +kernel
theorem dX7_make_109 : decode cX7_make 109 = .ok (.getfield 130, 3) := by decide +kernel
theorem dX7_make_112 : decode cX7_make 112 = .ok (.iconst 1, 1) := by decide +kernel
theorem dX7_make_113 : decode cX7_make 113 = .ok (.iadd, 1) := by decide +kernel
theorem dX7_make_114 : decode cX7_make 114 = .ok (.invokevirtual 133, 3) := by decide +kernel
theorem dX7_make_117 : decode cX7_make 117 = .ok (.istore_n 1, 1) := by decide +kernel
theorem dX7_make_118 : decode cX7_make 118 = .ok (.iinc 4 1, 3) := by decide +kernel
theorem dX7_make_121 : decode cX7_make 121 = .ok (.goto (-29), 3) := by decide +kernel
theorem dX7_make_124 : decode cX7_make 124 = .ok (.iload_n 1, 1) := by decide +kernel
theorem dX7_make_125 : decode cX7_make 125 = .ok (.ifCond .eq 16, 3) := by decide +kernel
theorem dX7_make_128 : decode cX7_make 128 = .ok (.aload_n 0, 1) := by decide +kernel
theorem dX7_make_129 : decode cX7_make 129 = .ok (.dup, 1) := by decide +kernel
theorem dX7_make_130 : decode cX7_make 130 = .ok (.getfield 130, 3) := by decide +kernel
theorem dX7_make_133 : decode cX7_make 133 = .ok (.iconst 1, 1) := by decide +kernel
theorem dX7_make_134 : decode cX7_make 134 = .ok (.iadd, 1) := by decide +kernel
theorem dX7_make_135 : decode cX7_make 135 = .ok (.putfield 130, 3) := by decide +kernel
theorem dX7_make_138 : decode cX7_make 138 = .ok (.goto 34, 3) := by decide +kernel
theorem dX7_make_141 : decode cX7_make 141 = .ok (.aload_n 0, 1) := by decide +kernel
theorem dX7_make_142 : decode cX7_make 142 = .ok (.iload_n 3, 1) := by decide +kernel
theorem dX7_make_143 : decode cX7_make 143 = .ok (.putfield 127, 3) := by decide +kernel
theorem dX7_make_146 : decode cX7_make 146 = .ok (.iconst 0, 1) := by decide +kernel
theorem dX7_make_147 : decode cX7_make 147 = .ok (.istore 4, 2) := by decide +kernel
theorem dX7_make_149 : decode cX7_make 149 = .ok (.iload 4, 2) := by decide +kernel
theorem dX7_make_151 : decode cX7_make 151 = .ok (.iconst 4, 1) := by decide +kernel
theorem dX7_make_152 : decode cX7_make 152 = .ok (.if_icmp .ge 20, 3) := by decide +kernel
theorem dX7_make_155 : decode cX7_make 155 = .ok (.aload_n 0, 1) := by decide +kernel
theorem dX7_make_156 : decode cX7_make 156 = .ok (.getfield 40, 3) := by decide +kernel
theorem dX7_make_159 : decode cX7_make 159 = .ok (.iload 4, 2) := by decide +kernel
theorem dX7_make_161 : decode cX7_make 161 = .ok (.aload_n 2, 1) := by decide +kernel
theorem dX7_make_162 : decode cX7_make 162 = .ok (.iload 4, 2) := by decide +kernel
theorem dX7_make_164 : decode cX7_make 164 = .ok (.iaload, 1) := by decide +kernel
theorem dX7_make_165 : decode cX7_make 165 = .ok (.iastore, 1) := by decide +kernel
theorem dX7_make_166 : decode cX7_make 166 = .ok (.iinc 4 1, 3) := by decide +kernel
theorem dX7_make_169 : decode cX7_make 169 = .ok (.goto (-20), 3) := by decide +kernel
theorem dX7_make_172 : decode cX7_make 172 = .ok (.goto (-127), 3) := by decide +kernel
theorem dX7_make_175 : decode cX7_make 175 = .ok (.return_, 1) := by decide +kernel
theorem dX7_horizon_0 : decode cX7_horizon 0 = .ok (.aload_n 0, 1) := by decide +kernel
theorem dX7_horizon_1 : decode cX7_horizon 1 = .ok (.iconst 0, 1) := by decide +kernel
theorem dX7_horizon_2 : decode cX7_horizon 2 = .ok (.putfield 52, 3) := by decide +kernel
theorem dX7_horizon_5 : decode cX7_horizon 5 = .ok (.aload_n 0, 1) := by decide +kernel
theorem dX7_horizon_6 : decode cX7_horizon 6 = .ok (.invokevirtual 137, 3) := by decide +kernel
theorem dX7_horizon_9 : decode cX7_horizon 9 = .ok (.aload_n 0, 1) := by decide +kernel
theorem dX7_horizon_10 : decode cX7_horizon 10 = .ok (.getfield 130, 3) := by decide +kernel
theorem dX7_horizon_13 : decode cX7_horizon 13 = .ok (.ireturn, 1) := by decide +kernel
theorem dX7_asks_0 : decode cX7_asks 0 = .ok (.aload_n 0, 1) := by decide +kernel
theorem dX7_asks_1 : decode cX7_asks 1 = .ok (.aload_n 0, 1) := by decide +kernel
theorem dX7_asks_2 : decode cX7_asks 2 = .ok (.iload_n 1, 1) := by decide +kernel
theorem dX7_asks_3 : decode cX7_asks 3 = .ok (.invokevirtual 76, 3) := by decide +kernel
theorem dX7_asks_6 : decode cX7_asks 6 = .ok (.ifCond .ne 7, 3) := by decide +kernel
theorem dX7_asks_9 : decode cX7_asks 9 = .ok (.iconst 1, 1) := by decide +kernel
theorem dX7_asks_10 : decode cX7_asks 10 = .ok (.goto 18, 3) := by decide +kernel
theorem dX7_asks_13 : decode cX7_asks 13 = .ok (.iload_n 2, 1) := by decide +kernel
theorem dX7_asks_14 : decode cX7_asks 14 = .ok (.iconst 1, 1) := by decide +kernel
theorem dX7_asks_15 : decode cX7_asks 15 = .ok (.bipush 8, 2) := by decide +kernel
theorem dX7_asks_17 : decode cX7_asks 17 = .ok (.invokestatic 58, 3) := by decide +kernel
theorem dX7_asks_20 : decode cX7_asks 20 = .ok (.ifCond .ne 7, 3) := by decide +kernel
theorem dX7_asks_23 : decode cX7_asks 23 = .ok (.iconst 2, 1) := by decide +kernel
theorem dX7_asks_24 : decode cX7_asks 24 = .ok (.goto 4, 3) := by decide +kernel
theorem dX7_asks_27 : decode cX7_asks 27 = .ok (.iconst 0, 1) := by decide +kernel
theorem dX7_asks_28 : decode cX7_asks 28 = .ok (.putfield 52, 3) := by decide +kernel
theorem dX7_asks_31 : decode cX7_asks 31 = .ok (.aload_n 0, 1) := by decide +kernel
theorem dX7_asks_32 : decode cX7_asks 32 = .ok (.getfield 52, 3) := by decide +kernel
theorem dX7_asks_35 : decode cX7_asks 35 = .ok (.ifCond .eq 5, 3) := by decide +kernel
theorem dX7_asks_38 : decode cX7_asks 38 = .ok (.iconst 0, 1) := by decide +kernel
theorem dX7_asks_39 : decode cX7_asks 39 = .ok (.ireturn, 1) := by decide +kernel
theorem dX7_asks_40 : decode cX7_asks 40 = .ok (.aload_n 0, 1) := by decide +kernel
theorem dX7_asks_41 : decode cX7_asks 41 = .ok (.invokevirtual 137, 3) := by decide +kernel
theorem dX7_asks_44 : decode cX7_asks 44 = .ok (.iload_n 2, 1) := by decide +kernel
theorem dX7_asks_45 : decode cX7_asks 45 = .ok (.aload_n 0, 1) := by decide +kernel
theorem dX7_asks_46 : decode cX7_asks 46 = .ok (.getfield 130, 3) := by decide +kernel
theorem dX7_asks_49 : decode cX7_asks 49 = .ok (.if_icmp .le 8, 3) := by decide +kernel
theorem dX7_asks_52 : decode cX7_asks 52 = .ok (.aload_n 0, 1) := by decide +kernel
theorem dX7_asks_53 : decode cX7_asks 53 = .ok (.iconst 3, 1) := by decide +kernel
theorem dX7_asks_54 : decode cX7_asks 54 = .ok (.putfield 52, 3) := by decide +kernel
theorem dX7_asks_57 : decode cX7_asks 57 = .ok (.aload_n 0, 1) := by decide +kernel
theorem dX7_asks_58 : decode cX7_asks 58 = .ok (.getfield 52, 3) := by decide +kernel
theorem dX7_asks_61 : decode cX7_asks 61 = .ok (.ifCond .ne 7, 3) := by decide +kernel
theorem dX7_asks_64 : decode cX7_asks 64 = .ok (.iconst 1, 1) := by decide +kernel
theorem dX7_asks_65 : decode cX7_asks 65 = .ok (.goto 4, 3) := by decide +kernel
theorem dX7_asks_68 : decode cX7_asks 68 = .ok (.iconst 0, 1) := by decide +kernel
theorem dX7_asks_69 : decode cX7_asks 69 = .ok (.ireturn, 1) := by decide +kernel
theorem dX7_upTo_0 : decode cX7_upTo 0 = .ok (.iconst 0, 1) := by decide +kernel
theorem dX7_upTo_1 : decode cX7_upTo 1 = .ok (.istore_n 3, 1) := by decide +kernel
theorem dX7_upTo_2 : decode cX7_upTo 2 = .ok (.iconst 0, 1) := by decide +kernel
theorem dX7_upTo_3 : decode cX7_upTo 3 = .ok (.istore 4, 2) := by decide +kernel
theorem dX7_upTo_5 : decode cX7_upTo 5 = .ok (.iload 4, 2) := by decide +kernel
theorem dX7_upTo_7 : decode cX7_upTo 7 = .ok (.aload_n 0, 1) := by decide +kernel
theorem dX7_upTo_8 : decode cX7_upTo 8 = .ok (.getfield 40, 3) := by decide +kernel
theorem dX7_upTo_11 : decode cX7_upTo 11 = .ok (.iload_n 1, 1) := by decide +kernel
theorem dX7_upTo_12 : decode cX7_upTo 12 = .ok (.iaload, 1) := by decide +kernel
theorem dX7_upTo_13 : decode cX7_upTo 13 = .ok (.if_icmp .ge 33, 3) := by decide +kernel
theorem dX7_upTo_16 : decode cX7_upTo 16 = .ok (.iload_n 3, 1) := by decide +kernel
theorem dX7_upTo_17 : decode cX7_upTo 17 = .ok (.aload_n 0, 1) := by decide +kernel
theorem dX7_upTo_18 : decode cX7_upTo 18 = .ok (.getfield 34, 3) := by decide +kernel
theorem dX7_upTo_21 : decode cX7_upTo 21 = .ok (.aload_n 0, 1) := by decide +kernel
theorem dX7_upTo_22 : decode cX7_upTo 22 = .ok (.iload_n 1, 1) := by decide +kernel
theorem dX7_upTo_23 : decode cX7_upTo 23 = .ok (.iload 4, 2) := by decide +kernel
theorem dX7_upTo_25 : decode cX7_upTo 25 = .ok (.invokevirtual 110, 3) := by decide +kernel
theorem dX7_upTo_28 : decode cX7_upTo 28 = .ok (.iaload, 1) := by decide +kernel
theorem dX7_upTo_29 : decode cX7_upTo 29 = .ok (.iload_n 2, 1) := by decide +kernel
theorem dX7_upTo_30 : decode cX7_upTo 30 = .ok (.if_icmp .gt 7, 3) := by decide +kernel
theorem dX7_upTo_33 : decode cX7_upTo 33 = .ok (.iconst 1, 1) := by decide +kernel
theorem dX7_upTo_34 : decode cX7_upTo 34 = .ok (.goto 4, 3) := by decide +kernel
theorem dX7_upTo_37 : decode cX7_upTo 37 = .ok (.iconst 0, 1) := by decide +kernel
theorem dX7_upTo_38 : decode cX7_upTo 38 = .ok (.iadd, 1) := by decide +kernel
theorem dX7_upTo_39 : decode cX7_upTo 39 = .ok (.istore_n 3, 1) := by decide +kernel
theorem dX7_upTo_40 : decode cX7_upTo 40 = .ok (.iinc 4 1, 3) := by decide +kernel
theorem dX7_upTo_43 : decode cX7_upTo 43 = .ok (.goto (-38), 3) := by decide +kernel
theorem dX7_upTo_46 : decode cX7_upTo 46 = .ok (.iload_n 3, 1) := by decide +kernel
theorem dX7_upTo_47 : decode cX7_upTo 47 = .ok (.ireturn, 1) := by decide +kernel
theorem dX7_count_0 : decode cX7_count 0 = .ok (.aload_n 0, 1) := by decide +kernel
theorem dX7_count_1 : decode cX7_count 1 = .ok (.iload_n 1, 1) := by decide +kernel
theorem dX7_count_2 : decode cX7_count 2 = .ok (.iload_n 2, 1) := by decide +kernel
theorem dX7_count_3 : decode cX7_count 3 = .ok (.invokevirtual 140, 3) := by decide +kernel
theorem dX7_count_6 : decode cX7_count 6 = .ok (.ifCond .eq 21, 3) := by decide +kernel
theorem dX7_count_9 : decode cX7_count 9 = .ok (.aload_n 0, 1) := by decide +kernel
theorem dX7_count_10 : decode cX7_count 10 = .ok (.iload_n 1, 1) := by decide +kernel
theorem dX7_count_11 : decode cX7_count 11 = .ok (.iload_n 2, 1) := by decide +kernel
theorem dX7_count_12 : decode cX7_count 12 = .ok (.invokevirtual 143, 3) := by decide +kernel
theorem dX7_count_15 : decode cX7_count 15 = .ok (.aload_n 0, 1) := by decide +kernel
theorem dX7_count_16 : decode cX7_count 16 = .ok (.iload_n 1, 1) := by decide +kernel
theorem dX7_count_17 : decode cX7_count 17 = .ok (.iload_n 2, 1) := by decide +kernel
theorem dX7_count_18 : decode cX7_count 18 = .ok (.iconst 1, 1) := by decide +kernel
theorem dX7_count_19 : decode cX7_count 19 = .ok (.isub, 1) := by decide +kernel
theorem dX7_count_20 : decode cX7_count 20 = .ok (.invokevirtual 143, 3) := by decide +kernel
theorem dX7_count_23 : decode cX7_count 23 = .ok (.isub, 1) := by decide +kernel
theorem dX7_count_24 : decode cX7_count 24 = .ok (.goto 4, 3) := by decide +kernel
theorem dX7_count_27 : decode cX7_count 27 = .ok (.iconst 0, 1) := by decide +kernel
theorem dX7_count_28 : decode cX7_count 28 = .ok (.ireturn, 1) := by decide +kernel
theorem dX7_total_0 : decode cX7_total 0 = .ok (.aload_n 0, 1) := by decide +kernel
theorem dX7_total_1 : decode cX7_total 1 = .ok (.iload_n 1, 1) := by decide +kernel
theorem dX7_total_2 : decode cX7_total 2 = .ok (.iload_n 2, 1) := by decide +kernel
theorem dX7_total_3 : decode cX7_total 3 = .ok (.invokevirtual 140, 3) := by decide +kernel
theorem dX7_total_6 : decode cX7_total 6 = .ok (.ifCond .eq 12, 3) := by decide +kernel
theorem dX7_total_9 : decode cX7_total 9 = .ok (.aload_n 0, 1) := by decide +kernel
theorem dX7_total_10 : decode cX7_total 10 = .ok (.iload_n 1, 1) := by decide +kernel
theorem dX7_total_11 : decode cX7_total 11 = .ok (.iload_n 2, 1) := by decide +kernel
theorem dX7_total_12 : decode cX7_total 12 = .ok (.invokevirtual 143, 3) := by decide +kernel
theorem dX7_total_15 : decode cX7_total 15 = .ok (.goto 4, 3) := by decide +kernel
theorem dX7_total_18 : decode cX7_total 18 = .ok (.iconst 0, 1) := by decide +kernel
theorem dX7_total_19 : decode cX7_total 19 = .ok (.ireturn, 1) := by decide +kernel
theorem dX7_isTrueOf_0 : decode cX7_isTrueOf 0 = .ok (.aload_n 0, 1) := by decide +kernel
theorem dX7_isTrueOf_1 : decode cX7_isTrueOf 1 = .ok (.getfield 30, 3) := by decide +kernel
theorem dX7_isTrueOf_4 : decode cX7_isTrueOf 4 = .ok (.iload_n 1, 1) := by decide +kernel
theorem dX7_isTrueOf_5 : decode cX7_isTrueOf 5 = .ok (.aaload, 1) := by decide +kernel
theorem dX7_isTrueOf_6 : decode cX7_isTrueOf 6 = .ok (.astore_n 3, 1) := by decide +kernel
theorem dX7_isTrueOf_7 : decode cX7_isTrueOf 7 = .ok (.aload_n 3, 1) := by decide +kernel
theorem dX7_isTrueOf_8 : decode cX7_isTrueOf 8 = .ok (.iconst 0, 1) := by decide +kernel
theorem dX7_isTrueOf_9 : decode cX7_isTrueOf 9 = .ok (.iaload, 1) := by decide +kernel
theorem dX7_isTrueOf_10 : decode cX7_isTrueOf 10 = .ok (.bipush 100, 2) := by decide +kernel
theorem dX7_isTrueOf_12 : decode cX7_isTrueOf 12 = .ok (.isub, 1) := by decide +kernel
theorem dX7_isTrueOf_13 : decode cX7_isTrueOf 13 = .ok (.istore 4, 2) := by decide +kernel
theorem dX7_isTrueOf_15 : decode cX7_isTrueOf 15 = .ok (.iconst 1, 1) := by decide +kernel
theorem dX7_isTrueOf_16 : decode cX7_isTrueOf 16 = .ok (.istore 5, 2) := by decide +kernel
theorem dX7_isTrueOf_18 : decode cX7_isTrueOf 18 = .ok (.bipush 8, 2) := by decide +kernel
theorem dX7_isTrueOf_20 : decode cX7_isTrueOf 20 = .ok (.istore 6, 2) := by decide +kernel
theorem dX7_isTrueOf_22 : decode cX7_isTrueOf 22 = .ok (.iconst 0, 1) := by decide +kernel
theorem dX7_isTrueOf_23 : decode cX7_isTrueOf 23 = .ok (.istore 7, 2) := by decide +kernel
theorem dX7_isTrueOf_25 : decode cX7_isTrueOf 25 = .ok (.iconst 0, 1) := by decide +kernel
theorem dX7_isTrueOf_26 : decode cX7_isTrueOf 26 = .ok (.istore 8, 2) := by decide +kernel
theorem dX7_isTrueOf_28 : decode cX7_isTrueOf 28 = .ok (.iload 8, 2) := by decide +kernel
theorem dX7_isTrueOf_30 : decode cX7_isTrueOf 30 = .ok (.iconst 3, 1) := by decide +kernel
theorem dX7_isTrueOf_31 : decode cX7_isTrueOf 31 = .ok (.if_icmp .ge 87, 3) := by decide +kernel
theorem dX7_isTrueOf_34 : decode cX7_isTrueOf 34 = .ok (.aload_n 0, 1) := by decide +kernel
theorem dX7_isTrueOf_35 : decode cX7_isTrueOf 35 = .ok (.getfield 17, 3) := by decide +kernel
theorem dX7_isTrueOf_38 : decode cX7_isTrueOf 38 = .ok (.iconst 3, 1) := by decide +kernel
theorem dX7_isTrueOf_39 : decode cX7_isTrueOf 39 = .ok (.iload 4, 2) := by decide +kernel
theorem dX7_isTrueOf_41 : decode cX7_isTrueOf 41 = .ok (.imul, 1) := by decide +kernel
theorem dX7_isTrueOf_42 : decode cX7_isTrueOf 42 = .ok (.iload 8, 2) := by decide +kernel
theorem dX7_isTrueOf_44 : decode cX7_isTrueOf 44 = .ok (.iadd, 1) := by decide +kernel
theorem dX7_isTrueOf_45 : decode cX7_isTrueOf 45 = .ok (.iaload, 1) := by decide +kernel
theorem dX7_isTrueOf_46 : decode cX7_isTrueOf 46 = .ok (.iconst (-1), 1) := by decide +kernel
theorem dX7_isTrueOf_47 : decode cX7_isTrueOf 47 = .ok (.if_icmp .eq 71, 3) := by decide +kernel
theorem dX7_isTrueOf_50 : decode cX7_isTrueOf 50 = .ok (.aload_n 0, 1) := by decide +kernel
theorem dX7_isTrueOf_51 : decode cX7_isTrueOf 51 = .ok (.getfield 17, 3) := by decide +kernel
theorem dX7_isTrueOf_54 : decode cX7_isTrueOf 54 = .ok (.iconst 3, 1) := by decide +kernel
theorem dX7_isTrueOf_55 : decode cX7_isTrueOf 55 = .ok (.iload 4, 2) := by decide +kernel
theorem dX7_isTrueOf_57 : decode cX7_isTrueOf 57 = .ok (.imul, 1) := by decide +kernel
theorem dX7_isTrueOf_58 : decode cX7_isTrueOf 58 = .ok (.iload 8, 2) := by decide +kernel
theorem dX7_isTrueOf_60 : decode cX7_isTrueOf 60 = .ok (.iadd, 1) := by decide +kernel
theorem dX7_isTrueOf_61 : decode cX7_isTrueOf 61 = .ok (.iaload, 1) := by decide +kernel
theorem dX7_isTrueOf_62 : decode cX7_isTrueOf 62 = .ok (.istore 9, 2) := by decide +kernel
theorem dX7_isTrueOf_64 : decode cX7_isTrueOf 64 = .ok (.iload 9, 2) := by decide +kernel
theorem dX7_isTrueOf_66 : decode cX7_isTrueOf 66 = .ok (.bipush 9, 2) := by decide +kernel
theorem dX7_isTrueOf_68 : decode cX7_isTrueOf 68 = .ok (.if_icmp .ne 9, 3) := by decide +kernel
theorem dX7_isTrueOf_71 : decode cX7_isTrueOf 71 = .ok (.iinc 5 1, 3) := by decide +kernel
theorem dX7_isTrueOf_74 : decode cX7_isTrueOf 74 = .ok (.goto 38, 3) := by decide +kernel
theorem dX7_isTrueOf_77 : decode cX7_isTrueOf 77 = .ok (.aload_n 0, 1) := by decide +kernel
theorem dX7_isTrueOf_78 : decode cX7_isTrueOf 78 = .ok (.aload_n 3, 1) := by decide +kernel
theorem dX7_isTrueOf_79 : decode cX7_isTrueOf 79 = .ok (.aload_n 3, 1) := by decide +kernel
theorem dX7_isTrueOf_80 : decode cX7_isTrueOf 80 = .ok (.arraylength, 1) := by decide +kernel
theorem dX7_isTrueOf_81 : decode cX7_isTrueOf 81 = .ok (.iload 5, 2) := by decide +kernel
theorem dX7_isTrueOf_83 : decode cX7_isTrueOf 83 = .ok (.iload 9, 2) := by decide +kernel
theorem dX7_isTrueOf_85 : decode cX7_isTrueOf 85 = .ok (.invokevirtual 83, 3) := by decide +kernel
theorem dX7_isTrueOf_88 : decode cX7_isTrueOf 88 = .ok (.istore 5, 2) := by decide +kernel
theorem dX7_isTrueOf_90 : decode cX7_isTrueOf 90 = .ok (.iload 6, 2) := by decide +kernel
theorem dX7_isTrueOf_92 : decode cX7_isTrueOf 92 = .ok (.aload_n 0, 1) := by decide +kernel
theorem dX7_isTrueOf_93 : decode cX7_isTrueOf 93 = .ok (.getfield 90, 3) := by decide +kernel
theorem dX7_isTrueOf_96 : decode cX7_isTrueOf 96 = .ok (.invokestatic 93, 3) := by decide +kernel
theorem dX7_isTrueOf_99 : decode cX7_isTrueOf 99 = .ok (.istore 6, 2) := by decide +kernel
theorem dX7_isTrueOf_101 : decode cX7_isTrueOf 101 = .ok (.iload 7, 2) := by decide +kernel
theorem dX7_isTrueOf_103 : decode cX7_isTrueOf 103 = .ok (.aload_n 0, 1) := by decide +kernel
theorem dX7_isTrueOf_104 : decode cX7_isTrueOf 104 = .ok (.getfield 90, 3) := by decide +kernel
theorem dX7_isTrueOf_107 : decode cX7_isTrueOf 107 = .ok (.invokestatic 99, 3) := by decide +kernel
theorem dX7_isTrueOf_110 : decode cX7_isTrueOf 110 = .ok (.istore 7, 2) := by decide +kernel
theorem dX7_isTrueOf_112 : decode cX7_isTrueOf 112 = .ok (.iinc 8 1, 3) := by decide +kernel
theorem dX7_isTrueOf_115 : decode cX7_isTrueOf 115 = .ok (.goto (-87), 3) := by decide +kernel
theorem dX7_isTrueOf_118 : decode cX7_isTrueOf 118 = .ok (.aload_n 0, 1) := by decide +kernel
theorem dX7_isTrueOf_119 : decode cX7_isTrueOf 119 = .ok (.iload_n 2, 1) := by decide +kernel
theorem dX7_isTrueOf_120 : decode cX7_isTrueOf 120 = .ok (.aload_n 3, 1) := by decide +kernel
theorem dX7_isTrueOf_121 : decode cX7_isTrueOf 121 = .ok (.iconst 0, 1) := by decide +kernel
theorem dX7_isTrueOf_122 : decode cX7_isTrueOf 122 = .ok (.aload_n 3, 1) := by decide +kernel
theorem dX7_isTrueOf_123 : decode cX7_isTrueOf 123 = .ok (.arraylength, 1) := by decide +kernel
theorem dX7_isTrueOf_124 : decode cX7_isTrueOf 124 = .ok (.iload 7, 2) := by decide +kernel
theorem dX7_isTrueOf_126 : decode cX7_isTrueOf 126 = .ok (.iload 6, 2) := by decide +kernel
theorem dX7_isTrueOf_128 : decode cX7_isTrueOf 128 = .ok (.iload 7, 2) := by decide +kernel
theorem dX7_isTrueOf_130 : decode cX7_isTrueOf 130 = .ok (.invokestatic 93, 3) := by decide +kernel
theorem dX7_isTrueOf_133 : decode cX7_isTrueOf 133 = .ok (.isub, 1) := by decide +kernel
theorem dX7_isTrueOf_134 : decode cX7_isTrueOf 134 = .ok (.iload 4, 2) := by decide +kernel
theorem dX7_isTrueOf_136 : decode cX7_isTrueOf 136 = .ok (.invokevirtual 102, 3) := by decide +kernel
theorem dX7_isTrueOf_139 : decode cX7_isTrueOf 139 = .ok (.ireturn, 1) := by decide +kernel
theorem dX7_firstAgainst_0 : decode cX7_firstAgainst 0 = .ok (.aload_n 0, 1) := by decide +kernel
theorem dX7_firstAgainst_1 : decode cX7_firstAgainst 1 = .ok (.aload_n 0, 1) := by decide +kernel
theorem dX7_firstAgainst_2 : decode cX7_firstAgainst 2 = .ok (.iload_n 1, 1) := by decide +kernel
theorem dX7_firstAgainst_3 : decode cX7_firstAgainst 3 = .ok (.invokevirtual 76, 3) := by decide +kernel
theorem dX7_firstAgainst_6 : decode cX7_firstAgainst 6 = .ok (.ifCond .ne 7, 3) := by decide +kernel
theorem dX7_firstAgainst_9 : decode cX7_firstAgainst 9 = .ok (.iconst 1, 1) := by decide +kernel
theorem dX7_firstAgainst_10 : decode cX7_firstAgainst 10 = .ok (.goto 17, 3) := by decide +kernel
theorem dX7_firstAgainst_13 : decode cX7_firstAgainst 13 = .ok (.iload_n 2, 1) := by decide +kernel
theorem dX7_firstAgainst_14 : decode cX7_firstAgainst 14 = .ok (.iconst 1, 1) := by decide +kernel
theorem dX7_firstAgainst_15 : decode cX7_firstAgainst 15 = .ok (.iconst 5, 1) := by decide +kernel
theorem dX7_firstAgainst_16 : decode cX7_firstAgainst 16 = .ok (.invokestatic 58, 3) := by decide +kernel
theorem dX7_firstAgainst_19 : decode cX7_firstAgainst 19 = .ok (.ifCond .ne 7, 3) := by decide +kernel
theorem dX7_firstAgainst_22 : decode cX7_firstAgainst 22 = .ok (.iconst 2, 1) := by decide +kernel
theorem dX7_firstAgainst_23 : decode cX7_firstAgainst 23 = .ok (.goto 4, 3) := by decide +kernel
theorem dX7_firstAgainst_26 : decode cX7_firstAgainst 26 = .ok (.iconst 0, 1) := by decide +kernel
theorem dX7_firstAgainst_27 : decode cX7_firstAgainst 27 = .ok (.putfield 52, 3) := by decide +kernel
theorem dX7_firstAgainst_30 : decode cX7_firstAgainst 30 = .ok (.aload_n 0, 1) := by decide +kernel
theorem dX7_firstAgainst_31 : decode cX7_firstAgainst 31 = .ok (.getfield 52, 3) := by decide +kernel
theorem dX7_firstAgainst_34 : decode cX7_firstAgainst 34 = .ok (.ifCond .ne 12, 3) := by decide +kernel
theorem dX7_firstAgainst_37 : decode cX7_firstAgainst 37 = .ok (.aload_n 0, 1) := by decide +kernel
theorem dX7_firstAgainst_38 : decode cX7_firstAgainst 38 = .ok (.iload_n 1, 1) := by decide +kernel
theorem dX7_firstAgainst_39 : decode cX7_firstAgainst 39 = .ok (.iload_n 3, 1) := by decide +kernel
theorem dX7_firstAgainst_40 : decode cX7_firstAgainst 40 = .ok (.invokevirtual 140, 3) := by decide +kernel
theorem dX7_firstAgainst_43 : decode cX7_firstAgainst 43 = .ok (.ifCond .ne 5, 3) := by decide +kernel
theorem dX7_firstAgainst_46 : decode cX7_firstAgainst 46 = .ok (.iconst 0, 1) := by decide +kernel
theorem dX7_firstAgainst_47 : decode cX7_firstAgainst 47 = .ok (.ireturn, 1) := by decide +kernel
theorem dX7_firstAgainst_48 : decode cX7_firstAgainst 48 = .ok (.aload_n 0, 1) := by decide +kernel
theorem dX7_firstAgainst_49 : decode cX7_firstAgainst 49 = .ok (.iload_n 1, 1) := by decide +kernel
theorem dX7_firstAgainst_50 : decode cX7_firstAgainst 50 = .ok (.iload_n 3, 1) := by decide +kernel
theorem dX7_firstAgainst_51 : decode cX7_firstAgainst 51 = .ok (.invokevirtual 143, 3) := by decide +kernel
theorem dX7_firstAgainst_54 : decode cX7_firstAgainst 54 = .ok (.istore 4, 2) := by decide +kernel
theorem dX7_firstAgainst_56 : decode cX7_firstAgainst 56 = .ok (.iconst 0, 1) := by decide +kernel
theorem dX7_firstAgainst_57 : decode cX7_firstAgainst 57 = .ok (.istore 5, 2) := by decide +kernel
theorem dX7_firstAgainst_59 : decode cX7_firstAgainst 59 = .ok (.iload 5, 2) := by decide +kernel
theorem dX7_firstAgainst_61 : decode cX7_firstAgainst 61 = .ok (.iload 4, 2) := by decide +kernel
theorem dX7_firstAgainst_63 : decode cX7_firstAgainst 63 = .ok (.if_icmp .ge 27, 3) := by decide +kernel
theorem dX7_firstAgainst_66 : decode cX7_firstAgainst 66 = .ok (.aload_n 0, 1) := by decide +kernel
theorem dX7_firstAgainst_67 : decode cX7_firstAgainst 67 = .ok (.aload_n 0, 1) := by decide +kernel
theorem dX7_firstAgainst_68 : decode cX7_firstAgainst 68 = .ok (.iload_n 1, 1) := by decide +kernel
theorem dX7_firstAgainst_69 : decode cX7_firstAgainst 69 = .ok (.iload 5, 2) := by decide +kernel
theorem dX7_firstAgainst_71 : decode cX7_firstAgainst 71 = .ok (.invokevirtual 110, 3) := by decide +kernel
theorem dX7_firstAgainst_74 : decode cX7_firstAgainst 74 = .ok (.iload_n 2, 1) := by decide +kernel
theorem dX7_firstAgainst_75 : decode cX7_firstAgainst 75 = .ok (.invokevirtual 146, 3) := by decide +kernel
theorem dX7_firstAgainst_78 : decode cX7_firstAgainst 78 = .ok (.ifCond .ne 6, 3) := by decide +kernel
theorem dX7_firstAgainst_81 : decode cX7_firstAgainst 81 = .ok (.iload 5, 2) := by decide +kernel
theorem dX7_firstAgainst_83 : decode cX7_firstAgainst 83 = .ok (.ireturn, 1) := by decide +kernel
theorem dX7_firstAgainst_84 : decode cX7_firstAgainst 84 = .ok (.iinc 5 1, 3) := by decide +kernel
theorem dX7_firstAgainst_87 : decode cX7_firstAgainst 87 = .ok (.goto (-28), 3) := by decide +kernel
theorem dX7_firstAgainst_90 : decode cX7_firstAgainst 90 = .ok (.iconst (-1), 1) := by decide +kernel
theorem dX7_firstAgainst_91 : decode cX7_firstAgainst 91 = .ok (.ireturn, 1) := by decide +kernel
theorem dX7_choose_0 : decode cX7_choose 0 = .ok (.aload_n 0, 1) := by decide +kernel
theorem dX7_choose_1 : decode cX7_choose 1 = .ok (.iload_n 1, 1) := by decide +kernel
theorem dX7_choose_2 : decode cX7_choose 2 = .ok (.putfield 26, 3) := by decide +kernel
theorem dX7_choose_5 : decode cX7_choose 5 = .ok (.aload_n 0, 1) := by decide +kernel
theorem dX7_choose_6 : decode cX7_choose 6 = .ok (.iload_n 2, 1) := by decide +kernel
theorem dX7_choose_7 : decode cX7_choose 7 = .ok (.putfield 149, 3) := by decide +kernel
theorem dX7_choose_10 : decode cX7_choose 10 = .ok (.return_, 1) := by decide +kernel
theorem dX7_select_0 : decode cX7_select 0 = .ok (.aload_n 0, 1) := by decide +kernel
theorem dX7_select_1 : decode cX7_select 1 = .ok (.iconst 0, 1) := by decide +kernel
theorem dX7_select_2 : decode cX7_select 2 = .ok (.putfield 52, 3) := by decide +kernel
theorem dX7_select_5 : decode cX7_select 5 = .ok (.aload_n 0, 1) := by decide +kernel
theorem dX7_select_6 : decode cX7_select 6 = .ok (.iload_n 1, 1) := by decide +kernel
theorem dX7_select_7 : decode cX7_select 7 = .ok (.invokevirtual 76, 3) := by decide +kernel
theorem dX7_select_10 : decode cX7_select 10 = .ok (.ifCond .eq 7, 3) := by decide +kernel
theorem dX7_select_13 : decode cX7_select 13 = .ok (.iload_n 2, 1) := by decide +kernel
theorem dX7_select_14 : decode cX7_select 14 = .ok (.ifCond .ge 9, 3) := by decide +kernel
theorem dX7_select_17 : decode cX7_select 17 = .ok (.aload_n 0, 1) := by decide +kernel
theorem dX7_select_18 : decode cX7_select 18 = .ok (.iconst 1, 1) := by decide +kernel
theorem dX7_select_19 : decode cX7_select 19 = .ok (.invokevirtual 72, 3) := by decide +kernel
theorem dX7_select_22 : decode cX7_select 22 = .ok (.ireturn, 1) := by decide +kernel
theorem dX7_select_23 : decode cX7_select 23 = .ok (.aload_n 0, 1) := by decide +kernel
theorem dX7_select_24 : decode cX7_select 24 = .ok (.invokevirtual 137, 3) := by decide +kernel
theorem dX7_select_27 : decode cX7_select 27 = .ok (.iload_n 2, 1) := by decide +kernel
theorem dX7_select_28 : decode cX7_select 28 = .ok (.aload_n 0, 1) := by decide +kernel
theorem dX7_select_29 : decode cX7_select 29 = .ok (.getfield 40, 3) := by decide +kernel
theorem dX7_select_32 : decode cX7_select 32 = .ok (.iload_n 1, 1) := by decide +kernel
theorem dX7_select_33 : decode cX7_select 33 = .ok (.iaload, 1) := by decide +kernel
theorem dX7_select_34 : decode cX7_select 34 = .ok (.if_icmp .lt 22, 3) := by decide +kernel
theorem dX7_select_37 : decode cX7_select 37 = .ok (.aload_n 0, 1) := by decide +kernel
theorem dX7_select_38 : decode cX7_select 38 = .ok (.aload_n 0, 1) := by decide +kernel
theorem dX7_select_39 : decode cX7_select 39 = .ok (.getfield 130, 3) := by decide +kernel
theorem dX7_select_42 : decode cX7_select 42 = .ok (.bipush 8, 2) := by decide +kernel
theorem dX7_select_44 : decode cX7_select 44 = .ok (.if_icmp .ne 7, 3) := by decide +kernel
theorem dX7_select_47 : decode cX7_select 47 = .ok (.iconst 1, 1) := by decide +kernel
theorem dX7_select_48 : decode cX7_select 48 = .ok (.goto 4, 3) := by decide +kernel
theorem dX7_select_51 : decode cX7_select 51 = .ok (.iconst 2, 1) := by decide +kernel
theorem dX7_select_52 : decode cX7_select 52 = .ok (.invokevirtual 72, 3) := by decide +kernel
theorem dX7_select_55 : decode cX7_select 55 = .ok (.ireturn, 1) := by decide +kernel
theorem dX7_select_56 : decode cX7_select 56 = .ok (.aload_n 0, 1) := by decide +kernel
theorem dX7_select_57 : decode cX7_select 57 = .ok (.iload_n 1, 1) := by decide +kernel
theorem dX7_select_58 : decode cX7_select 58 = .ok (.iload_n 2, 1) := by decide +kernel
theorem dX7_select_59 : decode cX7_select 59 = .ok (.invokevirtual 152, 3) := by decide +kernel
theorem dX7_select_62 : decode cX7_select 62 = .ok (.aload_n 0, 1) := by decide +kernel
theorem dX7_select_63 : decode cX7_select 63 = .ok (.getfield 34, 3) := by decide +kernel
theorem dX7_select_66 : decode cX7_select 66 = .ok (.aload_n 0, 1) := by decide +kernel
theorem dX7_select_67 : decode cX7_select 67 = .ok (.iload_n 1, 1) := by decide +kernel
theorem dX7_select_68 : decode cX7_select 68 = .ok (.iload_n 2, 1) := by decide +kernel
theorem dX7_select_69 : decode cX7_select 69 = .ok (.invokevirtual 110, 3) := by decide +kernel
theorem dX7_select_72 : decode cX7_select 72 = .ok (.iaload, 1) := by decide +kernel
theorem dX7_select_73 : decode cX7_select 73 = .ok (.ireturn, 1) := by decide +kernel
theorem dX7_draw_0 : decode cX7_draw 0 = .ok (.aload_n 0, 1) := by decide +kernel
theorem dX7_draw_1 : decode cX7_draw 1 = .ok (.iload_n 1, 1) := by decide +kernel
theorem dX7_draw_2 : decode cX7_draw 2 = .ok (.iload_n 2, 1) := by decide +kernel
theorem dX7_draw_3 : decode cX7_draw 3 = .ok (.invokevirtual 140, 3) := by decide +kernel
theorem dX7_draw_6 : decode cX7_draw 6 = .ok (.ifCond .ne 5, 3) := by decide +kernel
theorem dX7_draw_9 : decode cX7_draw 9 = .ok (.iconst 0, 1) := by decide +kernel
theorem dX7_draw_10 : decode cX7_draw 10 = .ok (.ireturn, 1) := by decide +kernel
theorem dX7_draw_11 : decode cX7_draw 11 = .ok (.aload_n 0, 1) := by decide +kernel
theorem dX7_draw_12 : decode cX7_draw 12 = .ok (.iload_n 1, 1) := by decide +kernel
theorem dX7_draw_13 : decode cX7_draw 13 = .ok (.iload_n 2, 1) := by decide +kernel
theorem dX7_draw_14 : decode cX7_draw 14 = .ok (.iconst 1, 1) := by decide +kernel
theorem dX7_draw_15 : decode cX7_draw 15 = .ok (.isub, 1) := by decide +kernel
theorem dX7_draw_16 : decode cX7_draw 16 = .ok (.invokevirtual 143, 3) := by decide +kernel
theorem dX7_draw_19 : decode cX7_draw 19 = .ok (.istore 5, 2) := by decide +kernel
theorem dX7_draw_21 : decode cX7_draw 21 = .ok (.aload_n 0, 1) := by decide +kernel
theorem dX7_draw_22 : decode cX7_draw 22 = .ok (.iload_n 1, 1) := by decide +kernel
theorem dX7_draw_23 : decode cX7_draw 23 = .ok (.iload_n 2, 1) := by decide +kernel
theorem dX7_draw_24 : decode cX7_draw 24 = .ok (.invokevirtual 143, 3) := by decide +kernel
theorem dX7_draw_27 : decode cX7_draw 27 = .ok (.iload 5, 2) := by decide +kernel
theorem dX7_draw_29 : decode cX7_draw 29 = .ok (.isub, 1) := by decide +kernel
theorem dX7_draw_30 : decode cX7_draw 30 = .ok (.istore 6, 2) := by decide +kernel
theorem dX7_draw_32 : decode cX7_draw 32 = .ok (.iload 6, 2) := by decide +kernel
theorem dX7_draw_34 : decode cX7_draw 34 = .ok (.ifCond .ne 9, 3) := by decide +kernel
theorem dX7_draw_37 : decode cX7_draw 37 = .ok (.aload_n 0, 1) := by decide +kernel
theorem dX7_draw_38 : decode cX7_draw 38 = .ok (.iconst 4, 1) := by decide +kernel
theorem dX7_draw_39 : decode cX7_draw 39 = .ok (.invokevirtual 72, 3) := by decide +kernel
theorem dX7_draw_42 : decode cX7_draw 42 = .ok (.ireturn, 1) := by decide +kernel
theorem dX7_draw_43 : decode cX7_draw 43 = .ok (.lload_n 3, 1) := by decide +kernel
theorem dX7_draw_44 : decode cX7_draw 44 = .ok (.ldc2_w 156, 3) := by decide +kernel
theorem dX7_draw_47 : decode cX7_draw 47 = .ok (.lmul, 1) := by decide +kernel
theorem dX7_draw_48 : decode cX7_draw 48 = .ok (.ldc2_w 158, 3) := by decide +kernel
theorem dX7_draw_51 : decode cX7_draw 51 = .ok (.ladd, 1) := by decide +kernel
theorem dX7_draw_52 : decode cX7_draw 52 = .ok (.lstore 7, 2) := by decide +kernel
theorem dX7_draw_54 : decode cX7_draw 54 = .ok (.aload_n 0, 1) := by decide +kernel
theorem dX7_draw_55 : decode cX7_draw 55 = .ok (.iload_n 1, 1) := by decide +kernel
theorem dX7_draw_56 : decode cX7_draw 56 = .ok (.iload 5, 2) := by decide +kernel
theorem dX7_draw_58 : decode cX7_draw 58 = .ok (.lload 7, 2) := by decide +kernel
theorem dX7_draw_60 : decode cX7_draw 60 = .ok (.bipush 33, 2) := by decide +kernel
theorem dX7_draw_62 : decode cX7_draw 62 = .ok (.lushr, 1) := by decide +kernel
theorem dX7_draw_63 : decode cX7_draw 63 = .ok (.iload 6, 2) := by decide +kernel
theorem dX7_draw_65 : decode cX7_draw 65 = .ok (.i2l, 1) := by decide +kernel
theorem dX7_draw_66 : decode cX7_draw 66 = .ok (.lrem, 1) := by decide +kernel
theorem dX7_draw_67 : decode cX7_draw 67 = .ok (.l2i, 1) := by decide +kernel
theorem dX7_draw_68 : decode cX7_draw 68 = .ok (.iadd, 1) := by decide +kernel
theorem dX7_draw_69 : decode cX7_draw 69 = .ok (.invokevirtual 152, 3) := by decide +kernel
theorem dX7_draw_72 : decode cX7_draw 72 = .ok (.aload_n 0, 1) := by decide +kernel
theorem dX7_draw_73 : decode cX7_draw 73 = .ok (.getfield 149, 3) := by decide +kernel
theorem dX7_draw_76 : decode cX7_draw 76 = .ok (.ireturn, 1) := by decide +kernel
theorem dX7_tell_0 : decode cX7_tell 0 = .ok (.aload_n 0, 1) := by decide +kernel
theorem dX7_tell_1 : decode cX7_tell 1 = .ok (.iconst 0, 1) := by decide +kernel
theorem dX7_tell_2 : decode cX7_tell 2 = .ok (.putfield 52, 3) := by decide +kernel
theorem dX7_tell_5 : decode cX7_tell 5 = .ok (.iload_n 1, 1) := by decide +kernel
theorem dX7_tell_6 : decode cX7_tell 6 = .ok (.iconst 0, 1) := by decide +kernel
theorem dX7_tell_7 : decode cX7_tell 7 = .ok (.iconst 5, 1) := by decide +kernel
theorem dX7_tell_8 : decode cX7_tell 8 = .ok (.invokestatic 58, 3) := by decide +kernel
theorem dX7_tell_11 : decode cX7_tell 11 = .ok (.ifCond .ne 20, 3) := by decide +kernel
theorem dX7_tell_14 : decode cX7_tell 14 = .ok (.iload_n 1, 1) := by decide +kernel
theorem dX7_tell_15 : decode cX7_tell 15 = .ok (.bipush 100, 2) := by decide +kernel
theorem dX7_tell_17 : decode cX7_tell 17 = .ok (.bipush 105, 2) := by decide +kernel
theorem dX7_tell_19 : decode cX7_tell 19 = .ok (.invokestatic 58, 3) := by decide +kernel
theorem dX7_tell_22 : decode cX7_tell 22 = .ok (.ifCond .ne 9, 3) := by decide +kernel
theorem dX7_tell_25 : decode cX7_tell 25 = .ok (.aload_n 0, 1) := by decide +kernel
theorem dX7_tell_26 : decode cX7_tell 26 = .ok (.iconst 1, 1) := by decide +kernel
theorem dX7_tell_27 : decode cX7_tell 27 = .ok (.invokevirtual 72, 3) := by decide +kernel
theorem dX7_tell_30 : decode cX7_tell 30 = .ok (.ireturn, 1) := by decide +kernel
theorem dX7_tell_31 : decode cX7_tell 31 = .ok (.aload_n 0, 1) := by decide +kernel
theorem dX7_tell_32 : decode cX7_tell 32 = .ok (.getfield 160, 3) := by decide +kernel
theorem dX7_tell_35 : decode cX7_tell 35 = .ok (.bipush 40, 2) := by decide +kernel
theorem dX7_tell_37 : decode cX7_tell 37 = .ok (.if_icmp .ne 9, 3) := by decide +kernel
theorem dX7_tell_40 : decode cX7_tell 40 = .ok (.aload_n 0, 1) := by decide +kernel
theorem dX7_tell_41 : decode cX7_tell 41 = .ok (.iconst 2, 1) := by decide +kernel
theorem dX7_tell_42 : decode cX7_tell 42 = .ok (.invokevirtual 72, 3) := by decide +kernel
theorem dX7_tell_45 : decode cX7_tell 45 = .ok (.ireturn, 1) := by decide +kernel
theorem dX7_tell_46 : decode cX7_tell 46 = .ok (.aload_n 0, 1) := by decide +kernel
theorem dX7_tell_47 : decode cX7_tell 47 = .ok (.getfield 23, 3) := by decide +kernel
theorem dX7_tell_50 : decode cX7_tell 50 = .ok (.aload_n 0, 1) := by decide +kernel
theorem dX7_tell_51 : decode cX7_tell 51 = .ok (.getfield 160, 3) := by decide +kernel
theorem dX7_tell_54 : decode cX7_tell 54 = .ok (.iload_n 1, 1) := by decide +kernel
theorem dX7_tell_55 : decode cX7_tell 55 = .ok (.iastore, 1) := by decide +kernel
theorem dX7_tell_56 : decode cX7_tell 56 = .ok (.aload_n 0, 1) := by decide +kernel
theorem dX7_tell_57 : decode cX7_tell 57 = .ok (.dup, 1) := by decide +kernel
theorem dX7_tell_58 : decode cX7_tell 58 = .ok (.getfield 160, 3) := by decide +kernel
theorem dX7_tell_61 : decode cX7_tell 61 = .ok (.iconst 1, 1) := by decide +kernel
theorem dX7_tell_62 : decode cX7_tell 62 = .ok (.iadd, 1) := by decide +kernel
theorem dX7_tell_63 : decode cX7_tell 63 = .ok (.putfield 160, 3) := by decide +kernel
theorem dX7_tell_66 : decode cX7_tell 66 = .ok (.aload_n 0, 1) := by decide +kernel
theorem dX7_tell_67 : decode cX7_tell 67 = .ok (.getfield 160, 3) := by decide +kernel
theorem dX7_tell_70 : decode cX7_tell 70 = .ok (.ireturn, 1) := by decide +kernel
theorem dX7_find_0 : decode cX7_find 0 = .ok (.aload_n 0, 1) := by decide +kernel
theorem dX7_find_1 : decode cX7_find 1 = .ok (.invokevirtual 137, 3) := by decide +kernel
theorem dX7_find_4 : decode cX7_find 4 = .ok (.iconst 0, 1) := by decide +kernel
theorem dX7_find_5 : decode cX7_find 5 = .ok (.istore 4, 2) := by decide +kernel
theorem dX7_find_7 : decode cX7_find 7 = .ok (.iload 4, 2) := by decide +kernel
theorem dX7_find_9 : decode cX7_find 9 = .ok (.aload_n 0, 1) := by decide +kernel
theorem dX7_find_10 : decode cX7_find 10 = .ok (.getfield 40, 3) := by decide +kernel
theorem dX7_find_13 : decode cX7_find 13 = .ok (.iload_n 1, 1) := by decide +kernel
theorem dX7_find_14 : decode cX7_find 14 = .ok (.iaload, 1) := by decide +kernel
theorem dX7_find_15 : decode cX7_find 15 = .ok (.if_icmp .ge 84, 3) := by decide +kernel
theorem dX7_find_18 : decode cX7_find 18 = .ok (.aload_n 0, 1) := by decide +kernel
theorem dX7_find_19 : decode cX7_find 19 = .ok (.getfield 30, 3) := by decide +kernel
theorem dX7_find_22 : decode cX7_find 22 = .ok (.aload_n 0, 1) := by decide +kernel
theorem dX7_find_23 : decode cX7_find 23 = .ok (.iload_n 1, 1) := by decide +kernel
theorem dX7_find_24 : decode cX7_find 24 = .ok (.iload 4, 2) := by decide +kernel
theorem dX7_find_26 : decode cX7_find 26 = .ok (.invokevirtual 110, 3) := by decide +kernel
theorem dX7_find_29 : decode cX7_find 29 = .ok (.aaload, 1) := by decide +kernel
theorem dX7_find_30 : decode cX7_find 30 = .ok (.astore 5, 2) := by decide +kernel
theorem dX7_find_32 : decode cX7_find 32 = .ok (.aload 5, 2) := by decide +kernel
theorem dX7_find_34 : decode cX7_find 34 = .ok (.arraylength, 1) := by decide +kernel
theorem dX7_find_35 : decode cX7_find 35 = .ok (.iload_n 3, 1) := by decide +kernel
theorem dX7_find_36 : decode cX7_find 36 = .ok (.if_icmp .ne 7, 3) := by decide +kernel
theorem dX7_find_39 : decode cX7_find 39 = .ok (.iconst 1, 1) := by decide +kernel
theorem dX7_find_40 : decode cX7_find 40 = .ok (.goto 4, 3) := by decide +kernel
theorem dX7_find_43 : decode cX7_find 43 = .ok (.iconst 0, 1) := by decide +kernel
theorem dX7_find_44 : decode cX7_find 44 = .ok (.istore 6, 2) := by decide +kernel
theorem dX7_find_46 : decode cX7_find 46 = .ok (.iconst 0, 1) := by decide +kernel
theorem dX7_find_47 : decode cX7_find 47 = .ok (.istore 7, 2) := by decide +kernel
theorem dX7_find_49 : decode cX7_find 49 = .ok (.iload 7, 2) := by decide +kernel
theorem dX7_find_51 : decode cX7_find 51 = .ok (.iload_n 3, 1) := by decide +kernel
theorem dX7_find_52 : decode cX7_find 52 = .ok (.if_icmp .ge 33, 3) := by decide +kernel
theorem dX7_find_55 : decode cX7_find 55 = .ok (.iload 6, 2) := by decide +kernel
theorem dX7_find_57 : decode cX7_find 57 = .ok (.ifCond .eq 28, 3) := by decide +kernel
theorem dX7_find_60 : decode cX7_find 60 = .ok (.aload 5, 2) := by decide +kernel
theorem dX7_find_62 : decode cX7_find 62 = .ok (.iload 7, 2) := by decide +kernel
theorem dX7_find_64 : decode cX7_find 64 = .ok (.iaload, 1) := by decide +kernel
theorem dX7_find_65 : decode cX7_find 65 = .ok (.aload_n 2, 1) := by decide +kernel
theorem dX7_find_66 : decode cX7_find 66 = .ok (.iload 7, 2) := by decide +kernel
theorem dX7_find_68 : decode cX7_find 68 = .ok (.iaload, 1) := by decide +kernel
theorem dX7_find_69 : decode cX7_find 69 = .ok (.if_icmp .ne 7, 3) := by decide +kernel
theorem dX7_find_72 : decode cX7_find 72 = .ok (.iconst 1, 1) := by decide +kernel
theorem dX7_find_73 : decode cX7_find 73 = .ok (.goto 4, 3) := by decide +kernel
theorem dX7_find_76 : decode cX7_find 76 = .ok (.iconst 0, 1) := by decide +kernel
theorem dX7_find_77 : decode cX7_find 77 = .ok (.istore 6, 2) := by decide +kernel
theorem dX7_find_79 : decode cX7_find 79 = .ok (.iinc 7 1, 3) := by decide +kernel
theorem dX7_find_82 : decode cX7_find 82 = .ok (.goto (-33), 3) := by decide +kernel
theorem dX7_find_85 : decode cX7_find 85 = .ok (.iload 6, 2) := by decide +kernel
theorem dX7_find_87 : decode cX7_find 87 = .ok (.ifCond .eq 6, 3) := by decide +kernel
theorem dX7_find_90 : decode cX7_find 90 = .ok (.iload 4, 2) := by decide +kernel
theorem dX7_find_92 : decode cX7_find 92 = .ok (.ireturn, 1) := by decide +kernel
theorem dX7_find_93 : decode cX7_find 93 = .ok (.iinc 4 1, 3) := by decide +kernel
theorem dX7_find_96 : decode cX7_find 96 = .ok (.goto (-89), 3) := by decide +kernel
theorem dX7_find_99 : decode cX7_find 99 = .ok (.iconst (-1), 1) := by decide +kernel
theorem dX7_find_100 : decode cX7_find 100 = .ok (.ireturn, 1) := by decide +kernel
theorem dX7_read_0 : decode cX7_read 0 = .ok (.aload_n 0, 1) := by decide +kernel
theorem dX7_read_1 : decode cX7_read 1 = .ok (.iconst 0, 1) := by decide +kernel
theorem dX7_read_2 : decode cX7_read 2 = .ok (.putfield 52, 3) := by decide +kernel
theorem dX7_read_5 : decode cX7_read 5 = .ok (.aload_n 0, 1) := by decide +kernel
theorem dX7_read_6 : decode cX7_read 6 = .ok (.iload_n 1, 1) := by decide +kernel
theorem dX7_read_7 : decode cX7_read 7 = .ok (.invokevirtual 76, 3) := by decide +kernel
theorem dX7_read_10 : decode cX7_read 10 = .ok (.ifCond .ne 9, 3) := by decide +kernel
theorem dX7_read_13 : decode cX7_read 13 = .ok (.aload_n 0, 1) := by decide +kernel
theorem dX7_read_14 : decode cX7_read 14 = .ok (.iconst 1, 1) := by decide +kernel
theorem dX7_read_15 : decode cX7_read 15 = .ok (.invokevirtual 72, 3) := by decide +kernel
theorem dX7_read_18 : decode cX7_read 18 = .ok (.ireturn, 1) := by decide +kernel
theorem dX7_read_19 : decode cX7_read 19 = .ok (.aload_n 0, 1) := by decide +kernel
theorem dX7_read_20 : decode cX7_read 20 = .ok (.getfield 160, 3) := by decide +kernel
theorem dX7_read_23 : decode cX7_read 23 = .ok (.istore_n 2, 1) := by decide +kernel
theorem dX7_read_24 : decode cX7_read 24 = .ok (.aload_n 0, 1) := by decide +kernel
theorem dX7_read_25 : decode cX7_read 25 = .ok (.iconst 0, 1) := by decide +kernel
theorem dX7_read_26 : decode cX7_read 26 = .ok (.putfield 160, 3) := by decide +kernel
theorem dX7_read_29 : decode cX7_read 29 = .ok (.aload_n 0, 1) := by decide +kernel
theorem dX7_read_30 : decode cX7_read 30 = .ok (.aload_n 0, 1) := by decide +kernel
theorem dX7_read_31 : decode cX7_read 31 = .ok (.getfield 23, 3) := by decide +kernel
theorem dX7_read_34 : decode cX7_read 34 = .ok (.iload_n 2, 1) := by decide +kernel
theorem dX7_read_35 : decode cX7_read 35 = .ok (.iconst 0, 1) := by decide +kernel
theorem dX7_read_36 : decode cX7_read 36 = .ok (.iload_n 1, 1) := by decide +kernel
theorem dX7_read_37 : decode cX7_read 37 = .ok (.invokevirtual 83, 3) := by decide +kernel
theorem dX7_read_40 : decode cX7_read 40 = .ok (.istore_n 3, 1) := by decide +kernel
theorem dX7_read_41 : decode cX7_read 41 = .ok (.aload_n 0, 1) := by decide +kernel
theorem dX7_read_42 : decode cX7_read 42 = .ok (.getfield 87, 3) := by decide +kernel
theorem dX7_read_45 : decode cX7_read 45 = .ok (.istore 4, 2) := by decide +kernel
theorem dX7_read_47 : decode cX7_read 47 = .ok (.iload_n 3, 1) := by decide +kernel
theorem dX7_read_48 : decode cX7_read 48 = .ok (.iload_n 2, 1) := by decide +kernel
theorem dX7_read_49 : decode cX7_read 49 = .ok (.if_icmp .ne 10, 3) := by decide +kernel
theorem dX7_read_52 : decode cX7_read 52 = .ok (.iload 4, 2) := by decide +kernel
theorem dX7_read_54 : decode cX7_read 54 = .ok (.bipush 8, 2) := by decide +kernel
theorem dX7_read_56 : decode cX7_read 56 = .ok (.if_icmp .le 5, 3) := by decide +kernel
theorem dX7_read_59 : decode cX7_read 59 = .ok (.iconst (-1), 1) := by decide +kernel
theorem dX7_read_60 : decode cX7_read 60 = .ok (.ireturn, 1) := by decide +kernel
theorem dX7_read_61 : decode cX7_read 61 = .ok (.aload_n 0, 1) := by decide +kernel
theorem dX7_read_62 : decode cX7_read 62 = .ok (.invokevirtual 137, 3) := by decide +kernel
theorem dX7_read_65 : decode cX7_read 65 = .ok (.iload 4, 2) := by decide +kernel
theorem dX7_read_67 : decode cX7_read 67 = .ok (.aload_n 0, 1) := by decide +kernel
theorem dX7_read_68 : decode cX7_read 68 = .ok (.getfield 130, 3) := by decide +kernel
theorem dX7_read_71 : decode cX7_read 71 = .ok (.if_icmp .le 9, 3) := by decide +kernel
theorem dX7_read_74 : decode cX7_read 74 = .ok (.aload_n 0, 1) := by decide +kernel
theorem dX7_read_75 : decode cX7_read 75 = .ok (.iconst 2, 1) := by decide +kernel
theorem dX7_read_76 : decode cX7_read 76 = .ok (.invokevirtual 72, 3) := by decide +kernel
theorem dX7_read_79 : decode cX7_read 79 = .ok (.ireturn, 1) := by decide +kernel
theorem dX7_read_80 : decode cX7_read 80 = .ok (.aload_n 0, 1) := by decide +kernel
theorem dX7_read_81 : decode cX7_read 81 = .ok (.iload_n 1, 1) := by decide +kernel
theorem dX7_read_82 : decode cX7_read 82 = .ok (.aload_n 0, 1) := by decide +kernel
theorem dX7_read_83 : decode cX7_read 83 = .ok (.iload_n 1, 1) := by decide +kernel
theorem dX7_read_84 : decode cX7_read 84 = .ok (.aload_n 0, 1) := by decide +kernel
theorem dX7_read_85 : decode cX7_read 85 = .ok (.getfield 23, 3) := by decide +kernel
theorem dX7_read_88 : decode cX7_read 88 = .ok (.iload_n 2, 1) := by decide +kernel
theorem dX7_read_89 : decode cX7_read 89 = .ok (.invokevirtual 163, 3) := by decide +kernel
theorem dX7_read_92 : decode cX7_read 92 = .ok (.invokevirtual 152, 3) := by decide +kernel
theorem dX7_read_95 : decode cX7_read 95 = .ok (.aload_n 0, 1) := by decide +kernel
theorem dX7_read_96 : decode cX7_read 96 = .ok (.getfield 149, 3) := by decide +kernel
theorem dX7_read_99 : decode cX7_read 99 = .ok (.ireturn, 1) := by decide +kernel
theorem dX7_has_0 : decode cX7_has 0 = .ok (.aload_n 0, 1) := by decide +kernel
theorem dX7_has_1 : decode cX7_has 1 = .ok (.aload_n 0, 1) := by decide +kernel
theorem dX7_has_2 : decode cX7_has 2 = .ok (.getfield 26, 3) := by decide +kernel
theorem dX7_has_5 : decode cX7_has 5 = .ok (.iconst (-1), 1) := by decide +kernel
theorem dX7_has_6 : decode cX7_has 6 = .ok (.if_icmp .ne 7, 3) := by decide +kernel
theorem dX7_has_9 : decode cX7_has 9 = .ok (.iconst 1, 1) := by decide +kernel
theorem dX7_has_10 : decode cX7_has 10 = .ok (.goto 4, 3) := by decide +kernel
theorem dX7_has_13 : decode cX7_has 13 = .ok (.iconst 0, 1) := by decide +kernel
theorem dX7_has_14 : decode cX7_has 14 = .ok (.putfield 52, 3) := by decide +kernel
theorem dX7_has_17 : decode cX7_has 17 = .ok (.aload_n 0, 1) := by decide +kernel
theorem dX7_has_18 : decode cX7_has 18 = .ok (.getfield 52, 3) := by decide +kernel
theorem dX7_has_21 : decode cX7_has 21 = .ok (.ifCond .ne 7, 3) := by decide +kernel
theorem dX7_has_24 : decode cX7_has 24 = .ok (.aload_n 0, 1) := by decide +kernel
theorem dX7_has_25 : decode cX7_has 25 = .ok (.invokevirtual 137, 3) := by decide +kernel
theorem dX7_has_28 : decode cX7_has 28 = .ok (.aload_n 0, 1) := by decide +kernel
theorem dX7_has_29 : decode cX7_has 29 = .ok (.getfield 52, 3) := by decide +kernel
theorem dX7_has_32 : decode cX7_has 32 = .ok (.ifCond .ne 7, 3) := by decide +kernel
theorem dX7_has_35 : decode cX7_has 35 = .ok (.iconst 1, 1) := by decide +kernel
theorem dX7_has_36 : decode cX7_has 36 = .ok (.goto 4, 3) := by decide +kernel
theorem dX7_has_39 : decode cX7_has 39 = .ok (.iconst 0, 1) := by decide +kernel
theorem dX7_has_40 : decode cX7_has 40 = .ok (.ireturn, 1) := by decide +kernel
theorem dX7_current_0 : decode cX7_current 0 = .ok (.aload_n 0, 1) := by decide +kernel
theorem dX7_current_1 : decode cX7_current 1 = .ok (.aload_n 0, 1) := by decide +kernel
theorem dX7_current_2 : decode cX7_current 2 = .ok (.getfield 26, 3) := by decide +kernel
theorem dX7_current_5 : decode cX7_current 5 = .ok (.aload_n 0, 1) := by decide +kernel
theorem dX7_current_6 : decode cX7_current 6 = .ok (.getfield 149, 3) := by decide +kernel
theorem dX7_current_9 : decode cX7_current 9 = .ok (.invokevirtual 110, 3) := by decide +kernel
theorem dX7_current_12 : decode cX7_current 12 = .ok (.ireturn, 1) := by decide +kernel
theorem dX7_length_0 : decode cX7_length 0 = .ok (.aload_n 0, 1) := by decide +kernel
theorem dX7_length_1 : decode cX7_length 1 = .ok (.invokevirtual 167, 3) := by decide +kernel
theorem dX7_length_4 : decode cX7_length 4 = .ok (.ifCond .eq 16, 3) := by decide +kernel
theorem dX7_length_7 : decode cX7_length 7 = .ok (.aload_n 0, 1) := by decide +kernel
theorem dX7_length_8 : decode cX7_length 8 = .ok (.getfield 30, 3) := by decide +kernel
theorem dX7_length_11 : decode cX7_length 11 = .ok (.aload_n 0, 1) := by decide +kernel
theorem dX7_length_12 : decode cX7_length 12 = .ok (.invokevirtual 171, 3) := by decide +kernel
theorem dX7_length_15 : decode cX7_length 15 = .ok (.aaload, 1) := by decide +kernel
theorem dX7_length_16 : decode cX7_length 16 = .ok (.arraylength, 1) := by decide +kernel
theorem dX7_length_17 : decode cX7_length 17 = .ok (.goto 4, 3) := by decide +kernel
theorem dX7_length_20 : decode cX7_length 20 = .ok (.iconst 0, 1) := by decide +kernel
theorem dX7_length_21 : decode cX7_length 21 = .ok (.ireturn, 1) := by decide +kernel
theorem dX7_code_0 : decode cX7_code 0 = .ok (.aload_n 0, 1) := by decide +kernel
theorem dX7_code_1 : decode cX7_code 1 = .ok (.invokevirtual 167, 3) := by decide +kernel
theorem dX7_code_4 : decode cX7_code 4 = .ok (.ifCond .ne 5, 3) := by decide +kernel
theorem dX7_code_7 : decode cX7_code 7 = .ok (.iconst 0, 1) := by decide +kernel
theorem dX7_code_8 : decode cX7_code 8 = .ok (.ireturn, 1) := by decide +kernel
theorem dX7_code_9 : decode cX7_code 9 = .ok (.aload_n 0, 1) := by decide +kernel
theorem dX7_code_10 : decode cX7_code 10 = .ok (.getfield 30, 3) := by decide +kernel
theorem dX7_code_13 : decode cX7_code 13 = .ok (.aload_n 0, 1) := by decide +kernel
theorem dX7_code_14 : decode cX7_code 14 = .ok (.invokevirtual 171, 3) := by decide +kernel
theorem dX7_code_17 : decode cX7_code 17 = .ok (.aaload, 1) := by decide +kernel
theorem dX7_code_18 : decode cX7_code 18 = .ok (.astore_n 2, 1) := by decide +kernel
theorem dX7_code_19 : decode cX7_code 19 = .ok (.iload_n 1, 1) := by decide +kernel
theorem dX7_code_20 : decode cX7_code 20 = .ok (.ifCond .lt 15, 3) := by decide +kernel
theorem dX7_code_23 : decode cX7_code 23 = .ok (.iload_n 1, 1) := by decide +kernel
theorem dX7_code_24 : decode cX7_code 24 = .ok (.aload_n 2, 1) := by decide +kernel
theorem dX7_code_25 : decode cX7_code 25 = .ok (.arraylength, 1) := by decide +kernel
theorem dX7_code_26 : decode cX7_code 26 = .ok (.if_icmp .ge 9, 3) := by decide +kernel
theorem dX7_code_29 : decode cX7_code 29 = .ok (.aload_n 2, 1) := by decide +kernel
theorem dX7_code_30 : decode cX7_code 30 = .ok (.iload_n 1, 1) := by decide +kernel
theorem dX7_code_31 : decode cX7_code 31 = .ok (.iaload, 1) := by decide +kernel
theorem dX7_code_32 : decode cX7_code 32 = .ok (.goto 8, 3) := by decide +kernel
theorem dX7_code_35 : decode cX7_code 35 = .ok (.aload_n 0, 1) := by decide +kernel
theorem dX7_code_36 : decode cX7_code 36 = .ok (.iconst 2, 1) := by decide +kernel
theorem dX7_code_37 : decode cX7_code 37 = .ok (.invokevirtual 72, 3) := by decide +kernel
theorem dX7_code_40 : decode cX7_code 40 = .ok (.ireturn, 1) := by decide +kernel
theorem dX7_number_0 : decode cX7_number 0 = .ok (.aload_n 0, 1) := by decide +kernel
theorem dX7_number_1 : decode cX7_number 1 = .ok (.invokevirtual 167, 3) := by decide +kernel
theorem dX7_number_4 : decode cX7_number 4 = .ok (.ifCond .eq 10, 3) := by decide +kernel
theorem dX7_number_7 : decode cX7_number 7 = .ok (.aload_n 0, 1) := by decide +kernel
theorem dX7_number_8 : decode cX7_number 8 = .ok (.getfield 149, 3) := by decide +kernel
theorem dX7_number_11 : decode cX7_number 11 = .ok (.goto 4, 3) := by decide +kernel
theorem dX7_number_14 : decode cX7_number 14 = .ok (.iconst 0, 1) := by decide +kernel
theorem dX7_number_15 : decode cX7_number 15 = .ok (.ireturn, 1) := by decide +kernel
theorem dX7_height_0 : decode cX7_height 0 = .ok (.aload_n 0, 1) := by decide +kernel
theorem dX7_height_1 : decode cX7_height 1 = .ok (.invokevirtual 167, 3) := by decide +kernel
theorem dX7_height_4 : decode cX7_height 4 = .ok (.ifCond .eq 15, 3) := by decide +kernel
theorem dX7_height_7 : decode cX7_height 7 = .ok (.aload_n 0, 1) := by decide +kernel
theorem dX7_height_8 : decode cX7_height 8 = .ok (.getfield 37, 3) := by decide +kernel
theorem dX7_height_11 : decode cX7_height 11 = .ok (.aload_n 0, 1) := by decide +kernel
theorem dX7_height_12 : decode cX7_height 12 = .ok (.invokevirtual 171, 3) := by decide +kernel
theorem dX7_height_15 : decode cX7_height 15 = .ok (.iaload, 1) := by decide +kernel
theorem dX7_height_16 : decode cX7_height 16 = .ok (.goto 4, 3) := by decide +kernel
theorem dX7_height_19 : decode cX7_height 19 = .ok (.iconst 0, 1) := by decide +kernel
theorem dX7_height_20 : decode cX7_height 20 = .ok (.ireturn, 1) := by decide +kernel
theorem dX7_mean_0 : decode cX7_mean 0 = .ok (.aload_n 0, 1) := by decide +kernel
theorem dX7_mean_1 : decode cX7_mean 1 = .ok (.invokevirtual 167, 3) := by decide +kernel
theorem dX7_mean_4 : decode cX7_mean 4 = .ok (.ifCond .ne 5, 3) := by decide +kernel
theorem dX7_mean_7 : decode cX7_mean 7 = .ok (.dconst 0, 1) := by decide +kernel
theorem dX7_mean_8 : decode cX7_mean 8 = .ok (.dreturn, 1) := by decide +kernel
theorem dX7_mean_9 : decode cX7_mean 9 = .ok (.iconst 0, 1) := by decide +kernel
theorem dX7_mean_10 : decode cX7_mean 10 = .ok (.istore_n 1, 1) := by decide +kernel
theorem dX7_mean_11 : decode cX7_mean 11 = .ok (.iconst 0, 1) := by decide +kernel
theorem dX7_mean_12 : decode cX7_mean 12 = .ok (.istore_n 2, 1) := by decide +kernel
theorem dX7_mean_13 : decode cX7_mean 13 = .ok (.aload_n 0, 1) := by decide +kernel
theorem dX7_mean_14 : decode cX7_mean 14 = .ok (.getfield 30, 3) := by decide +kernel
theorem dX7_mean_17 : decode cX7_mean 17 = .ok (.aload_n 0, 1) := by decide +kernel
theorem dX7_mean_18 : decode cX7_mean 18 = .ok (.invokevirtual 171, 3) := by decide +kernel
theorem dX7_mean_21 : decode cX7_mean 21 = .ok (.aaload, 1) := by decide +kernel
theorem dX7_mean_22 : decode cX7_mean 22 = .ok (.astore_n 3, 1) := by decide +kernel
theorem dX7_mean_23 : decode cX7_mean 23 = .ok (.aload_n 3, 1) := by decide +kernel
theorem dX7_mean_24 : decode cX7_mean 24 = .ok (.arraylength, 1) := by decide +kernel
theorem dX7_mean_25 : decode cX7_mean 25 = .ok (.istore 4, 2) := by decide +kernel
theorem dX7_mean_27 : decode cX7_mean 27 = .ok (.iconst 0, 1) := by decide +kernel
theorem dX7_mean_28 : decode cX7_mean 28 = .ok (.istore 5, 2) := by decide +kernel
theorem dX7_mean_30 : decode cX7_mean 30 = .ok (.iload 5, 2) := by decide +kernel
theorem dX7_mean_32 : decode cX7_mean 32 = .ok (.iload 4, 2) := by decide +kernel
theorem dX7_mean_34 : decode cX7_mean 34 = .ok (.if_icmp .ge 46, 3) := by decide +kernel
theorem dX7_mean_37 : decode cX7_mean 37 = .ok (.aload_n 3, 1) := by decide +kernel
theorem dX7_mean_38 : decode cX7_mean 38 = .ok (.iload 5, 2) := by decide +kernel
theorem dX7_mean_40 : decode cX7_mean 40 = .ok (.iaload, 1) := by decide +kernel
theorem dX7_mean_41 : decode cX7_mean 41 = .ok (.istore 6, 2) := by decide +kernel
theorem dX7_mean_43 : decode cX7_mean 43 = .ok (.iload_n 1, 1) := by decide +kernel
theorem dX7_mean_44 : decode cX7_mean 44 = .ok (.iload 6, 2) := by decide +kernel
theorem dX7_mean_46 : decode cX7_mean 46 = .ok (.bipush 100, 2) := by decide +kernel
theorem dX7_mean_48 : decode cX7_mean 48 = .ok (.if_icmp .ge 8, 3) := by decide +kernel
theorem dX7_mean_51 : decode cX7_mean 51 = .ok (.iload 6, 2) := by decide +kernel
theorem dX7_mean_53 : decode cX7_mean 53 = .ok (.goto 4, 3) := by decide +kernel
theorem dX7_mean_56 : decode cX7_mean 56 = .ok (.iconst 0, 1) := by decide +kernel
theorem dX7_mean_57 : decode cX7_mean 57 = .ok (.iadd, 1) := by decide +kernel
theorem dX7_mean_58 : decode cX7_mean 58 = .ok (.istore_n 1, 1) := by decide +kernel
theorem dX7_mean_59 : decode cX7_mean 59 = .ok (.iload_n 2, 1) := by decide +kernel
theorem dX7_mean_60 : decode cX7_mean 60 = .ok (.iload 6, 2) := by decide +kernel
theorem dX7_mean_62 : decode cX7_mean 62 = .ok (.bipush 100, 2) := by decide +kernel
theorem dX7_mean_64 : decode cX7_mean 64 = .ok (.if_icmp .ge 7, 3) := by decide +kernel
theorem dX7_mean_67 : decode cX7_mean 67 = .ok (.iconst 1, 1) := by decide +kernel
theorem dX7_mean_68 : decode cX7_mean 68 = .ok (.goto 4, 3) := by decide +kernel
theorem dX7_mean_71 : decode cX7_mean 71 = .ok (.iconst 0, 1) := by decide +kernel
theorem dX7_mean_72 : decode cX7_mean 72 = .ok (.iadd, 1) := by decide +kernel
theorem dX7_mean_73 : decode cX7_mean 73 = .ok (.istore_n 2, 1) := by decide +kernel
theorem dX7_mean_74 : decode cX7_mean 74 = .ok (.iinc 5 1, 3) := by decide +kernel
theorem dX7_mean_77 : decode cX7_mean 77 = .ok (.goto (-47), 3) := by decide +kernel
theorem dX7_mean_80 : decode cX7_mean 80 = .ok (.iload_n 2, 1) := by decide +kernel
theorem dX7_mean_81 : decode cX7_mean 81 = .ok (.ifCond .ne 7, 3) := by decide +kernel
theorem dX7_mean_84 : decode cX7_mean 84 = .ok (.dconst 0, 1) := by decide +kernel
theorem dX7_mean_85 : decode cX7_mean 85 = .ok (.goto 8, 3) := by decide +kernel
theorem dX7_mean_88 : decode cX7_mean 88 = .ok (.iload_n 1, 1) := by decide +kernel
theorem dX7_mean_89 : decode cX7_mean 89 = .ok (.i2d, 1) := by decide +kernel
theorem dX7_mean_90 : decode cX7_mean 90 = .ok (.iload_n 2, 1) := by decide +kernel
theorem dX7_mean_91 : decode cX7_mean 91 = .ok (.i2d, 1) := by decide +kernel
theorem dX7_mean_92 : decode cX7_mean 92 = .ok (.ddiv, 1) := by decide +kernel
theorem dX7_mean_93 : decode cX7_mean 93 = .ok (.dreturn, 1) := by decide +kernel
theorem dX7_holds_0 : decode cX7_holds 0 = .ok (.aload_n 0, 1) := by decide +kernel
theorem dX7_holds_1 : decode cX7_holds 1 = .ok (.invokevirtual 167, 3) := by decide +kernel
theorem dX7_holds_4 : decode cX7_holds 4 = .ok (.ifCond .ne 5, 3) := by decide +kernel
theorem dX7_holds_7 : decode cX7_holds 7 = .ok (.iconst 0, 1) := by decide +kernel
theorem dX7_holds_8 : decode cX7_holds 8 = .ok (.ireturn, 1) := by decide +kernel
theorem dX7_holds_9 : decode cX7_holds 9 = .ok (.aload_n 0, 1) := by decide +kernel
theorem dX7_holds_10 : decode cX7_holds 10 = .ok (.iload_n 1, 1) := by decide +kernel
theorem dX7_holds_11 : decode cX7_holds 11 = .ok (.iconst 1, 1) := by decide +kernel
theorem dX7_holds_12 : decode cX7_holds 12 = .ok (.iconst 5, 1) := by decide +kernel
theorem dX7_holds_13 : decode cX7_holds 13 = .ok (.invokestatic 58, 3) := by decide +kernel
theorem dX7_holds_16 : decode cX7_holds 16 = .ok (.ifCond .eq 7, 3) := by decide +kernel
theorem dX7_holds_19 : decode cX7_holds 19 = .ok (.iconst 0, 1) := by decide +kernel
theorem dX7_holds_20 : decode cX7_holds 20 = .ok (.goto 4, 3) := by decide +kernel
theorem dX7_holds_23 : decode cX7_holds 23 = .ok (.iconst 2, 1) := by decide +kernel
theorem dX7_holds_24 : decode cX7_holds 24 = .ok (.putfield 52, 3) := by decide +kernel
theorem dX7_holds_27 : decode cX7_holds 27 = .ok (.aload_n 0, 1) := by decide +kernel
theorem dX7_holds_28 : decode cX7_holds 28 = .ok (.getfield 52, 3) := by decide +kernel
theorem dX7_holds_31 : decode cX7_holds 31 = .ok (.ifCond .ne 19, 3) := by decide +kernel
theorem dX7_holds_34 : decode cX7_holds 34 = .ok (.aload_n 0, 1) := by decide +kernel
theorem dX7_holds_35 : decode cX7_holds 35 = .ok (.aload_n 0, 1) := by decide +kernel
theorem dX7_holds_36 : decode cX7_holds 36 = .ok (.invokevirtual 171, 3) := by decide +kernel
theorem dX7_holds_39 : decode cX7_holds 39 = .ok (.iload_n 1, 1) := by decide +kernel
theorem dX7_holds_40 : decode cX7_holds 40 = .ok (.invokevirtual 146, 3) := by decide +kernel
theorem dX7_holds_43 : decode cX7_holds 43 = .ok (.ifCond .eq 7, 3) := by decide +kernel
theorem dX7_holds_46 : decode cX7_holds 46 = .ok (.iconst 1, 1) := by decide +kernel
theorem dX7_holds_47 : decode cX7_holds 47 = .ok (.goto 4, 3) := by decide +kernel
theorem dX7_holds_50 : decode cX7_holds 50 = .ok (.iconst 0, 1) := by decide +kernel
theorem dX7_holds_51 : decode cX7_holds 51 = .ok (.ireturn, 1) := by decide +kernel
theorem dX7_add_0 : decode cX7_add 0 = .ok (.iload_n 1, 1) := by decide +kernel
theorem dX7_add_1 : decode cX7_add 1 = .ok (.iconst (-1), 1) := by decide +kernel
theorem dX7_add_2 : decode cX7_add 2 = .ok (.if_icmp .eq 7, 3) := by decide +kernel
theorem dX7_add_5 : decode cX7_add 5 = .ok (.iconst 1, 1) := by decide +kernel
theorem dX7_add_6 : decode cX7_add 6 = .ok (.goto 4, 3) := by decide +kernel
theorem dX7_add_9 : decode cX7_add 9 = .ok (.iconst 0, 1) := by decide +kernel
theorem dX7_add_10 : decode cX7_add 10 = .ok (.istore_n 2, 1) := by decide +kernel
theorem dX7_add_11 : decode cX7_add 11 = .ok (.iconst 0, 1) := by decide +kernel
theorem dX7_add_12 : decode cX7_add 12 = .ok (.istore_n 3, 1) := by decide +kernel
theorem dX7_add_13 : decode cX7_add 13 = .ok (.iload_n 3, 1) := by decide +kernel
theorem dX7_add_14 : decode cX7_add 14 = .ok (.aload_n 0, 1) := by decide +kernel
theorem dX7_add_15 : decode cX7_add 15 = .ok (.getfield 175, 3) := by decide +kernel
theorem dX7_add_18 : decode cX7_add 18 = .ok (.if_icmp .ge 29, 3) := by decide +kernel
theorem dX7_add_21 : decode cX7_add 21 = .ok (.iload_n 2, 1) := by decide +kernel
theorem dX7_add_22 : decode cX7_add 22 = .ok (.ifCond .eq 17, 3) := by decide +kernel
theorem dX7_add_25 : decode cX7_add 25 = .ok (.aload_n 0, 1) := by decide +kernel
theorem dX7_add_26 : decode cX7_add 26 = .ok (.getfield 49, 3) := by decide +kernel
theorem dX7_add_29 : decode cX7_add 29 = .ok (.iload_n 3, 1) := by decide +kernel
theorem dX7_add_30 : decode cX7_add 30 = .ok (.iaload, 1) := by decide +kernel
theorem dX7_add_31 : decode cX7_add 31 = .ok (.iload_n 1, 1) := by decide +kernel
theorem dX7_add_32 : decode cX7_add 32 = .ok (.if_icmp .eq 7, 3) := by decide +kernel
theorem dX7_add_35 : decode cX7_add 35 = .ok (.iconst 1, 1) := by decide +kernel
theorem dX7_add_36 : decode cX7_add 36 = .ok (.goto 4, 3) := by decide +kernel
theorem dX7_add_39 : decode cX7_add 39 = .ok (.iconst 0, 1) := by decide +kernel
theorem dX7_add_40 : decode cX7_add 40 = .ok (.istore_n 2, 1) := by decide +kernel
theorem dX7_add_41 : decode cX7_add 41 = .ok (.iinc 3 1, 3) := by decide +kernel
theorem dX7_add_44 : decode cX7_add 44 = .ok (.goto (-31), 3) := by decide +kernel
theorem dX7_add_47 : decode cX7_add 47 = .ok (.iload_n 2, 1) := by decide +kernel
theorem dX7_add_48 : decode cX7_add 48 = .ok (.ifCond .ne 4, 3) := by decide +kernel
theorem dX7_add_51 : decode cX7_add 51 = .ok (.return_, 1) := by decide +kernel
theorem dX7_add_52 : decode cX7_add 52 = .ok (.aload_n 0, 1) := by decide +kernel
theorem dX7_add_53 : decode cX7_add 53 = .ok (.getfield 49, 3) := by decide +kernel
theorem dX7_add_56 : decode cX7_add 56 = .ok (.aload_n 0, 1) := by decide +kernel
theorem dX7_add_57 : decode cX7_add 57 = .ok (.getfield 175, 3) := by decide +kernel
theorem dX7_add_60 : decode cX7_add 60 = .ok (.iload_n 1, 1) := by decide +kernel
theorem dX7_add_61 : decode cX7_add 61 = .ok (.iastore, 1) := by decide +kernel
theorem dX7_add_62 : decode cX7_add 62 = .ok (.aload_n 0, 1) := by decide +kernel
theorem dX7_add_63 : decode cX7_add 63 = .ok (.dup, 1) := by decide +kernel
theorem dX7_add_64 : decode cX7_add 64 = .ok (.getfield 175, 3) := by decide +kernel
theorem dX7_add_67 : decode cX7_add 67 = .ok (.iconst 1, 1) := by decide +kernel
theorem dX7_add_68 : decode cX7_add 68 = .ok (.iadd, 1) := by decide +kernel
theorem dX7_add_69 : decode cX7_add 69 = .ok (.putfield 175, 3) := by decide +kernel
theorem dX7_add_72 : decode cX7_add 72 = .ok (.return_, 1) := by decide +kernel
theorem dX7_findReductions_0 : decode cX7_findReductions 0 = .ok (.aload_n 0, 1) := by decide +kernel
theorem dX7_findReductions_1 : decode cX7_findReductions 1 = .ok (.iconst 0, 1) := by decide +kernel
theorem dX7_findReductions_2 : decode cX7_findReductions 2 = .ok (.putfield 175, 3) := by decide +kernel
theorem dX7_findReductions_5 : decode cX7_findReductions 5 = .ok (.aload_n 0, 1) := by decide +kernel
theorem dX7_findReductions_6 : decode cX7_findReductions 6 = .ok (.getfield 30, 3) := by decide +kernel
theorem dX7_findReductions_9 : decode cX7_findReductions 9 = .ok (.aload_n 0, 1) := by decide +kernel
theorem dX7_findReductions_10 : decode cX7_findReductions 10 = .ok (.invokevirtual 171, 3) := by decide +kernel
theorem dX7_findReductions_13 : decode cX7_findReductions 13 = .ok (.aaload, 1) := by decide +kernel
theorem dX7_findReductions_14 : decode cX7_findReductions 14 = .ok (.astore_n 1, 1) := by decide +kernel
theorem dX7_findReductions_15 : decode cX7_findReductions 15 = .ok (.iconst 1, 1) := by decide +kernel
theorem dX7_findReductions_16 : decode cX7_findReductions 16 = .ok (.istore_n 2, 1) := by decide +kernel
theorem dX7_findReductions_17 : decode cX7_findReductions 17 = .ok (.iload_n 2, 1) := by decide +kernel
theorem dX7_findReductions_18 : decode cX7_findReductions 18 = .ok (.aload_n 1, 1) := by decide +kernel
theorem dX7_findReductions_19 : decode cX7_findReductions 19 = .ok (.arraylength, 1) := by decide +kernel
theorem dX7_findReductions_20 : decode cX7_findReductions 20 = .ok (.if_icmp .ge 73, 3) := by decide +kernel
theorem dX7_findReductions_23 : decode cX7_findReductions 23 = .ok (.aload_n 1, 1) := by decide +kernel
theorem dX7_findReductions_24 : decode cX7_findReductions 24 = .ok (.iload_n 2, 1) := by decide +kernel
theorem dX7_findReductions_25 : decode cX7_findReductions 25 = .ok (.iaload, 1) := by decide +kernel
theorem dX7_findReductions_26 : decode cX7_findReductions 26 = .ok (.bipush 100, 2) := by decide +kernel
theorem dX7_findReductions_28 : decode cX7_findReductions 28 = .ok (.if_icmp .lt 59, 3) := by decide +kernel
theorem dX7_findReductions_31 : decode cX7_findReductions 31 = .ok (.aload_n 0, 1) := by decide +kernel
theorem dX7_findReductions_32 : decode cX7_findReductions 32 = .ok (.getfield 13, 3) := by decide +kernel
theorem dX7_findReductions_35 : decode cX7_findReductions 35 = .ok (.aload_n 1, 1) := by decide +kernel
theorem dX7_findReductions_36 : decode cX7_findReductions 36 = .ok (.iload_n 2, 1) := by decide +kernel
theorem dX7_findReductions_37 : decode cX7_findReductions 37 = .ok (.iaload, 1) := by decide +kernel
theorem dX7_findReductions_38 : decode cX7_findReductions 38 = .ok (.bipush 100, 2) := by decide +kernel
theorem dX7_findReductions_40 : decode cX7_findReductions 40 = .ok (.isub, 1) := by decide +kernel
theorem dX7_findReductions_41 : decode cX7_findReductions 41 = .ok (.iaload, 1) := by decide +kernel
theorem dX7_findReductions_42 : decode cX7_findReductions 42 = .ok (.aload_n 0, 1) := by decide +kernel
theorem dX7_findReductions_43 : decode cX7_findReductions 43 = .ok (.getfield 26, 3) := by decide +kernel
theorem dX7_findReductions_46 : decode cX7_findReductions 46 = .ok (.if_icmp .eq 6, 3) := by decide +kernel
theorem dX7_findReductions_49 : decode cX7_findReductions 49 = .ok (.goto 38, 3) := by decide +kernel
theorem dX7_findReductions_52 : decode cX7_findReductions 52 = .ok (.aload_n 0, 1) := by decide +kernel
theorem dX7_findReductions_53 : decode cX7_findReductions 53 = .ok (.aload_n 1, 1) := by decide +kernel
theorem dX7_findReductions_54 : decode cX7_findReductions 54 = .ok (.iload_n 2, 1) := by decide +kernel
theorem dX7_findReductions_55 : decode cX7_findReductions 55 = .ok (.invokevirtual 106, 3) := by decide +kernel
theorem dX7_findReductions_58 : decode cX7_findReductions 58 = .ok (.iload_n 2, 1) := by decide +kernel
theorem dX7_findReductions_59 : decode cX7_findReductions 59 = .ok (.isub, 1) := by decide +kernel
theorem dX7_findReductions_60 : decode cX7_findReductions 60 = .ok (.newarray .int, 2) := by decide +kernel
theorem dX7_findReductions_62 : decode cX7_findReductions 62 = .ok (.astore_n 3, 1) := by decide +kernel
theorem dX7_findReductions_63 : decode cX7_findReductions 63 = .ok (.aload_n 1, 1) := by decide +kernel
theorem dX7_findReductions_64 : decode cX7_findReductions 64 = .ok (.iload_n 2, 1) := by decide +kernel
theorem dX7_findReductions_65 : decode cX7_findReductions 65 = .ok (.aload_n 3, 1) := by decide +kernel
theorem dX7_findReductions_66 : decode cX7_findReductions 66 = .ok (.iconst 0, 1) := by decide +kernel
theorem dX7_findReductions_67 : decode cX7_findReductions 67 = .ok (.aload_n 3, 1) := by decide +kernel
theorem dX7_findReductions_68 : decode cX7_findReductions 68 = .ok (.arraylength, 1) := by decide +kernel
theorem dX7_findReductions_69 : decode cX7_findReductions 69 = .ok (.invokestatic 121, 3) := by decide +kernel
theorem dX7_findReductions_72 : decode cX7_findReductions 72 = .ok (.aload_n 0, 1) := by decide +kernel
theorem dX7_findReductions_73 : decode cX7_findReductions 73 = .ok (.aload_n 0, 1) := by decide +kernel
theorem dX7_findReductions_74 : decode cX7_findReductions 74 = .ok (.aload_n 0, 1) := by decide +kernel
theorem dX7_findReductions_75 : decode cX7_findReductions 75 = .ok (.getfield 26, 3) := by decide +kernel
theorem dX7_findReductions_78 : decode cX7_findReductions 78 = .ok (.aload_n 3, 1) := by decide +kernel
theorem dX7_findReductions_79 : decode cX7_findReductions 79 = .ok (.aload_n 3, 1) := by decide +kernel
theorem dX7_findReductions_80 : decode cX7_findReductions 80 = .ok (.arraylength, 1) := by decide +kernel
theorem dX7_findReductions_81 : decode cX7_findReductions 81 = .ok (.invokevirtual 163, 3) := by decide +kernel
theorem dX7_findReductions_84 : decode cX7_findReductions 84 = .ok (.invokevirtual 178, 3) := by decide +kernel
theorem dX7_findReductions_87 : decode cX7_findReductions 87 = .ok (.iinc 2 1, 3) := by decide +kernel
theorem dX7_findReductions_90 : decode cX7_findReductions 90 = .ok (.goto (-73), 3) := by decide +kernel
theorem dX7_findReductions_93 : decode cX7_findReductions 93 = .ok (.iconst 1, 1) := by decide +kernel
theorem dX7_findReductions_94 : decode cX7_findReductions 94 = .ok (.istore_n 2, 1) := by decide +kernel
theorem dX7_findReductions_95 : decode cX7_findReductions 95 = .ok (.iload_n 2, 1) := by decide +kernel
theorem dX7_findReductions_96 : decode cX7_findReductions 96 = .ok (.aload_n 1, 1) := by decide +kernel
theorem dX7_findReductions_97 : decode cX7_findReductions 97 = .ok (.arraylength, 1) := by decide +kernel
theorem dX7_findReductions_98 : decode cX7_findReductions 98 = .ok (.if_icmp .ge 79, 3) := by decide +kernel
theorem dX7_findReductions_101 : decode cX7_findReductions 101 = .ok (.aload_n 1, 1) := by decide +kernel
theorem dX7_findReductions_102 : decode cX7_findReductions 102 = .ok (.iload_n 2, 1) := by decide +kernel
theorem dX7_findReductions_103 : decode cX7_findReductions 103 = .ok (.iaload, 1) := by decide +kernel
theorem dX7_findReductions_104 : decode cX7_findReductions 104 = .ok (.istore_n 3, 1) := by decide +kernel
theorem dX7_findReductions_105 : decode cX7_findReductions 105 = .ok (.iload_n 3, 1) := by decide +kernel
theorem dX7_findReductions_106 : decode cX7_findReductions 106 = .ok (.bipush 100, 2) := by decide +kernel
theorem dX7_findReductions_108 : decode cX7_findReductions 108 = .ok (.if_icmp .lt 6, 3) := by decide +kernel
theorem dX7_findReductions_111 : decode cX7_findReductions 111 = .ok (.goto 60, 3) := by decide +kernel
theorem dX7_findReductions_114 : decode cX7_findReductions 114 = .ok (.aload_n 1, 1) := by decide +kernel
theorem dX7_findReductions_115 : decode cX7_findReductions 115 = .ok (.arraylength, 1) := by decide +kernel
theorem dX7_findReductions_116 : decode cX7_findReductions 116 = .ok (.newarray .int, 2) := by decide +kernel
theorem dX7_findReductions_118 : decode cX7_findReductions 118 = .ok (.astore 4, 2) := by decide +kernel
theorem dX7_findReductions_120 : decode cX7_findReductions 120 = .ok (.aload_n 1, 1) := by decide +kernel
theorem dX7_findReductions_121 : decode cX7_findReductions 121 = .ok (.iconst 0, 1) := by decide +kernel
theorem dX7_findReductions_122 : decode cX7_findReductions 122 = .ok (.aload 4, 2) := by decide +kernel
theorem dX7_findReductions_124 : decode cX7_findReductions 124 = .ok (.iconst 0, 1) := by decide +kernel
theorem dX7_findReductions_125 : decode cX7_findReductions 125 = .ok (.aload_n 1, 1) := by decide +kernel
theorem dX7_findReductions_126 : decode cX7_findReductions 126 = .ok (.arraylength, 1) := by decide +kernel
theorem dX7_findReductions_127 : decode cX7_findReductions 127 = .ok (.invokestatic 121, 3) := by decide +kernel
theorem dX7_findReductions_130 : decode cX7_findReductions 130 = .ok (.aload_n 0, 1) := by decide +kernel
theorem dX7_findReductions_131 : decode cX7_findReductions 131 = .ok (.getfield 66, 3) := by decide +kernel
theorem dX7_findReductions_134 : decode cX7_findReductions 134 = .ok (.istore 5, 2) := by decide +kernel
theorem dX7_findReductions_136 : decode cX7_findReductions 136 = .ok (.iload 5, 2) := by decide +kernel
theorem dX7_findReductions_138 : decode cX7_findReductions 138 = .ok (.iload_n 3, 1) := by decide +kernel
theorem dX7_findReductions_139 : decode cX7_findReductions 139 = .ok (.if_icmp .ge 32, 3) := by decide +kernel
theorem dX7_findReductions_142 : decode cX7_findReductions 142 = .ok (.aload 4, 2) := by decide +kernel
theorem dX7_findReductions_144 : decode cX7_findReductions 144 = .ok (.iload_n 2, 1) := by decide +kernel
theorem dX7_findReductions_145 : decode cX7_findReductions 145 = .ok (.iload 5, 2) := by decide +kernel
theorem dX7_findReductions_147 : decode cX7_findReductions 147 = .ok (.iastore, 1) := by decide +kernel
theorem dX7_findReductions_148 : decode cX7_findReductions 148 = .ok (.aload_n 0, 1) := by decide +kernel
theorem dX7_findReductions_149 : decode cX7_findReductions 149 = .ok (.aload_n 0, 1) := by decide +kernel
theorem dX7_findReductions_150 : decode cX7_findReductions 150 = .ok (.aload_n 0, 1) := by decide +kernel
theorem dX7_findReductions_151 : decode cX7_findReductions 151 = .ok (.getfield 26, 3) := by decide +kernel
theorem dX7_findReductions_154 : decode cX7_findReductions 154 = .ok (.aload 4, 2) := by decide +kernel
theorem dX7_findReductions_156 : decode cX7_findReductions 156 = .ok (.aload 4, 2) := by decide +kernel
theorem dX7_findReductions_158 : decode cX7_findReductions 158 = .ok (.arraylength, 1) := by decide +kernel
theorem dX7_findReductions_159 : decode cX7_findReductions 159 = .ok (.invokevirtual 163, 3) := by decide +kernel
theorem dX7_findReductions_162 : decode cX7_findReductions 162 = .ok (.invokevirtual 178, 3) := by decide +kernel
theorem dX7_findReductions_165 : decode cX7_findReductions 165 = .ok (.iinc 5 1, 3) := by decide +kernel
