-- rows of the printed names (given for pasting)
theorem dX0_init_0 : decode cX0_init 0 = .ok (.aload_n 0, 1) := by decide +kernel
theorem dX0_init_1 : decode cX0_init 1 = .ok (.invokespecial 3, 3) := by decide +kernel
theorem dX0_init_4 : decode cX0_init 4 = .ok (.aload_n 0, 1) := by decide +kernel
theorem dX0_init_5 : decode cX0_init 5 = .ok (.bipush 20, 2) := by decide +kernel
theorem dX0_init_7 : decode cX0_init 7 = .ok (.newarray .int, 2) := by decide +kernel
theorem dX0_init_9 : decode cX0_init 9 = .ok (.putfield 11, 3) := by decide +kernel
theorem dX0_init_12 : decode cX0_init 12 = .ok (.aload_n 0, 1) := by decide +kernel
theorem dX0_init_13 : decode cX0_init 13 = .ok (.iconst 0, 1) := by decide +kernel
theorem dX0_init_14 : decode cX0_init 14 = .ok (.putfield 15, 3) := by decide +kernel
theorem dX0_init_17 : decode cX0_init 17 = .ok (.aload_n 0, 1) := by decide +kernel
theorem dX0_init_18 : decode cX0_init 18 = .ok (.iconst 0, 1) := by decide +kernel
theorem dX0_init_19 : decode cX0_init 19 = .ok (.putfield 19, 3) := by decide +kernel
theorem dX0_init_22 : decode cX0_init 22 = .ok (.aload_n 0, 1) := by decide +kernel
theorem dX0_init_23 : decode cX0_init 23 = .ok (.iconst 0, 1) := by decide +kernel
theorem dX0_init_24 : decode cX0_init 24 = .ok (.putfield 22, 3) := by decide +kernel
theorem dX0_init_27 : decode cX0_init 27 = .ok (.aload_n 0, 1) := by decide +kernel
theorem dX0_init_28 : decode cX0_init 28 = .ok (.iconst 0, 1) := by decide +kernel
theorem dX0_init_29 : decode cX0_init 29 = .ok (.putfield 25, 3) := by decide +kernel
theorem dX0_init_32 : decode cX0_init 32 = .ok (.return_, 1) := by decide +kernel
theorem dX0_forget_0 : decode cX0_forget 0 = .ok (.aload_n 0, 1) := by decide +kernel
theorem dX0_forget_1 : decode cX0_forget 1 = .ok (.iconst 0, 1) := by decide +kernel
theorem dX0_forget_2 : decode cX0_forget 2 = .ok (.putfield 15, 3) := by decide +kernel
theorem dX0_forget_5 : decode cX0_forget 5 = .ok (.return_, 1) := by decide +kernel
theorem dX0_actsFor_0 : decode cX0_actsFor 0 = .ok (.aload_n 0, 1) := by decide +kernel
theorem dX0_actsFor_1 : decode cX0_actsFor 1 = .ok (.iload_n 1, 1) := by decide +kernel
theorem dX0_actsFor_2 : decode cX0_actsFor 2 = .ok (.putfield 19, 3) := by decide +kernel
theorem dX0_actsFor_5 : decode cX0_actsFor 5 = .ok (.aload_n 0, 1) := by decide +kernel
theorem dX0_actsFor_6 : decode cX0_actsFor 6 = .ok (.iload_n 2, 1) := by decide +kernel
theorem dX0_actsFor_7 : decode cX0_actsFor 7 = .ok (.putfield 22, 3) := by decide +kernel
theorem dX0_actsFor_10 : decode cX0_actsFor 10 = .ok (.aload_n 0, 1) := by decide +kernel
theorem dX0_actsFor_11 : decode cX0_actsFor 11 = .ok (.iload_n 3, 1) := by decide +kernel
theorem dX0_actsFor_12 : decode cX0_actsFor 12 = .ok (.putfield 25, 3) := by decide +kernel
theorem dX0_actsFor_15 : decode cX0_actsFor 15 = .ok (.aload_n 0, 1) := by decide +kernel
theorem dX0_actsFor_16 : decode cX0_actsFor 16 = .ok (.iload 4, 2) := by decide +kernel
theorem dX0_actsFor_18 : decode cX0_actsFor 18 = .ok (.iload 5, 2) := by decide +kernel
theorem dX0_actsFor_20 : decode cX0_actsFor 20 = .ok (.aload_n 0, 1) := by decide +kernel
theorem dX0_actsFor_21 : decode cX0_actsFor 21 = .ok (.getfield 22, 3) := by decide +kernel
theorem dX0_actsFor_24 : decode cX0_actsFor 24 = .ok (.iconst 0, 1) := by decide +kernel
theorem dX0_actsFor_25 : decode cX0_actsFor 25 = .ok (.invokevirtual 28, 3) := by decide +kernel
theorem dX0_actsFor_28 : decode cX0_actsFor 28 = .ok (.ireturn, 1) := by decide +kernel
theorem dX0_hasKept_0 : decode cX0_hasKept 0 = .ok (.iload_n 1, 1) := by decide +kernel
theorem dX0_hasKept_1 : decode cX0_hasKept 1 = .ok (.ifCond .lt 21, 3) := by decide +kernel
theorem dX0_hasKept_4 : decode cX0_hasKept 4 = .ok (.iload_n 1, 1) := by decide +kernel
theorem dX0_hasKept_5 : decode cX0_hasKept 5 = .ok (.aload_n 0, 1) := by decide +kernel
theorem dX0_hasKept_6 : decode cX0_hasKept 6 = .ok (.getfield 15, 3) := by decide +kernel
theorem dX0_hasKept_9 : decode cX0_hasKept 9 = .ok (.if_icmp .ge 13, 3) := by decide +kernel
theorem dX0_hasKept_12 : decode cX0_hasKept 12 = .ok (.iload_n 1, 1) := by decide +kernel
theorem dX0_hasKept_13 : decode cX0_hasKept 13 = .ok (.bipush 20, 2) := by decide +kernel
theorem dX0_hasKept_15 : decode cX0_hasKept 15 = .ok (.if_icmp .ge 7, 3) := by decide +kernel
theorem dX0_hasKept_18 : decode cX0_hasKept 18 = .ok (.iconst 1, 1) := by decide +kernel
theorem dX0_hasKept_19 : decode cX0_hasKept 19 = .ok (.goto 4, 3) := by decide +kernel
theorem dX0_hasKept_22 : decode cX0_hasKept 22 = .ok (.iconst 0, 1) := by decide +kernel
theorem dX0_hasKept_23 : decode cX0_hasKept 23 = .ok (.ireturn, 1) := by decide +kernel
theorem dX0_kept_0 : decode cX0_kept 0 = .ok (.aload_n 0, 1) := by decide +kernel
theorem dX0_kept_1 : decode cX0_kept 1 = .ok (.iload_n 1, 1) := by decide +kernel
theorem dX0_kept_2 : decode cX0_kept 2 = .ok (.invokevirtual 32, 3) := by decide +kernel
theorem dX0_kept_5 : decode cX0_kept 5 = .ok (.ifCond .eq 12, 3) := by decide +kernel
theorem dX0_kept_8 : decode cX0_kept 8 = .ok (.aload_n 0, 1) := by decide +kernel
theorem dX0_kept_9 : decode cX0_kept 9 = .ok (.getfield 11, 3) := by decide +kernel
theorem dX0_kept_12 : decode cX0_kept 12 = .ok (.iload_n 1, 1) := by decide +kernel
theorem dX0_kept_13 : decode cX0_kept 13 = .ok (.iaload, 1) := by decide +kernel
theorem dX0_kept_14 : decode cX0_kept 14 = .ok (.goto 4, 3) := by decide +kernel
theorem dX0_kept_17 : decode cX0_kept 17 = .ok (.iconst 0, 1) := by decide +kernel
theorem dX0_kept_18 : decode cX0_kept 18 = .ok (.ireturn, 1) := by decide +kernel
theorem dX0_does_0 : decode cX0_does 0 = .ok (.iload_n 3, 1) := by decide +kernel
theorem dX0_does_1 : decode cX0_does 1 = .ok (.istore 5, 2) := by decide +kernel
theorem dX0_does_3 : decode cX0_does 3 = .ok (.iconst 0, 1) := by decide +kernel
theorem dX0_does_4 : decode cX0_does 4 = .ok (.istore 6, 2) := by decide +kernel
theorem dX0_does_6 : decode cX0_does 6 = .ok (.iload 6, 2) := by decide +kernel
theorem dX0_does_8 : decode cX0_does 8 = .ok (.iconst 3, 1) := by decide +kernel
theorem dX0_does_9 : decode cX0_does 9 = .ok (.if_icmp .ge 25, 3) := by decide +kernel
theorem dX0_does_12 : decode cX0_does 12 = .ok (.iload 5, 2) := by decide +kernel
theorem dX0_does_14 : decode cX0_does 14 = .ok (.iload_n 1, 1) := by decide +kernel
theorem dX0_does_15 : decode cX0_does 15 = .ok (.invokestatic 36, 3) := by decide +kernel
theorem dX0_does_18 : decode cX0_does 18 = .ok (.ifCond .ne 16, 3) := by decide +kernel
theorem dX0_does_21 : decode cX0_does 21 = .ok (.iload 5, 2) := by decide +kernel
theorem dX0_does_23 : decode cX0_does 23 = .ok (.invokestatic 40, 3) := by decide +kernel
theorem dX0_does_26 : decode cX0_does 26 = .ok (.istore 5, 2) := by decide +kernel
theorem dX0_does_28 : decode cX0_does 28 = .ok (.iinc 6 1, 3) := by decide +kernel
theorem dX0_does_31 : decode cX0_does 31 = .ok (.goto (-25), 3) := by decide +kernel
theorem dX0_does_34 : decode cX0_does 34 = .ok (.iload 5, 2) := by decide +kernel
theorem dX0_does_36 : decode cX0_does 36 = .ok (.iload_n 1, 1) := by decide +kernel
theorem dX0_does_37 : decode cX0_does 37 = .ok (.invokestatic 36, 3) := by decide +kernel
theorem dX0_does_40 : decode cX0_does 40 = .ok (.istore 6, 2) := by decide +kernel
theorem dX0_does_42 : decode cX0_does 42 = .ok (.iload 6, 2) := by decide +kernel
theorem dX0_does_44 : decode cX0_does 44 = .ok (.ifCond .eq 10, 3) := by decide +kernel
theorem dX0_does_47 : decode cX0_does 47 = .ok (.iload 4, 2) := by decide +kernel
theorem dX0_does_49 : decode cX0_does 49 = .ok (.bipush 30, 2) := by decide +kernel
theorem dX0_does_51 : decode cX0_does 51 = .ok (.if_icmp .le 5, 3) := by decide +kernel
theorem dX0_does_54 : decode cX0_does 54 = .ok (.iconst 0, 1) := by decide +kernel
theorem dX0_does_55 : decode cX0_does 55 = .ok (.ireturn, 1) := by decide +kernel
theorem dX0_does_56 : decode cX0_does 56 = .ok (.aload_n 0, 1) := by decide +kernel
theorem dX0_does_57 : decode cX0_does 57 = .ok (.iload 6, 2) := by decide +kernel
theorem dX0_does_59 : decode cX0_does 59 = .ok (.invokevirtual 44, 3) := by decide +kernel
theorem dX0_does_62 : decode cX0_does 62 = .ok (.aload_n 0, 1) := by decide +kernel
theorem dX0_does_63 : decode cX0_does 63 = .ok (.iload 6, 2) := by decide +kernel
theorem dX0_does_65 : decode cX0_does 65 = .ok (.iload_n 2, 1) := by decide +kernel
theorem dX0_does_66 : decode cX0_does 66 = .ok (.iload 5, 2) := by decide +kernel
theorem dX0_does_68 : decode cX0_does 68 = .ok (.invokestatic 40, 3) := by decide +kernel
theorem dX0_does_71 : decode cX0_does 71 = .ok (.iload 4, 2) := by decide +kernel
theorem dX0_does_73 : decode cX0_does 73 = .ok (.iconst 1, 1) := by decide +kernel
theorem dX0_does_74 : decode cX0_does 74 = .ok (.iadd, 1) := by decide +kernel
theorem dX0_does_75 : decode cX0_does 75 = .ok (.invokevirtual 48, 3) := by decide +kernel
theorem dX0_does_78 : decode cX0_does 78 = .ok (.ireturn, 1) := by decide +kernel
theorem dX0_runs_0 : decode cX0_runs 0 = .ok (.iload_n 1, 1) := by decide +kernel
theorem dX0_runs_1 : decode cX0_runs 1 = .ok (.lookupswitch 260 #[(10, 99), (11, 106), (12, 124), (20, 139), (30, 152), (40, 164), (50, 187), (51, 198), (60, 210), (70, 225), (71, 245)], 99) := by decide +kernel
theorem dX0_runs_100 : decode cX0_runs 100 = .ok (.iload_n 2, 1) := by decide +kernel
theorem dX0_runs_101 : decode cX0_runs 101 = .ok (.aload_n 0, 1) := by decide +kernel
theorem dX0_runs_102 : decode cX0_runs 102 = .ok (.getfield 19, 3) := by decide +kernel
theorem dX0_runs_105 : decode cX0_runs 105 = .ok (.iadd, 1) := by decide +kernel
theorem dX0_runs_106 : decode cX0_runs 106 = .ok (.ireturn, 1) := by decide +kernel
theorem dX0_runs_107 : decode cX0_runs 107 = .ok (.aload_n 0, 1) := by decide +kernel
theorem dX0_runs_108 : decode cX0_runs 108 = .ok (.iconst 0, 1) := by decide +kernel
theorem dX0_runs_109 : decode cX0_runs 109 = .ok (.iload_n 2, 1) := by decide +kernel
theorem dX0_runs_110 : decode cX0_runs 110 = .ok (.aload_n 0, 1) := by decide +kernel
theorem dX0_runs_111 : decode cX0_runs 111 = .ok (.getfield 22, 3) := by decide +kernel
theorem dX0_runs_114 : decode cX0_runs 114 = .ok (.iload 4, 2) := by decide +kernel
theorem dX0_runs_116 : decode cX0_runs 116 = .ok (.invokevirtual 28, 3) := by decide +kernel
theorem dX0_runs_119 : decode cX0_runs 119 = .ok (.aload_n 0, 1) := by decide +kernel
theorem dX0_runs_120 : decode cX0_runs 120 = .ok (.getfield 25, 3) := by decide +kernel
theorem dX0_runs_123 : decode cX0_runs 123 = .ok (.isub, 1) := by decide +kernel
theorem dX0_runs_124 : decode cX0_runs 124 = .ok (.ireturn, 1) := by decide +kernel
theorem dX0_runs_125 : decode cX0_runs 125 = .ok (.aload_n 0, 1) := by decide +kernel
theorem dX0_runs_126 : decode cX0_runs 126 = .ok (.iconst 1, 1) := by decide +kernel
theorem dX0_runs_127 : decode cX0_runs 127 = .ok (.iload_n 2, 1) := by decide +kernel
theorem dX0_runs_128 : decode cX0_runs 128 = .ok (.aload_n 0, 1) := by decide +kernel
theorem dX0_runs_129 : decode cX0_runs 129 = .ok (.getfield 22, 3) := by decide +kernel
theorem dX0_runs_132 : decode cX0_runs 132 = .ok (.iload 4, 2) := by decide +kernel
theorem dX0_runs_134 : decode cX0_runs 134 = .ok (.invokevirtual 28, 3) := by decide +kernel
theorem dX0_runs_137 : decode cX0_runs 137 = .ok (.iconst 2, 1) := by decide +kernel
theorem dX0_runs_138 : decode cX0_runs 138 = .ok (.imul, 1) := by decide +kernel
theorem dX0_runs_139 : decode cX0_runs 139 = .ok (.ireturn, 1) := by decide +kernel
theorem dX0_runs_140 : decode cX0_runs 140 = .ok (.aload_n 0, 1) := by decide +kernel
theorem dX0_runs_141 : decode cX0_runs 141 = .ok (.iconst 1, 1) := by decide +kernel
theorem dX0_runs_142 : decode cX0_runs 142 = .ok (.iload_n 2, 1) := by decide +kernel
theorem dX0_runs_143 : decode cX0_runs 143 = .ok (.iload_n 3, 1) := by decide +kernel
theorem dX0_runs_144 : decode cX0_runs 144 = .ok (.iload 4, 2) := by decide +kernel
theorem dX0_runs_146 : decode cX0_runs 146 = .ok (.invokevirtual 28, 3) := by decide +kernel
theorem dX0_runs_149 : decode cX0_runs 149 = .ok (.bipush 6, 2) := by decide +kernel
theorem dX0_runs_151 : decode cX0_runs 151 = .ok (.ixor, 1) := by decide +kernel
theorem dX0_runs_152 : decode cX0_runs 152 = .ok (.ireturn, 1) := by decide +kernel
theorem dX0_runs_153 : decode cX0_runs 153 = .ok (.aload_n 0, 1) := by decide +kernel
theorem dX0_runs_154 : decode cX0_runs 154 = .ok (.iconst 0, 1) := by decide +kernel
theorem dX0_runs_155 : decode cX0_runs 155 = .ok (.iload_n 2, 1) := by decide +kernel
theorem dX0_runs_156 : decode cX0_runs 156 = .ok (.iconst 3, 1) := by decide +kernel
theorem dX0_runs_157 : decode cX0_runs 157 = .ok (.imul, 1) := by decide +kernel
theorem dX0_runs_158 : decode cX0_runs 158 = .ok (.iload_n 3, 1) := by decide +kernel
theorem dX0_runs_159 : decode cX0_runs 159 = .ok (.iload 4, 2) := by decide +kernel
theorem dX0_runs_161 : decode cX0_runs 161 = .ok (.invokevirtual 28, 3) := by decide +kernel
theorem dX0_runs_164 : decode cX0_runs 164 = .ok (.ireturn, 1) := by decide +kernel
theorem dX0_runs_165 : decode cX0_runs 165 = .ok (.aload_n 0, 1) := by decide +kernel
theorem dX0_runs_166 : decode cX0_runs 166 = .ok (.iconst 2, 1) := by decide +kernel
theorem dX0_runs_167 : decode cX0_runs 167 = .ok (.iload_n 2, 1) := by decide +kernel
theorem dX0_runs_168 : decode cX0_runs 168 = .ok (.iload_n 3, 1) := by decide +kernel
theorem dX0_runs_169 : decode cX0_runs 169 = .ok (.iload 4, 2) := by decide +kernel
theorem dX0_runs_171 : decode cX0_runs 171 = .ok (.invokevirtual 28, 3) := by decide +kernel
theorem dX0_runs_174 : decode cX0_runs 174 = .ok (.aload_n 0, 1) := by decide +kernel
theorem dX0_runs_175 : decode cX0_runs 175 = .ok (.iconst 1, 1) := by decide +kernel
theorem dX0_runs_176 : decode cX0_runs 176 = .ok (.iconst 1, 1) := by decide +kernel
theorem dX0_runs_177 : decode cX0_runs 177 = .ok (.aload_n 0, 1) := by decide +kernel
theorem dX0_runs_178 : decode cX0_runs 178 = .ok (.getfield 22, 3) := by decide +kernel
theorem dX0_runs_181 : decode cX0_runs 181 = .ok (.iload 4, 2) := by decide +kernel
theorem dX0_runs_183 : decode cX0_runs 183 = .ok (.invokevirtual 28, 3) := by decide +kernel
theorem dX0_runs_186 : decode cX0_runs 186 = .ok (.iadd, 1) := by decide +kernel
theorem dX0_runs_187 : decode cX0_runs 187 = .ok (.ireturn, 1) := by decide +kernel
theorem dX0_runs_188 : decode cX0_runs 188 = .ok (.aload_n 0, 1) := by decide +kernel
theorem dX0_runs_189 : decode cX0_runs 189 = .ok (.iconst 0, 1) := by decide +kernel
theorem dX0_runs_190 : decode cX0_runs 190 = .ok (.iload_n 2, 1) := by decide +kernel
theorem dX0_runs_191 : decode cX0_runs 191 = .ok (.iload_n 3, 1) := by decide +kernel
theorem dX0_runs_192 : decode cX0_runs 192 = .ok (.iload 4, 2) := by decide +kernel
theorem dX0_runs_194 : decode cX0_runs 194 = .ok (.invokevirtual 28, 3) := by decide +kernel
theorem dX0_runs_197 : decode cX0_runs 197 = .ok (.ineg, 1) := by decide +kernel
theorem dX0_runs_198 : decode cX0_runs 198 = .ok (.ireturn, 1) := by decide +kernel
theorem dX0_runs_199 : decode cX0_runs 199 = .ok (.aload_n 0, 1) := by decide +kernel
theorem dX0_runs_200 : decode cX0_runs 200 = .ok (.iconst 1, 1) := by decide +kernel
theorem dX0_runs_201 : decode cX0_runs 201 = .ok (.iload_n 2, 1) := by decide +kernel
theorem dX0_runs_202 : decode cX0_runs 202 = .ok (.iconst 1, 1) := by decide +kernel
theorem dX0_runs_203 : decode cX0_runs 203 = .ok (.iadd, 1) := by decide +kernel
theorem dX0_runs_204 : decode cX0_runs 204 = .ok (.iload_n 3, 1) := by decide +kernel
theorem dX0_runs_205 : decode cX0_runs 205 = .ok (.iload 4, 2) := by decide +kernel
theorem dX0_runs_207 : decode cX0_runs 207 = .ok (.invokevirtual 28, 3) := by decide +kernel
theorem dX0_runs_210 : decode cX0_runs 210 = .ok (.ireturn, 1) := by decide +kernel
theorem dX0_runs_211 : decode cX0_runs 211 = .ok (.aload_n 0, 1) := by decide +kernel
theorem dX0_runs_212 : decode cX0_runs 212 = .ok (.iconst 2, 1) := by decide +kernel
theorem dX0_runs_213 : decode cX0_runs 213 = .ok (.iload_n 2, 1) := by decide +kernel
theorem dX0_runs_214 : decode cX0_runs 214 = .ok (.aload_n 0, 1) := by decide +kernel
theorem dX0_runs_215 : decode cX0_runs 215 = .ok (.getfield 19, 3) := by decide +kernel
theorem dX0_runs_218 : decode cX0_runs 218 = .ok (.isub, 1) := by decide +kernel
theorem dX0_runs_219 : decode cX0_runs 219 = .ok (.iload_n 3, 1) := by decide +kernel
theorem dX0_runs_220 : decode cX0_runs 220 = .ok (.iload 4, 2) := by decide +kernel
theorem dX0_runs_222 : decode cX0_runs 222 = .ok (.invokevirtual 28, 3) := by decide +kernel
theorem dX0_runs_225 : decode cX0_runs 225 = .ok (.ireturn, 1) := by decide +kernel
theorem dX0_runs_226 : decode cX0_runs 226 = .ok (.aload_n 0, 1) := by decide +kernel
theorem dX0_runs_227 : decode cX0_runs 227 = .ok (.iconst 1, 1) := by decide +kernel
theorem dX0_runs_228 : decode cX0_runs 228 = .ok (.iload_n 2, 1) := by decide +kernel
theorem dX0_runs_229 : decode cX0_runs 229 = .ok (.iload_n 3, 1) := by decide +kernel
theorem dX0_runs_230 : decode cX0_runs 230 = .ok (.iload 4, 2) := by decide +kernel
theorem dX0_runs_232 : decode cX0_runs 232 = .ok (.invokevirtual 28, 3) := by decide +kernel
theorem dX0_runs_235 : decode cX0_runs 235 = .ok (.aload_n 0, 1) := by decide +kernel
theorem dX0_runs_236 : decode cX0_runs 236 = .ok (.iconst 0, 1) := by decide +kernel
theorem dX0_runs_237 : decode cX0_runs 237 = .ok (.iconst 2, 1) := by decide +kernel
theorem dX0_runs_238 : decode cX0_runs 238 = .ok (.iload_n 3, 1) := by decide +kernel
theorem dX0_runs_239 : decode cX0_runs 239 = .ok (.iload 4, 2) := by decide +kernel
theorem dX0_runs_241 : decode cX0_runs 241 = .ok (.invokevirtual 28, 3) := by decide +kernel
theorem dX0_runs_244 : decode cX0_runs 244 = .ok (.iadd, 1) := by decide +kernel
theorem dX0_runs_245 : decode cX0_runs 245 = .ok (.ireturn, 1) := by decide +kernel
theorem dX0_runs_246 : decode cX0_runs 246 = .ok (.aload_n 0, 1) := by decide +kernel
theorem dX0_runs_247 : decode cX0_runs 247 = .ok (.iconst 0, 1) := by decide +kernel
theorem dX0_runs_248 : decode cX0_runs 248 = .ok (.iload_n 2, 1) := by decide +kernel
theorem dX0_runs_249 : decode cX0_runs 249 = .ok (.iload_n 3, 1) := by decide +kernel
theorem dX0_runs_250 : decode cX0_runs 250 = .ok (.iload 4, 2) := by decide +kernel
theorem dX0_runs_252 : decode cX0_runs 252 = .ok (.invokevirtual 28, 3) := by decide +kernel
theorem dX0_runs_255 : decode cX0_runs 255 = .ok (.aload_n 0, 1) := by decide +kernel
theorem dX0_runs_256 : decode cX0_runs 256 = .ok (.getfield 25, 3) := by decide +kernel
theorem dX0_runs_259 : decode cX0_runs 259 = .ok (.ixor, 1) := by decide +kernel
theorem dX0_runs_260 : decode cX0_runs 260 = .ok (.ireturn, 1) := by decide +kernel
theorem dX0_runs_261 : decode cX0_runs 261 = .ok (.iconst 0, 1) := by decide +kernel
theorem dX0_runs_262 : decode cX0_runs 262 = .ok (.ireturn, 1) := by decide +kernel
theorem dX0_number_0 : decode cX0_number 0 = .ok (.iload_n 0, 1) := by decide +kernel
theorem dX0_number_1 : decode cX0_number 1 = .ok (.iconst 3, 1) := by decide +kernel
theorem dX0_number_2 : decode cX0_number 2 = .ok (.imul, 1) := by decide +kernel
theorem dX0_number_3 : decode cX0_number 3 = .ok (.iload_n 1, 1) := by decide +kernel
theorem dX0_number_4 : decode cX0_number 4 = .ok (.iadd, 1) := by decide +kernel
theorem dX0_number_5 : decode cX0_number 5 = .ok (.istore_n 2, 1) := by decide +kernel
theorem dX0_number_6 : decode cX0_number 6 = .ok (.iload_n 0, 1) := by decide +kernel
theorem dX0_number_7 : decode cX0_number 7 = .ok (.ifCond .lt 28, 3) := by decide +kernel
theorem dX0_number_10 : decode cX0_number 10 = .ok (.iload_n 1, 1) := by decide +kernel
theorem dX0_number_11 : decode cX0_number 11 = .ok (.ifCond .lt 24, 3) := by decide +kernel
theorem dX0_number_14 : decode cX0_number 14 = .ok (.iload_n 1, 1) := by decide +kernel
theorem dX0_number_15 : decode cX0_number 15 = .ok (.iconst 3, 1) := by decide +kernel
theorem dX0_number_16 : decode cX0_number 16 = .ok (.if_icmp .ge 19, 3) := by decide +kernel
theorem dX0_number_19 : decode cX0_number 19 = .ok (.iload_n 2, 1) := by decide +kernel
theorem dX0_number_20 : decode cX0_number 20 = .ok (.getstatic 51, 3) := by decide +kernel
theorem dX0_number_23 : decode cX0_number 23 = .ok (.arraylength, 1) := by decide +kernel
theorem dX0_number_24 : decode cX0_number 24 = .ok (.if_icmp .ge 11, 3) := by decide +kernel
theorem dX0_number_27 : decode cX0_number 27 = .ok (.getstatic 51, 3) := by decide +kernel
theorem dX0_number_30 : decode cX0_number 30 = .ok (.iload_n 2, 1) := by decide +kernel
theorem dX0_number_31 : decode cX0_number 31 = .ok (.iaload, 1) := by decide +kernel
theorem dX0_number_32 : decode cX0_number 32 = .ok (.goto 4, 3) := by decide +kernel
theorem dX0_number_35 : decode cX0_number 35 = .ok (.iconst 0, 1) := by decide +kernel
theorem dX0_number_36 : decode cX0_number 36 = .ok (.ireturn, 1) := by decide +kernel
theorem dX0_begins_0 : decode cX0_begins 0 = .ok (.aload_n 0, 1) := by decide +kernel
theorem dX0_begins_1 : decode cX0_begins 1 = .ok (.getfield 15, 3) := by decide +kernel
theorem dX0_begins_4 : decode cX0_begins 4 = .ok (.ifCond .lt 22, 3) := by decide +kernel
theorem dX0_begins_7 : decode cX0_begins 7 = .ok (.aload_n 0, 1) := by decide +kernel
theorem dX0_begins_8 : decode cX0_begins 8 = .ok (.getfield 15, 3) := by decide +kernel
theorem dX0_begins_11 : decode cX0_begins 11 = .ok (.bipush 20, 2) := by decide +kernel
theorem dX0_begins_13 : decode cX0_begins 13 = .ok (.if_icmp .ge 13, 3) := by decide +kernel
theorem dX0_begins_16 : decode cX0_begins 16 = .ok (.aload_n 0, 1) := by decide +kernel
theorem dX0_begins_17 : decode cX0_begins 17 = .ok (.getfield 11, 3) := by decide +kernel
theorem dX0_begins_20 : decode cX0_begins 20 = .ok (.aload_n 0, 1) := by decide +kernel
theorem dX0_begins_21 : decode cX0_begins 21 = .ok (.getfield 15, 3) := by decide +kernel
theorem dX0_begins_24 : decode cX0_begins 24 = .ok (.iload_n 1, 1) := by decide +kernel
theorem dX0_begins_25 : decode cX0_begins 25 = .ok (.iastore, 1) := by decide +kernel
theorem dX0_begins_26 : decode cX0_begins 26 = .ok (.aload_n 0, 1) := by decide +kernel
theorem dX0_begins_27 : decode cX0_begins 27 = .ok (.dup, 1) := by decide +kernel
theorem dX0_begins_28 : decode cX0_begins 28 = .ok (.getfield 15, 3) := by decide +kernel
theorem dX0_begins_31 : decode cX0_begins 31 = .ok (.iconst 1, 1) := by decide +kernel
theorem dX0_begins_32 : decode cX0_begins 32 = .ok (.iadd, 1) := by decide +kernel
theorem dX0_begins_33 : decode cX0_begins 33 = .ok (.putfield 15, 3) := by decide +kernel
theorem dX0_begins_36 : decode cX0_begins 36 = .ok (.return_, 1) := by decide +kernel
theorem dX1_init_0 : decode cX1_init 0 = .ok (.aload_n 0, 1) := by decide +kernel
theorem dX1_init_1 : decode cX1_init 1 = .ok (.invokespecial 3, 3) := by decide +kernel
theorem dX1_init_4 : decode cX1_init 4 = .ok (.aload_n 0, 1) := by decide +kernel
theorem dX1_init_5 : decode cX1_init 5 = .ok (.iconst 0, 1) := by decide +kernel
theorem dX1_init_6 : decode cX1_init 6 = .ok (.putfield 9, 3) := by decide +kernel
theorem dX1_init_9 : decode cX1_init 9 = .ok (.aload_n 0, 1) := by decide +kernel
theorem dX1_init_10 : decode cX1_init 10 = .ok (.bipush 6, 2) := by decide +kernel
theorem dX1_init_12 : decode cX1_init 12 = .ok (.newarray .int, 2) := by decide +kernel
theorem dX1_init_14 : decode cX1_init 14 = .ok (.putfield 15, 3) := by decide +kernel
theorem dX1_init_17 : decode cX1_init 17 = .ok (.aload_n 0, 1) := by decide +kernel
theorem dX1_init_18 : decode cX1_init 18 = .ok (.bipush 6, 2) := by decide +kernel
theorem dX1_init_20 : decode cX1_init 20 = .ok (.newarray .int, 2) := by decide +kernel
theorem dX1_init_22 : decode cX1_init 22 = .ok (.putfield 19, 3) := by decide +kernel
theorem dX1_init_25 : decode cX1_init 25 = .ok (.aload_n 0, 1) := by decide +kernel
theorem dX1_init_26 : decode cX1_init 26 = .ok (.bipush 6, 2) := by decide +kernel
theorem dX1_init_28 : decode cX1_init 28 = .ok (.newarray .int, 2) := by decide +kernel
theorem dX1_init_30 : decode cX1_init 30 = .ok (.putfield 22, 3) := by decide +kernel
theorem dX1_init_33 : decode cX1_init 33 = .ok (.aload_n 0, 1) := by decide +kernel
theorem dX1_init_34 : decode cX1_init 34 = .ok (.iconst 0, 1) := by decide +kernel
theorem dX1_init_35 : decode cX1_init 35 = .ok (.putfield 25, 3) := by decide +kernel
theorem dX1_init_38 : decode cX1_init 38 = .ok (.aload_n 0, 1) := by decide +kernel
theorem dX1_init_39 : decode cX1_init 39 = .ok (.iconst 0, 1) := by decide +kernel
theorem dX1_init_40 : decode cX1_init 40 = .ok (.putfield 28, 3) := by decide +kernel
theorem dX1_init_43 : decode cX1_init 43 = .ok (.aload_n 0, 1) := by decide +kernel
theorem dX1_init_44 : decode cX1_init 44 = .ok (.iconst 0, 1) := by decide +kernel
theorem dX1_init_45 : decode cX1_init 45 = .ok (.putfield 31, 3) := by decide +kernel
theorem dX1_init_48 : decode cX1_init 48 = .ok (.aload_n 0, 1) := by decide +kernel
theorem dX1_init_49 : decode cX1_init 49 = .ok (.iconst 0, 1) := by decide +kernel
theorem dX1_init_50 : decode cX1_init 50 = .ok (.putfield 34, 3) := by decide +kernel
theorem dX1_init_53 : decode cX1_init 53 = .ok (.aload_n 0, 1) := by decide +kernel
theorem dX1_init_54 : decode cX1_init 54 = .ok (.bipush 8, 2) := by decide +kernel
theorem dX1_init_56 : decode cX1_init 56 = .ok (.newarray .int, 2) := by decide +kernel
theorem dX1_init_58 : decode cX1_init 58 = .ok (.putfield 37, 3) := by decide +kernel
theorem dX1_init_61 : decode cX1_init 61 = .ok (.aload_n 0, 1) := by decide +kernel
theorem dX1_init_62 : decode cX1_init 62 = .ok (.iconst 0, 1) := by decide +kernel
theorem dX1_init_63 : decode cX1_init 63 = .ok (.putfield 40, 3) := by decide +kernel
theorem dX1_init_66 : decode cX1_init 66 = .ok (.aload_n 0, 1) := by decide +kernel
theorem dX1_init_67 : decode cX1_init 67 = .ok (.bipush 12, 2) := by decide +kernel
theorem dX1_init_69 : decode cX1_init 69 = .ok (.newarray .int, 2) := by decide +kernel
theorem dX1_init_71 : decode cX1_init 71 = .ok (.putfield 43, 3) := by decide +kernel
theorem dX1_init_74 : decode cX1_init 74 = .ok (.aload_n 0, 1) := by decide +kernel
theorem dX1_init_75 : decode cX1_init 75 = .ok (.iconst (-1), 1) := by decide +kernel
theorem dX1_init_76 : decode cX1_init 76 = .ok (.putfield 46, 3) := by decide +kernel
theorem dX1_init_79 : decode cX1_init 79 = .ok (.return_, 1) := by decide +kernel
theorem dX1_becomes_0 : decode cX1_becomes 0 = .ok (.aload_n 0, 1) := by decide +kernel
theorem dX1_becomes_1 : decode cX1_becomes 1 = .ok (.aload_n 1, 1) := by decide +kernel
theorem dX1_becomes_2 : decode cX1_becomes 2 = .ok (.getfield 9, 3) := by decide +kernel
theorem dX1_becomes_5 : decode cX1_becomes 5 = .ok (.putfield 9, 3) := by decide +kernel
theorem dX1_becomes_8 : decode cX1_becomes 8 = .ok (.aload_n 1, 1) := by decide +kernel
theorem dX1_becomes_9 : decode cX1_becomes 9 = .ok (.getfield 15, 3) := by decide +kernel
theorem dX1_becomes_12 : decode cX1_becomes 12 = .ok (.iconst 0, 1) := by decide +kernel
theorem dX1_becomes_13 : decode cX1_becomes 13 = .ok (.aload_n 0, 1) := by decide +kernel
theorem dX1_becomes_14 : decode cX1_becomes 14 = .ok (.getfield 15, 3) := by decide +kernel
theorem dX1_becomes_17 : decode cX1_becomes 17 = .ok (.iconst 0, 1) := by decide +kernel
theorem dX1_becomes_18 : decode cX1_becomes 18 = .ok (.bipush 6, 2) := by decide +kernel
theorem dX1_becomes_20 : decode cX1_becomes 20 = .ok (.invokestatic 49, 3) := by decide +kernel
theorem dX1_becomes_23 : decode cX1_becomes 23 = .ok (.aload_n 1, 1) := by decide +kernel
theorem dX1_becomes_24 : decode cX1_becomes 24 = .ok (.getfield 19, 3) := by decide +kernel
theorem dX1_becomes_27 : decode cX1_becomes 27 = .ok (.iconst 0, 1) := by decide +kernel
theorem dX1_becomes_28 : decode cX1_becomes 28 = .ok (.aload_n 0, 1) := by decide +kernel
theorem dX1_becomes_29 : decode cX1_becomes 29 = .ok (.getfield 19, 3) := by decide +kernel
theorem dX1_becomes_32 : decode cX1_becomes 32 = .ok (.iconst 0, 1) := by decide +kernel
theorem dX1_becomes_33 : decode cX1_becomes 33 = .ok (.bipush 6, 2) := by decide +kernel
theorem dX1_becomes_35 : decode cX1_becomes 35 = .ok (.invokestatic 49, 3) := by decide +kernel
theorem dX1_becomes_38 : decode cX1_becomes 38 = .ok (.aload_n 1, 1) := by decide +kernel
theorem dX1_becomes_39 : decode cX1_becomes 39 = .ok (.getfield 22, 3) := by decide +kernel
theorem dX1_becomes_42 : decode cX1_becomes 42 = .ok (.iconst 0, 1) := by decide +kernel
theorem dX1_becomes_43 : decode cX1_becomes 43 = .ok (.aload_n 0, 1) := by decide +kernel
theorem dX1_becomes_44 : decode cX1_becomes 44 = .ok (.getfield 22, 3) := by decide +kernel
theorem dX1_becomes_47 : decode cX1_becomes 47 = .ok (.iconst 0, 1) := by decide +kernel
theorem dX1_becomes_48 : decode cX1_becomes 48 = .ok (.bipush 6, 2) := by decide +kernel
theorem dX1_becomes_50 : decode cX1_becomes 50 = .ok (.invokestatic 49, 3) := by decide +kernel
theorem dX1_becomes_53 : decode cX1_becomes 53 = .ok (.aload_n 0, 1) := by decide +kernel
theorem dX1_becomes_54 : decode cX1_becomes 54 = .ok (.aload_n 1, 1) := by decide +kernel
theorem dX1_becomes_55 : decode cX1_becomes 55 = .ok (.getfield 25, 3) := by decide +kernel
theorem dX1_becomes_58 : decode cX1_becomes 58 = .ok (.putfield 25, 3) := by decide +kernel
theorem dX1_becomes_61 : decode cX1_becomes 61 = .ok (.aload_n 0, 1) := by decide +kernel
theorem dX1_becomes_62 : decode cX1_becomes 62 = .ok (.aload_n 1, 1) := by decide +kernel
theorem dX1_becomes_63 : decode cX1_becomes 63 = .ok (.getfield 28, 3) := by decide +kernel
theorem dX1_becomes_66 : decode cX1_becomes 66 = .ok (.putfield 28, 3) := by decide +kernel
theorem dX1_becomes_69 : decode cX1_becomes 69 = .ok (.aload_n 0, 1) := by decide +kernel
theorem dX1_becomes_70 : decode cX1_becomes 70 = .ok (.aload_n 1, 1) := by decide +kernel
theorem dX1_becomes_71 : decode cX1_becomes 71 = .ok (.getfield 31, 3) := by decide +kernel
theorem dX1_becomes_74 : decode cX1_becomes 74 = .ok (.putfield 31, 3) := by decide +kernel
theorem dX1_becomes_77 : decode cX1_becomes 77 = .ok (.aload_n 0, 1) := by decide +kernel
theorem dX1_becomes_78 : decode cX1_becomes 78 = .ok (.aload_n 1, 1) := by decide +kernel
theorem dX1_becomes_79 : decode cX1_becomes 79 = .ok (.getfield 34, 3) := by decide +kernel
theorem dX1_becomes_82 : decode cX1_becomes 82 = .ok (.putfield 34, 3) := by decide +kernel
theorem dX1_becomes_85 : decode cX1_becomes 85 = .ok (.aload_n 1, 1) := by decide +kernel
theorem dX1_becomes_86 : decode cX1_becomes 86 = .ok (.getfield 37, 3) := by decide +kernel
theorem dX1_becomes_89 : decode cX1_becomes 89 = .ok (.iconst 0, 1) := by decide +kernel
theorem dX1_becomes_90 : decode cX1_becomes 90 = .ok (.aload_n 0, 1) := by decide +kernel
theorem dX1_becomes_91 : decode cX1_becomes 91 = .ok (.getfield 37, 3) := by decide +kernel
theorem dX1_becomes_94 : decode cX1_becomes 94 = .ok (.iconst 0, 1) := by decide +kernel
theorem dX1_becomes_95 : decode cX1_becomes 95 = .ok (.bipush 8, 2) := by decide +kernel
theorem dX1_becomes_97 : decode cX1_becomes 97 = .ok (.invokestatic 49, 3) := by decide +kernel
theorem dX1_becomes_100 : decode cX1_becomes 100 = .ok (.aload_n 0, 1) := by decide +kernel
theorem dX1_becomes_101 : decode cX1_becomes 101 = .ok (.aload_n 1, 1) := by decide +kernel
theorem dX1_becomes_102 : decode cX1_becomes 102 = .ok (.getfield 40, 3) := by decide +kernel
theorem dX1_becomes_105 : decode cX1_becomes 105 = .ok (.putfield 40, 3) := by decide +kernel
theorem dX1_becomes_108 : decode cX1_becomes 108 = .ok (.aload_n 1, 1) := by decide +kernel
theorem dX1_becomes_109 : decode cX1_becomes 109 = .ok (.getfield 43, 3) := by decide +kernel
theorem dX1_becomes_112 : decode cX1_becomes 112 = .ok (.iconst 0, 1) := by decide +kernel
theorem dX1_becomes_113 : decode cX1_becomes 113 = .ok (.aload_n 0, 1) := by decide +kernel
theorem dX1_becomes_114 : decode cX1_becomes 114 = .ok (.getfield 43, 3) := by decide +kernel
theorem dX1_becomes_117 : decode cX1_becomes 117 = .ok (.iconst 0, 1) := by decide +kernel
theorem dX1_becomes_118 : decode cX1_becomes 118 = .ok (.bipush 12, 2) := by decide +kernel
theorem dX1_becomes_120 : decode cX1_becomes 120 = .ok (.invokestatic 49, 3) := by decide +kernel
theorem dX1_becomes_123 : decode cX1_becomes 123 = .ok (.aload_n 0, 1) := by decide +kernel
theorem dX1_becomes_124 : decode cX1_becomes 124 = .ok (.aload_n 1, 1) := by decide +kernel
theorem dX1_becomes_125 : decode cX1_becomes 125 = .ok (.getfield 46, 3) := by decide +kernel
theorem dX1_becomes_128 : decode cX1_becomes 128 = .ok (.putfield 46, 3) := by decide +kernel
theorem dX1_becomes_131 : decode cX1_becomes 131 = .ok (.return_, 1) := by decide +kernel
theorem dX2_init_0 : decode cX2_init 0 = .ok (.aload_n 0, 1) := by decide +kernel
theorem dX2_init_1 : decode cX2_init 1 = .ok (.invokespecial 1, 3) := by decide +kernel
theorem dX2_init_4 : decode cX2_init 4 = .ok (.aload_n 0, 1) := by decide +kernel
theorem dX2_init_5 : decode cX2_init 5 = .ok (.bipush 40, 2) := by decide +kernel
theorem dX2_init_7 : decode cX2_init 7 = .ok (.newarray .int, 2) := by decide +kernel
theorem dX2_init_9 : decode cX2_init 9 = .ok (.putfield 9, 3) := by decide +kernel
theorem dX2_init_12 : decode cX2_init 12 = .ok (.return_, 1) := by decide +kernel
theorem dX2_becomes_0 : decode cX2_becomes 0 = .ok (.aload_n 0, 1) := by decide +kernel
theorem dX2_becomes_1 : decode cX2_becomes 1 = .ok (.getfield 9, 3) := by decide +kernel
theorem dX2_becomes_4 : decode cX2_becomes 4 = .ok (.iconst 0, 1) := by decide +kernel
theorem dX2_becomes_5 : decode cX2_becomes 5 = .ok (.invokestatic 13, 3) := by decide +kernel
theorem dX2_becomes_8 : decode cX2_becomes 8 = .ok (.aload_n 0, 1) := by decide +kernel
theorem dX2_becomes_9 : decode cX2_becomes 9 = .ok (.getfield 9, 3) := by decide +kernel
theorem dX2_becomes_12 : decode cX2_becomes 12 = .ok (.iconst 0, 1) := by decide +kernel
theorem dX2_becomes_13 : decode cX2_becomes 13 = .ok (.iconst 1, 1) := by decide +kernel
theorem dX2_becomes_14 : decode cX2_becomes 14 = .ok (.iastore, 1) := by decide +kernel
theorem dX2_becomes_15 : decode cX2_becomes 15 = .ok (.iconst 0, 1) := by decide +kernel
theorem dX2_becomes_16 : decode cX2_becomes 16 = .ok (.istore 4, 2) := by decide +kernel
theorem dX2_becomes_18 : decode cX2_becomes 18 = .ok (.iload 4, 2) := by decide +kernel
theorem dX2_becomes_20 : decode cX2_becomes 20 = .ok (.iload_n 2, 1) := by decide +kernel
theorem dX2_becomes_21 : decode cX2_becomes 21 = .ok (.if_icmp .gt 14, 3) := by decide +kernel
theorem dX2_becomes_24 : decode cX2_becomes 24 = .ok (.aload_n 0, 1) := by decide +kernel
theorem dX2_becomes_25 : decode cX2_becomes 25 = .ok (.iload_n 1, 1) := by decide +kernel
theorem dX2_becomes_26 : decode cX2_becomes 26 = .ok (.invokevirtual 19, 3) := by decide +kernel
theorem dX2_becomes_29 : decode cX2_becomes 29 = .ok (.iinc 4 1, 3) := by decide +kernel
theorem dX2_becomes_32 : decode cX2_becomes 32 = .ok (.goto (-14), 3) := by decide +kernel
theorem dX2_becomes_35 : decode cX2_becomes 35 = .ok (.aload_n 0, 1) := by decide +kernel
theorem dX2_becomes_36 : decode cX2_becomes 36 = .ok (.iload_n 1, 1) := by decide +kernel
theorem dX2_becomes_37 : decode cX2_becomes 37 = .ok (.iconst 1, 1) := by decide +kernel
theorem dX2_becomes_38 : decode cX2_becomes 38 = .ok (.isub, 1) := by decide +kernel
theorem dX2_becomes_39 : decode cX2_becomes 39 = .ok (.iload_n 3, 1) := by decide +kernel
theorem dX2_becomes_40 : decode cX2_becomes 40 = .ok (.imul, 1) := by decide +kernel
theorem dX2_becomes_41 : decode cX2_becomes 41 = .ok (.invokevirtual 23, 3) := by decide +kernel
theorem dX2_becomes_44 : decode cX2_becomes 44 = .ok (.return_, 1) := by decide +kernel
theorem dX2_multiply_0 : decode cX2_multiply 0 = .ok (.iconst 0, 1) := by decide +kernel
theorem dX2_multiply_1 : decode cX2_multiply 1 = .ok (.istore_n 2, 1) := by decide +kernel
theorem dX2_multiply_2 : decode cX2_multiply 2 = .ok (.iconst 0, 1) := by decide +kernel
theorem dX2_multiply_3 : decode cX2_multiply 3 = .ok (.istore_n 3, 1) := by decide +kernel
theorem dX2_multiply_4 : decode cX2_multiply 4 = .ok (.iload_n 3, 1) := by decide +kernel
theorem dX2_multiply_5 : decode cX2_multiply 5 = .ok (.bipush 40, 2) := by decide +kernel
theorem dX2_multiply_7 : decode cX2_multiply 7 = .ok (.if_icmp .ge 38, 3) := by decide +kernel
theorem dX2_multiply_10 : decode cX2_multiply 10 = .ok (.aload_n 0, 1) := by decide +kernel
theorem dX2_multiply_11 : decode cX2_multiply 11 = .ok (.getfield 9, 3) := by decide +kernel
theorem dX2_multiply_14 : decode cX2_multiply 14 = .ok (.iload_n 3, 1) := by decide +kernel
theorem dX2_multiply_15 : decode cX2_multiply 15 = .ok (.iaload, 1) := by decide +kernel
theorem dX2_multiply_16 : decode cX2_multiply 16 = .ok (.iload_n 1, 1) := by decide +kernel
theorem dX2_multiply_17 : decode cX2_multiply 17 = .ok (.imul, 1) := by decide +kernel
theorem dX2_multiply_18 : decode cX2_multiply 18 = .ok (.iload_n 2, 1) := by decide +kernel
theorem dX2_multiply_19 : decode cX2_multiply 19 = .ok (.iadd, 1) := by decide +kernel
theorem dX2_multiply_20 : decode cX2_multiply 20 = .ok (.istore 4, 2) := by decide +kernel
theorem dX2_multiply_22 : decode cX2_multiply 22 = .ok (.aload_n 0, 1) := by decide +kernel
theorem dX2_multiply_23 : decode cX2_multiply 23 = .ok (.getfield 9, 3) := by decide +kernel
theorem dX2_multiply_26 : decode cX2_multiply 26 = .ok (.iload_n 3, 1) := by decide +kernel
theorem dX2_multiply_27 : decode cX2_multiply 27 = .ok (.iload 4, 2) := by decide +kernel
theorem dX2_multiply_29 : decode cX2_multiply 29 = .ok (.bipush 10, 2) := by decide +kernel
theorem dX2_multiply_31 : decode cX2_multiply 31 = .ok (.irem, 1) := by decide +kernel
theorem dX2_multiply_32 : decode cX2_multiply 32 = .ok (.iastore, 1) := by decide +kernel
theorem dX2_multiply_33 : decode cX2_multiply 33 = .ok (.iload 4, 2) := by decide +kernel
theorem dX2_multiply_35 : decode cX2_multiply 35 = .ok (.bipush 10, 2) := by decide +kernel
theorem dX2_multiply_37 : decode cX2_multiply 37 = .ok (.idiv, 1) := by decide +kernel
theorem dX2_multiply_38 : decode cX2_multiply 38 = .ok (.istore_n 2, 1) := by decide +kernel
theorem dX2_multiply_39 : decode cX2_multiply 39 = .ok (.iinc 3 1, 3) := by decide +kernel
theorem dX2_multiply_42 : decode cX2_multiply 42 = .ok (.goto (-38), 3) := by decide +kernel
theorem dX2_multiply_45 : decode cX2_multiply 45 = .ok (.return_, 1) := by decide +kernel
theorem dX2_subtract_0 : decode cX2_subtract 0 = .ok (.iload_n 1, 1) := by decide +kernel
theorem dX2_subtract_1 : decode cX2_subtract 1 = .ok (.istore_n 2, 1) := by decide +kernel
theorem dX2_subtract_2 : decode cX2_subtract 2 = .ok (.iconst 0, 1) := by decide +kernel
theorem dX2_subtract_3 : decode cX2_subtract 3 = .ok (.istore_n 3, 1) := by decide +kernel
theorem dX2_subtract_4 : decode cX2_subtract 4 = .ok (.iload_n 3, 1) := by decide +kernel
theorem dX2_subtract_5 : decode cX2_subtract 5 = .ok (.bipush 40, 2) := by decide +kernel
theorem dX2_subtract_7 : decode cX2_subtract 7 = .ok (.if_icmp .ge 41, 3) := by decide +kernel
theorem dX2_subtract_10 : decode cX2_subtract 10 = .ok (.aload_n 0, 1) := by decide +kernel
theorem dX2_subtract_11 : decode cX2_subtract 11 = .ok (.getfield 9, 3) := by decide +kernel
theorem dX2_subtract_14 : decode cX2_subtract 14 = .ok (.iload_n 3, 1) := by decide +kernel
theorem dX2_subtract_15 : decode cX2_subtract 15 = .ok (.iaload, 1) := by decide +kernel
theorem dX2_subtract_16 : decode cX2_subtract 16 = .ok (.iload_n 2, 1) := by decide +kernel
theorem dX2_subtract_17 : decode cX2_subtract 17 = .ok (.isub, 1) := by decide +kernel
theorem dX2_subtract_18 : decode cX2_subtract 18 = .ok (.istore 4, 2) := by decide +kernel
theorem dX2_subtract_20 : decode cX2_subtract 20 = .ok (.aload_n 0, 1) := by decide +kernel
theorem dX2_subtract_21 : decode cX2_subtract 21 = .ok (.getfield 9, 3) := by decide +kernel
theorem dX2_subtract_24 : decode cX2_subtract 24 = .ok (.iload_n 3, 1) := by decide +kernel
theorem dX2_subtract_25 : decode cX2_subtract 25 = .ok (.iload 4, 2) := by decide +kernel
theorem dX2_subtract_27 : decode cX2_subtract 27 = .ok (.bipush 10, 2) := by decide +kernel
theorem dX2_subtract_29 : decode cX2_subtract 29 = .ok (.invokestatic 26, 3) := by decide +kernel
theorem dX2_subtract_32 : decode cX2_subtract 32 = .ok (.iastore, 1) := by decide +kernel
theorem dX2_subtract_33 : decode cX2_subtract 33 = .ok (.iload 4, 2) := by decide +kernel
theorem dX2_subtract_35 : decode cX2_subtract 35 = .ok (.bipush 10, 2) := by decide +kernel
theorem dX2_subtract_37 : decode cX2_subtract 37 = .ok (.invokestatic 32, 3) := by decide +kernel
theorem dX2_subtract_40 : decode cX2_subtract 40 = .ok (.ineg, 1) := by decide +kernel
theorem dX2_subtract_41 : decode cX2_subtract 41 = .ok (.istore_n 2, 1) := by decide +kernel
theorem dX2_subtract_42 : decode cX2_subtract 42 = .ok (.iinc 3 1, 3) := by decide +kernel
theorem dX2_subtract_45 : decode cX2_subtract 45 = .ok (.goto (-41), 3) := by decide +kernel
theorem dX2_subtract_48 : decode cX2_subtract 48 = .ok (.iload_n 2, 1) := by decide +kernel
theorem dX2_subtract_49 : decode cX2_subtract 49 = .ok (.ifCond .le 11, 3) := by decide +kernel
theorem dX2_subtract_52 : decode cX2_subtract 52 = .ok (.aload_n 0, 1) := by decide +kernel
theorem dX2_subtract_53 : decode cX2_subtract 53 = .ok (.getfield 9, 3) := by decide +kernel
theorem dX2_subtract_56 : decode cX2_subtract 56 = .ok (.iconst 0, 1) := by decide +kernel
theorem dX2_subtract_57 : decode cX2_subtract 57 = .ok (.invokestatic 13, 3) := by decide +kernel
theorem dX2_subtract_60 : decode cX2_subtract 60 = .ok (.return_, 1) := by decide +kernel
theorem dX2_size_0 : decode cX2_size 0 = .ok (.bipush 39, 2) := by decide +kernel
theorem dX2_size_2 : decode cX2_size 2 = .ok (.istore_n 1, 1) := by decide +kernel
theorem dX2_size_3 : decode cX2_size 3 = .ok (.iload_n 1, 1) := by decide +kernel
theorem dX2_size_4 : decode cX2_size 4 = .ok (.ifCond .le 22, 3) := by decide +kernel
theorem dX2_size_7 : decode cX2_size 7 = .ok (.aload_n 0, 1) := by decide +kernel
theorem dX2_size_8 : decode cX2_size 8 = .ok (.getfield 9, 3) := by decide +kernel
theorem dX2_size_11 : decode cX2_size 11 = .ok (.iload_n 1, 1) := by decide +kernel
theorem dX2_size_12 : decode cX2_size 12 = .ok (.iaload, 1) := by decide +kernel
theorem dX2_size_13 : decode cX2_size 13 = .ok (.ifCond .eq 7, 3) := by decide +kernel
theorem dX2_size_16 : decode cX2_size 16 = .ok (.iload_n 1, 1) := by decide +kernel
theorem dX2_size_17 : decode cX2_size 17 = .ok (.iconst 1, 1) := by decide +kernel
theorem dX2_size_18 : decode cX2_size 18 = .ok (.iadd, 1) := by decide +kernel
theorem dX2_size_19 : decode cX2_size 19 = .ok (.ireturn, 1) := by decide +kernel
theorem dX2_size_20 : decode cX2_size 20 = .ok (.iinc 1 (-1), 3) := by decide +kernel
theorem dX2_size_23 : decode cX2_size 23 = .ok (.goto (-20), 3) := by decide +kernel
theorem dX2_size_26 : decode cX2_size 26 = .ok (.iconst 1, 1) := by decide +kernel
theorem dX2_size_27 : decode cX2_size 27 = .ok (.ireturn, 1) := by decide +kernel
theorem dX2_digit_0 : decode cX2_digit 0 = .ok (.iload_n 1, 1) := by decide +kernel
theorem dX2_digit_1 : decode cX2_digit 1 = .ok (.ifCond .lt 18, 3) := by decide +kernel
theorem dX2_digit_4 : decode cX2_digit 4 = .ok (.iload_n 1, 1) := by decide +kernel
theorem dX2_digit_5 : decode cX2_digit 5 = .ok (.bipush 40, 2) := by decide +kernel
theorem dX2_digit_7 : decode cX2_digit 7 = .ok (.if_icmp .ge 12, 3) := by decide +kernel
theorem dX2_digit_10 : decode cX2_digit 10 = .ok (.aload_n 0, 1) := by decide +kernel
theorem dX2_digit_11 : decode cX2_digit 11 = .ok (.getfield 9, 3) := by decide +kernel
theorem dX2_digit_14 : decode cX2_digit 14 = .ok (.iload_n 1, 1) := by decide +kernel
theorem dX2_digit_15 : decode cX2_digit 15 = .ok (.iaload, 1) := by decide +kernel
theorem dX2_digit_16 : decode cX2_digit 16 = .ok (.goto 4, 3) := by decide +kernel
theorem dX2_digit_19 : decode cX2_digit 19 = .ok (.iconst 0, 1) := by decide +kernel
theorem dX2_digit_20 : decode cX2_digit 20 = .ok (.ireturn, 1) := by decide +kernel
theorem dX2_restBy_0 : decode cX2_restBy 0 = .ok (.iload_n 1, 1) := by decide +kernel
theorem dX2_restBy_1 : decode cX2_restBy 1 = .ok (.iconst 1, 1) := by decide +kernel
theorem dX2_restBy_2 : decode cX2_restBy 2 = .ok (.if_icmp .ge 5, 3) := by decide +kernel
theorem dX2_restBy_5 : decode cX2_restBy 5 = .ok (.iconst 0, 1) := by decide +kernel
theorem dX2_restBy_6 : decode cX2_restBy 6 = .ok (.ireturn, 1) := by decide +kernel
theorem dX2_restBy_7 : decode cX2_restBy 7 = .ok (.iconst 0, 1) := by decide +kernel
theorem dX2_restBy_8 : decode cX2_restBy 8 = .ok (.istore_n 2, 1) := by decide +kernel
theorem dX2_restBy_9 : decode cX2_restBy 9 = .ok (.bipush 39, 2) := by decide +kernel
theorem dX2_restBy_11 : decode cX2_restBy 11 = .ok (.istore_n 3, 1) := by decide +kernel
theorem dX2_restBy_12 : decode cX2_restBy 12 = .ok (.iload_n 3, 1) := by decide +kernel
theorem dX2_restBy_13 : decode cX2_restBy 13 = .ok (.ifCond .lt 23, 3) := by decide +kernel
theorem dX2_restBy_16 : decode cX2_restBy 16 = .ok (.iload_n 2, 1) := by decide +kernel
theorem dX2_restBy_17 : decode cX2_restBy 17 = .ok (.bipush 10, 2) := by decide +kernel
theorem dX2_restBy_19 : decode cX2_restBy 19 = .ok (.imul, 1) := by decide +kernel
theorem dX2_restBy_20 : decode cX2_restBy 20 = .ok (.aload_n 0, 1) := by decide +kernel
theorem dX2_restBy_21 : decode cX2_restBy 21 = .ok (.getfield 9, 3) := by decide +kernel
theorem dX2_restBy_24 : decode cX2_restBy 24 = .ok (.iload_n 3, 1) := by decide +kernel
theorem dX2_restBy_25 : decode cX2_restBy 25 = .ok (.iaload, 1) := by decide +kernel
theorem dX2_restBy_26 : decode cX2_restBy 26 = .ok (.iadd, 1) := by decide +kernel
theorem dX2_restBy_27 : decode cX2_restBy 27 = .ok (.iload_n 1, 1) := by decide +kernel
theorem dX2_restBy_28 : decode cX2_restBy 28 = .ok (.irem, 1) := by decide +kernel
theorem dX2_restBy_29 : decode cX2_restBy 29 = .ok (.istore_n 2, 1) := by decide +kernel
theorem dX2_restBy_30 : decode cX2_restBy 30 = .ok (.iinc 3 (-1), 3) := by decide +kernel
theorem dX2_restBy_33 : decode cX2_restBy 33 = .ok (.goto (-21), 3) := by decide +kernel
theorem dX2_restBy_36 : decode cX2_restBy 36 = .ok (.iload_n 2, 1) := by decide +kernel
theorem dX2_restBy_37 : decode cX2_restBy 37 = .ok (.ireturn, 1) := by decide +kernel
theorem dX3_init_0 : decode cX3_init 0 = .ok (.aload_n 0, 1) := by decide +kernel
theorem dX3_init_1 : decode cX3_init 1 = .ok (.invokespecial 3, 3) := by decide +kernel
theorem dX3_init_4 : decode cX3_init 4 = .ok (.aload_n 0, 1) := by decide +kernel
theorem dX3_init_5 : decode cX3_init 5 = .ok (.new 9, 3) := by decide +kernel
theorem dX3_init_8 : decode cX3_init 8 = .ok (.dup, 1) := by decide +kernel
theorem dX3_init_9 : decode cX3_init 9 = .ok (.invokespecial 11, 3) := by decide +kernel
theorem dX3_init_12 : decode cX3_init 12 = .ok (.putfield 12, 3) := by decide +kernel
theorem dX3_init_15 : decode cX3_init 15 = .ok (.aload_n 0, 1) := by decide +kernel
theorem dX3_init_16 : decode cX3_init 16 = .ok (.bipush 8, 2) := by decide +kernel
theorem dX3_init_18 : decode cX3_init 18 = .ok (.newarray .int, 2) := by decide +kernel
theorem dX3_init_20 : decode cX3_init 20 = .ok (.putfield 18, 3) := by decide +kernel
theorem dX3_init_23 : decode cX3_init 23 = .ok (.aload_n 0, 1) := by decide +kernel
theorem dX3_init_24 : decode cX3_init 24 = .ok (.iconst 0, 1) := by decide +kernel
theorem dX3_init_25 : decode cX3_init 25 = .ok (.putfield 22, 3) := by decide +kernel
theorem dX3_init_28 : decode cX3_init 28 = .ok (.aload_n 0, 1) := by decide +kernel
theorem dX3_init_29 : decode cX3_init 29 = .ok (.iconst 0, 1) := by decide +kernel
theorem dX3_init_30 : decode cX3_init 30 = .ok (.putfield 26, 3) := by decide +kernel
theorem dX3_init_33 : decode cX3_init 33 = .ok (.aload_n 0, 1) := by decide +kernel
theorem dX3_init_34 : decode cX3_init 34 = .ok (.iconst 0, 1) := by decide +kernel
theorem dX3_init_35 : decode cX3_init 35 = .ok (.putfield 29, 3) := by decide +kernel
theorem dX3_init_38 : decode cX3_init 38 = .ok (.aload_n 0, 1) := by decide +kernel
theorem dX3_init_39 : decode cX3_init 39 = .ok (.iconst 0, 1) := by decide +kernel
theorem dX3_init_40 : decode cX3_init 40 = .ok (.putfield 32, 3) := by decide +kernel
theorem dX3_init_43 : decode cX3_init 43 = .ok (.aload_n 0, 1) := by decide +kernel
theorem dX3_init_44 : decode cX3_init 44 = .ok (.iconst 0, 1) := by decide +kernel
theorem dX3_init_45 : decode cX3_init 45 = .ok (.putfield 35, 3) := by decide +kernel
theorem dX3_init_48 : decode cX3_init 48 = .ok (.aload_n 0, 1) := by decide +kernel
theorem dX3_init_49 : decode cX3_init 49 = .ok (.iconst 0, 1) := by decide +kernel
theorem dX3_init_50 : decode cX3_init 50 = .ok (.putfield 38, 3) := by decide +kernel
theorem dX3_init_53 : decode cX3_init 53 = .ok (.return_, 1) := by decide +kernel
theorem dX3_begin_0 : decode cX3_begin 0 = .ok (.aload_n 0, 1) := by decide +kernel
theorem dX3_begin_1 : decode cX3_begin 1 = .ok (.aload_n 2, 1) := by decide +kernel
theorem dX3_begin_2 : decode cX3_begin 2 = .ok (.getfield 41, 3) := by decide +kernel
theorem dX3_begin_5 : decode cX3_begin 5 = .ok (.putfield 26, 3) := by decide +kernel
theorem dX3_begin_8 : decode cX3_begin 8 = .ok (.aload_n 0, 1) := by decide +kernel
theorem dX3_begin_9 : decode cX3_begin 9 = .ok (.aload_n 2, 1) := by decide +kernel
theorem dX3_begin_10 : decode cX3_begin 10 = .ok (.getfield 44, 3) := by decide +kernel
theorem dX3_begin_13 : decode cX3_begin 13 = .ok (.putfield 29, 3) := by decide +kernel
theorem dX3_begin_16 : decode cX3_begin 16 = .ok (.aload_n 0, 1) := by decide +kernel
theorem dX3_begin_17 : decode cX3_begin 17 = .ok (.aload_n 1, 1) := by decide +kernel
theorem dX3_begin_18 : decode cX3_begin 18 = .ok (.getfield 45, 3) := by decide +kernel
theorem dX3_begin_21 : decode cX3_begin 21 = .ok (.bipush 8, 2) := by decide +kernel
theorem dX3_begin_23 : decode cX3_begin 23 = .ok (.invokestatic 50, 3) := by decide +kernel
theorem dX3_begin_26 : decode cX3_begin 26 = .ok (.putfield 22, 3) := by decide +kernel
theorem dX3_begin_29 : decode cX3_begin 29 = .ok (.aload_n 0, 1) := by decide +kernel
theorem dX3_begin_30 : decode cX3_begin 30 = .ok (.getfield 12, 3) := by decide +kernel
theorem dX3_begin_33 : decode cX3_begin 33 = .ok (.aload_n 1, 1) := by decide +kernel
theorem dX3_begin_34 : decode cX3_begin 34 = .ok (.aload_n 2, 1) := by decide +kernel
theorem dX3_begin_35 : decode cX3_begin 35 = .ok (.invokevirtual 56, 3) := by decide +kernel
theorem dX3_begin_38 : decode cX3_begin 38 = .ok (.iconst 0, 1) := by decide +kernel
theorem dX3_begin_39 : decode cX3_begin 39 = .ok (.istore_n 3, 1) := by decide +kernel
theorem dX3_begin_40 : decode cX3_begin 40 = .ok (.iload_n 3, 1) := by decide +kernel
theorem dX3_begin_41 : decode cX3_begin 41 = .ok (.aload_n 0, 1) := by decide +kernel
theorem dX3_begin_42 : decode cX3_begin 42 = .ok (.getfield 22, 3) := by decide +kernel
theorem dX3_begin_45 : decode cX3_begin 45 = .ok (.if_icmp .ge 36, 3) := by decide +kernel
theorem dX3_begin_48 : decode cX3_begin 48 = .ok (.aload_n 0, 1) := by decide +kernel
theorem dX3_begin_49 : decode cX3_begin 49 = .ok (.getfield 18, 3) := by decide +kernel
theorem dX3_begin_52 : decode cX3_begin 52 = .ok (.iload_n 3, 1) := by decide +kernel
theorem dX3_begin_53 : decode cX3_begin 53 = .ok (.aload_n 1, 1) := by decide +kernel
theorem dX3_begin_54 : decode cX3_begin 54 = .ok (.getfield 60, 3) := by decide +kernel
theorem dX3_begin_57 : decode cX3_begin 57 = .ok (.iload_n 3, 1) := by decide +kernel
theorem dX3_begin_58 : decode cX3_begin 58 = .ok (.iaload, 1) := by decide +kernel
theorem dX3_begin_59 : decode cX3_begin 59 = .ok (.iastore, 1) := by decide +kernel
theorem dX3_begin_60 : decode cX3_begin 60 = .ok (.aload_n 0, 1) := by decide +kernel
theorem dX3_begin_61 : decode cX3_begin 61 = .ok (.getfield 12, 3) := by decide +kernel
theorem dX3_begin_64 : decode cX3_begin 64 = .ok (.aload_n 2, 1) := by decide +kernel
theorem dX3_begin_65 : decode cX3_begin 65 = .ok (.aload_n 0, 1) := by decide +kernel
theorem dX3_begin_66 : decode cX3_begin 66 = .ok (.getfield 18, 3) := by decide +kernel
theorem dX3_begin_69 : decode cX3_begin 69 = .ok (.iload_n 3, 1) := by decide +kernel
theorem dX3_begin_70 : decode cX3_begin 70 = .ok (.iaload, 1) := by decide +kernel
theorem dX3_begin_71 : decode cX3_begin 71 = .ok (.iload_n 3, 1) := by decide +kernel
theorem dX3_begin_72 : decode cX3_begin 72 = .ok (.invokevirtual 61, 3) := by decide +kernel
theorem dX3_begin_75 : decode cX3_begin 75 = .ok (.iinc 3 1, 3) := by decide +kernel
theorem dX3_begin_78 : decode cX3_begin 78 = .ok (.goto (-38), 3) := by decide +kernel
theorem dX3_begin_81 : decode cX3_begin 81 = .ok (.return_, 1) := by decide +kernel
theorem dX3_walks_0 : decode cX3_walks 0 = .ok (.aload_n 0, 1) := by decide +kernel
theorem dX3_walks_1 : decode cX3_walks 1 = .ok (.iload_n 1, 1) := by decide +kernel
theorem dX3_walks_2 : decode cX3_walks 2 = .ok (.putfield 32, 3) := by decide +kernel
theorem dX3_walks_5 : decode cX3_walks 5 = .ok (.aload_n 0, 1) := by decide +kernel
theorem dX3_walks_6 : decode cX3_walks 6 = .ok (.iconst 0, 1) := by decide +kernel
theorem dX3_walks_7 : decode cX3_walks 7 = .ok (.putfield 35, 3) := by decide +kernel
theorem dX3_walks_10 : decode cX3_walks 10 = .ok (.aload_n 0, 1) := by decide +kernel
theorem dX3_walks_11 : decode cX3_walks 11 = .ok (.iconst 0, 1) := by decide +kernel
theorem dX3_walks_12 : decode cX3_walks 12 = .ok (.putfield 38, 3) := by decide +kernel
theorem dX3_walks_15 : decode cX3_walks 15 = .ok (.iconst 0, 1) := by decide +kernel
theorem dX3_walks_16 : decode cX3_walks 16 = .ok (.istore_n 3, 1) := by decide +kernel
theorem dX3_walks_17 : decode cX3_walks 17 = .ok (.iload_n 3, 1) := by decide +kernel
theorem dX3_walks_18 : decode cX3_walks 18 = .ok (.aload_n 0, 1) := by decide +kernel
theorem dX3_walks_19 : decode cX3_walks 19 = .ok (.getfield 22, 3) := by decide +kernel
theorem dX3_walks_22 : decode cX3_walks 22 = .ok (.if_icmp .ge 91, 3) := by decide +kernel
theorem dX3_walks_25 : decode cX3_walks 25 = .ok (.iload_n 3, 1) := by decide +kernel
theorem dX3_walks_26 : decode cX3_walks 26 = .ok (.bipush 8, 2) := by decide +kernel
theorem dX3_walks_28 : decode cX3_walks 28 = .ok (.if_icmp .ge 85, 3) := by decide +kernel
theorem dX3_walks_31 : decode cX3_walks 31 = .ok (.aload_n 0, 1) := by decide +kernel
theorem dX3_walks_32 : decode cX3_walks 32 = .ok (.getfield 18, 3) := by decide +kernel
theorem dX3_walks_35 : decode cX3_walks 35 = .ok (.iload_n 3, 1) := by decide +kernel
theorem dX3_walks_36 : decode cX3_walks 36 = .ok (.iaload, 1) := by decide +kernel
theorem dX3_walks_37 : decode cX3_walks 37 = .ok (.istore 4, 2) := by decide +kernel
theorem dX3_walks_39 : decode cX3_walks 39 = .ok (.aload_n 0, 1) := by decide +kernel
theorem dX3_walks_40 : decode cX3_walks 40 = .ok (.getfield 12, 3) := by decide +kernel
theorem dX3_walks_43 : decode cX3_walks 43 = .ok (.iload 4, 2) := by decide +kernel
theorem dX3_walks_45 : decode cX3_walks 45 = .ok (.iload_n 3, 1) := by decide +kernel
theorem dX3_walks_46 : decode cX3_walks 46 = .ok (.aload_n 0, 1) := by decide +kernel
theorem dX3_walks_47 : decode cX3_walks 47 = .ok (.getfield 32, 3) := by decide +kernel
theorem dX3_walks_50 : decode cX3_walks 50 = .ok (.invokevirtual 65, 3) := by decide +kernel
theorem dX3_walks_53 : decode cX3_walks 53 = .ok (.ifCond .ne 5, 3) := by decide +kernel
theorem dX3_walks_56 : decode cX3_walks 56 = .ok (.iconst 0, 1) := by decide +kernel
theorem dX3_walks_57 : decode cX3_walks 57 = .ok (.ireturn, 1) := by decide +kernel
theorem dX3_walks_58 : decode cX3_walks 58 = .ok (.aload_n 0, 1) := by decide +kernel
theorem dX3_walks_59 : decode cX3_walks 59 = .ok (.aload_n 0, 1) := by decide +kernel
theorem dX3_walks_60 : decode cX3_walks 60 = .ok (.getfield 12, 3) := by decide +kernel
theorem dX3_walks_63 : decode cX3_walks 63 = .ok (.getfield 69, 3) := by decide +kernel
theorem dX3_walks_66 : decode cX3_walks 66 = .ok (.putfield 32, 3) := by decide +kernel
theorem dX3_walks_69 : decode cX3_walks 69 = .ok (.aload_n 0, 1) := by decide +kernel
theorem dX3_walks_70 : decode cX3_walks 70 = .ok (.dup, 1) := by decide +kernel
theorem dX3_walks_71 : decode cX3_walks 71 = .ok (.getfield 35, 3) := by decide +kernel
theorem dX3_walks_74 : decode cX3_walks 74 = .ok (.aload_n 0, 1) := by decide +kernel
theorem dX3_walks_75 : decode cX3_walks 75 = .ok (.getfield 12, 3) := by decide +kernel
theorem dX3_walks_78 : decode cX3_walks 78 = .ok (.getfield 70, 3) := by decide +kernel
theorem dX3_walks_81 : decode cX3_walks 81 = .ok (.iadd, 1) := by decide +kernel
theorem dX3_walks_82 : decode cX3_walks 82 = .ok (.putfield 35, 3) := by decide +kernel
theorem dX3_walks_85 : decode cX3_walks 85 = .ok (.iload 4, 2) := by decide +kernel
theorem dX3_walks_87 : decode cX3_walks 87 = .ok (.iload_n 2, 1) := by decide +kernel
theorem dX3_walks_88 : decode cX3_walks 88 = .ok (.if_icmp .ne 19, 3) := by decide +kernel
theorem dX3_walks_91 : decode cX3_walks 91 = .ok (.aload_n 0, 1) := by decide +kernel
theorem dX3_walks_92 : decode cX3_walks 92 = .ok (.dup, 1) := by decide +kernel
theorem dX3_walks_93 : decode cX3_walks 93 = .ok (.getfield 38, 3) := by decide +kernel
theorem dX3_walks_96 : decode cX3_walks 96 = .ok (.aload_n 0, 1) := by decide +kernel
theorem dX3_walks_97 : decode cX3_walks 97 = .ok (.getfield 12, 3) := by decide +kernel
theorem dX3_walks_100 : decode cX3_walks 100 = .ok (.getfield 71, 3) := by decide +kernel
theorem dX3_walks_103 : decode cX3_walks 103 = .ok (.iadd, 1) := by decide +kernel
theorem dX3_walks_104 : decode cX3_walks 104 = .ok (.putfield 38, 3) := by decide +kernel
theorem dX3_walks_107 : decode cX3_walks 107 = .ok (.iinc 3 1, 3) := by decide +kernel
theorem dX3_walks_110 : decode cX3_walks 110 = .ok (.goto (-93), 3) := by decide +kernel
theorem dX3_walks_113 : decode cX3_walks 113 = .ok (.iconst 1, 1) := by decide +kernel
theorem dX3_walks_114 : decode cX3_walks 114 = .ok (.ireturn, 1) := by decide +kernel
theorem dX3_comesOut_0 : decode cX3_comesOut 0 = .ok (.aload_n 0, 1) := by decide +kernel
theorem dX3_comesOut_1 : decode cX3_comesOut 1 = .ok (.iload_n 1, 1) := by decide +kernel
theorem dX3_comesOut_2 : decode cX3_comesOut 2 = .ok (.iconst (-1), 1) := by decide +kernel
theorem dX3_comesOut_3 : decode cX3_comesOut 3 = .ok (.invokevirtual 72, 3) := by decide +kernel
theorem dX3_comesOut_6 : decode cX3_comesOut 6 = .ok (.ifCond .eq 11, 3) := by decide +kernel
theorem dX3_comesOut_9 : decode cX3_comesOut 9 = .ok (.aload_n 0, 1) := by decide +kernel
theorem dX3_comesOut_10 : decode cX3_comesOut 10 = .ok (.getfield 26, 3) := by decide +kernel
theorem dX3_comesOut_13 : decode cX3_comesOut 13 = .ok (.iconst 1, 1) := by decide +kernel
theorem dX3_comesOut_14 : decode cX3_comesOut 14 = .ok (.if_icmp .ge 5, 3) := by decide +kernel
theorem dX3_comesOut_17 : decode cX3_comesOut 17 = .ok (.iconst 0, 1) := by decide +kernel
theorem dX3_comesOut_18 : decode cX3_comesOut 18 = .ok (.ireturn, 1) := by decide +kernel
theorem dX3_comesOut_19 : decode cX3_comesOut 19 = .ok (.aload_n 0, 1) := by decide +kernel
theorem dX3_comesOut_20 : decode cX3_comesOut 20 = .ok (.getfield 32, 3) := by decide +kernel
theorem dX3_comesOut_23 : decode cX3_comesOut 23 = .ok (.aload_n 0, 1) := by decide +kernel
theorem dX3_comesOut_24 : decode cX3_comesOut 24 = .ok (.getfield 29, 3) := by decide +kernel
theorem dX3_comesOut_27 : decode cX3_comesOut 27 = .ok (.if_icmp .lt 24, 3) := by decide +kernel
theorem dX3_comesOut_30 : decode cX3_comesOut 30 = .ok (.aload_n 0, 1) := by decide +kernel
theorem dX3_comesOut_31 : decode cX3_comesOut 31 = .ok (.getfield 32, 3) := by decide +kernel
theorem dX3_comesOut_34 : decode cX3_comesOut 34 = .ok (.aload_n 0, 1) := by decide +kernel
theorem dX3_comesOut_35 : decode cX3_comesOut 35 = .ok (.getfield 29, 3) := by decide +kernel
theorem dX3_comesOut_38 : decode cX3_comesOut 38 = .ok (.isub, 1) := by decide +kernel
theorem dX3_comesOut_39 : decode cX3_comesOut 39 = .ok (.aload_n 0, 1) := by decide +kernel
theorem dX3_comesOut_40 : decode cX3_comesOut 40 = .ok (.getfield 26, 3) := by decide +kernel
theorem dX3_comesOut_43 : decode cX3_comesOut 43 = .ok (.irem, 1) := by decide +kernel
theorem dX3_comesOut_44 : decode cX3_comesOut 44 = .ok (.ifCond .ne 7, 3) := by decide +kernel
theorem dX3_comesOut_47 : decode cX3_comesOut 47 = .ok (.iconst 1, 1) := by decide +kernel
theorem dX3_comesOut_48 : decode cX3_comesOut 48 = .ok (.goto 4, 3) := by decide +kernel
theorem dX3_comesOut_51 : decode cX3_comesOut 51 = .ok (.iconst 0, 1) := by decide +kernel
theorem dX3_comesOut_52 : decode cX3_comesOut 52 = .ok (.ireturn, 1) := by decide +kernel
theorem dX3_first_0 : decode cX3_first 0 = .ok (.iload_n 1, 1) := by decide +kernel
theorem dX3_first_1 : decode cX3_first 1 = .ok (.istore_n 3, 1) := by decide +kernel
theorem dX3_first_2 : decode cX3_first 2 = .ok (.iload_n 3, 1) := by decide +kernel
theorem dX3_first_3 : decode cX3_first 3 = .ok (.iload_n 2, 1) := by decide +kernel
theorem dX3_first_4 : decode cX3_first 4 = .ok (.if_icmp .gt 19, 3) := by decide +kernel
theorem dX3_first_7 : decode cX3_first 7 = .ok (.aload_n 0, 1) := by decide +kernel
theorem dX3_first_8 : decode cX3_first 8 = .ok (.iload_n 3, 1) := by decide +kernel
theorem dX3_first_9 : decode cX3_first 9 = .ok (.invokevirtual 76, 3) := by decide +kernel
theorem dX3_first_12 : decode cX3_first 12 = .ok (.ifCond .eq 5, 3) := by decide +kernel
theorem dX3_first_15 : decode cX3_first 15 = .ok (.iload_n 3, 1) := by decide +kernel
theorem dX3_first_16 : decode cX3_first 16 = .ok (.ireturn, 1) := by decide +kernel
theorem dX3_first_17 : decode cX3_first 17 = .ok (.iinc 3 1, 3) := by decide +kernel
theorem dX3_first_20 : decode cX3_first 20 = .ok (.goto (-18), 3) := by decide +kernel
theorem dX3_first_23 : decode cX3_first 23 = .ok (.bipush (-5), 2) := by decide +kernel
theorem dX3_first_25 : decode cX3_first 25 = .ok (.ireturn, 1) := by decide +kernel
theorem dX3_last_0 : decode cX3_last 0 = .ok (.iload_n 1, 1) := by decide +kernel
theorem dX3_last_1 : decode cX3_last 1 = .ok (.istore_n 2, 1) := by decide +kernel
theorem dX3_last_2 : decode cX3_last 2 = .ok (.iload_n 2, 1) := by decide +kernel
theorem dX3_last_3 : decode cX3_last 3 = .ok (.ifCond .lt 19, 3) := by decide +kernel
theorem dX3_last_6 : decode cX3_last 6 = .ok (.aload_n 0, 1) := by decide +kernel
theorem dX3_last_7 : decode cX3_last 7 = .ok (.iload_n 2, 1) := by decide +kernel
theorem dX3_last_8 : decode cX3_last 8 = .ok (.invokevirtual 76, 3) := by decide +kernel
theorem dX3_last_11 : decode cX3_last 11 = .ok (.ifCond .eq 5, 3) := by decide +kernel
theorem dX3_last_14 : decode cX3_last 14 = .ok (.iload_n 2, 1) := by decide +kernel
theorem dX3_last_15 : decode cX3_last 15 = .ok (.ireturn, 1) := by decide +kernel
theorem dX3_last_16 : decode cX3_last 16 = .ok (.iinc 2 (-1), 3) := by decide +kernel
theorem dX3_last_19 : decode cX3_last 19 = .ok (.goto (-17), 3) := by decide +kernel
theorem dX3_last_22 : decode cX3_last 22 = .ok (.bipush (-5), 2) := by decide +kernel
theorem dX3_last_24 : decode cX3_last 24 = .ok (.ireturn, 1) := by decide +kernel
theorem dX3_howMany_0 : decode cX3_howMany 0 = .ok (.iconst 0, 1) := by decide +kernel
theorem dX3_howMany_1 : decode cX3_howMany 1 = .ok (.istore_n 3, 1) := by decide +kernel
theorem dX3_howMany_2 : decode cX3_howMany 2 = .ok (.iload_n 1, 1) := by decide +kernel
theorem dX3_howMany_3 : decode cX3_howMany 3 = .ok (.istore 4, 2) := by decide +kernel
theorem dX3_howMany_5 : decode cX3_howMany 5 = .ok (.iload 4, 2) := by decide +kernel
theorem dX3_howMany_7 : decode cX3_howMany 7 = .ok (.iload_n 2, 1) := by decide +kernel
theorem dX3_howMany_8 : decode cX3_howMany 8 = .ok (.if_icmp .gt 21, 3) := by decide +kernel
theorem dX3_howMany_11 : decode cX3_howMany 11 = .ok (.aload_n 0, 1) := by decide +kernel
theorem dX3_howMany_12 : decode cX3_howMany 12 = .ok (.iload 4, 2) := by decide +kernel
theorem dX3_howMany_14 : decode cX3_howMany 14 = .ok (.invokevirtual 76, 3) := by decide +kernel
theorem dX3_howMany_17 : decode cX3_howMany 17 = .ok (.ifCond .eq 6, 3) := by decide +kernel
theorem dX3_howMany_20 : decode cX3_howMany 20 = .ok (.iinc 3 1, 3) := by decide +kernel
theorem dX3_howMany_23 : decode cX3_howMany 23 = .ok (.iinc 4 1, 3) := by decide +kernel
theorem dX3_howMany_26 : decode cX3_howMany 26 = .ok (.goto (-21), 3) := by decide +kernel
theorem dX3_howMany_29 : decode cX3_howMany 29 = .ok (.iload_n 3, 1) := by decide +kernel
theorem dX3_howMany_30 : decode cX3_howMany 30 = .ok (.ireturn, 1) := by decide +kernel
theorem dX3_firstThatLeaves_0 : decode cX3_firstThatLeaves 0 = .ok (.iload_n 1, 1) := by decide +kernel
theorem dX3_firstThatLeaves_1 : decode cX3_firstThatLeaves 1 = .ok (.istore_n 3, 1) := by decide +kernel
theorem dX3_firstThatLeaves_2 : decode cX3_firstThatLeaves 2 = .ok (.iload_n 3, 1) := by decide +kernel
theorem dX3_firstThatLeaves_3 : decode cX3_firstThatLeaves 3 = .ok (.iload_n 2, 1) := by decide +kernel
theorem dX3_firstThatLeaves_4 : decode cX3_firstThatLeaves 4 = .ok (.if_icmp .gt 28, 3) := by decide +kernel
theorem dX3_firstThatLeaves_7 : decode cX3_firstThatLeaves 7 = .ok (.aload_n 0, 1) := by decide +kernel
theorem dX3_firstThatLeaves_8 : decode cX3_firstThatLeaves 8 = .ok (.iload_n 3, 1) := by decide +kernel
theorem dX3_firstThatLeaves_9 : decode cX3_firstThatLeaves 9 = .ok (.iconst (-1), 1) := by decide +kernel
theorem dX3_firstThatLeaves_10 : decode cX3_firstThatLeaves 10 = .ok (.invokevirtual 72, 3) := by decide +kernel
theorem dX3_firstThatLeaves_13 : decode cX3_firstThatLeaves 13 = .ok (.ifCond .eq 13, 3) := by decide +kernel
theorem dX3_firstThatLeaves_16 : decode cX3_firstThatLeaves 16 = .ok (.aload_n 0, 1) := by decide +kernel
theorem dX3_firstThatLeaves_17 : decode cX3_firstThatLeaves 17 = .ok (.getfield 32, 3) := by decide +kernel
theorem dX3_firstThatLeaves_20 : decode cX3_firstThatLeaves 20 = .ok (.iload_n 1, 1) := by decide +kernel
theorem dX3_firstThatLeaves_21 : decode cX3_firstThatLeaves 21 = .ok (.if_icmp .ne 5, 3) := by decide +kernel
theorem dX3_firstThatLeaves_24 : decode cX3_firstThatLeaves 24 = .ok (.iload_n 3, 1) := by decide +kernel
theorem dX3_firstThatLeaves_25 : decode cX3_firstThatLeaves 25 = .ok (.ireturn, 1) := by decide +kernel
theorem dX3_firstThatLeaves_26 : decode cX3_firstThatLeaves 26 = .ok (.iinc 3 1, 3) := by decide +kernel
theorem dX3_firstThatLeaves_29 : decode cX3_firstThatLeaves 29 = .ok (.goto (-27), 3) := by decide +kernel
theorem dX3_firstThatLeaves_32 : decode cX3_firstThatLeaves 32 = .ok (.bipush (-5), 2) := by decide +kernel
theorem dX3_firstThatLeaves_34 : decode cX3_firstThatLeaves 34 = .ok (.ireturn, 1) := by decide +kernel
theorem dX3_firstOtherThan_0 : decode cX3_firstOtherThan 0 = .ok (.iload_n 2, 1) := by decide +kernel
theorem dX3_firstOtherThan_1 : decode cX3_firstOtherThan 1 = .ok (.iconst 1, 1) := by decide +kernel
theorem dX3_firstOtherThan_2 : decode cX3_firstOtherThan 2 = .ok (.if_icmp .lt 9, 3) := by decide +kernel
theorem dX3_firstOtherThan_5 : decode cX3_firstOtherThan 5 = .ok (.aload_n 1, 1) := by decide +kernel
theorem dX3_firstOtherThan_6 : decode cX3_firstOtherThan 6 = .ok (.arraylength, 1) := by decide +kernel
theorem dX3_firstOtherThan_7 : decode cX3_firstOtherThan 7 = .ok (.iconst 1, 1) := by decide +kernel
theorem dX3_firstOtherThan_8 : decode cX3_firstOtherThan 8 = .ok (.if_icmp .ge 6, 3) := by decide +kernel
theorem dX3_firstOtherThan_11 : decode cX3_firstOtherThan 11 = .ok (.bipush (-5), 2) := by decide +kernel
theorem dX3_firstOtherThan_13 : decode cX3_firstOtherThan 13 = .ok (.ireturn, 1) := by decide +kernel
theorem dX3_firstOtherThan_14 : decode cX3_firstOtherThan 14 = .ok (.aload_n 1, 1) := by decide +kernel
theorem dX3_firstOtherThan_15 : decode cX3_firstOtherThan 15 = .ok (.iconst 0, 1) := by decide +kernel
theorem dX3_firstOtherThan_16 : decode cX3_firstOtherThan 16 = .ok (.iaload, 1) := by decide +kernel
theorem dX3_firstOtherThan_17 : decode cX3_firstOtherThan 17 = .ok (.istore_n 3, 1) := by decide +kernel
theorem dX3_firstOtherThan_18 : decode cX3_firstOtherThan 18 = .ok (.iconst 1, 1) := by decide +kernel
theorem dX3_firstOtherThan_19 : decode cX3_firstOtherThan 19 = .ok (.istore 4, 2) := by decide +kernel
theorem dX3_firstOtherThan_21 : decode cX3_firstOtherThan 21 = .ok (.iload 4, 2) := by decide +kernel
theorem dX3_firstOtherThan_23 : decode cX3_firstOtherThan 23 = .ok (.iload_n 2, 1) := by decide +kernel
theorem dX3_firstOtherThan_24 : decode cX3_firstOtherThan 24 = .ok (.if_icmp .ge 78, 3) := by decide +kernel
theorem dX3_firstOtherThan_27 : decode cX3_firstOtherThan 27 = .ok (.iload 4, 2) := by decide +kernel
theorem dX3_firstOtherThan_29 : decode cX3_firstOtherThan 29 = .ok (.aload_n 1, 1) := by decide +kernel
theorem dX3_firstOtherThan_30 : decode cX3_firstOtherThan 30 = .ok (.arraylength, 1) := by decide +kernel
theorem dX3_firstOtherThan_31 : decode cX3_firstOtherThan 31 = .ok (.if_icmp .ge 71, 3) := by decide +kernel
theorem dX3_firstOtherThan_34 : decode cX3_firstOtherThan 34 = .ok (.iload 4, 2) := by decide +kernel
theorem dX3_firstOtherThan_36 : decode cX3_firstOtherThan 36 = .ok (.aload_n 0, 1) := by decide +kernel
theorem dX3_firstOtherThan_37 : decode cX3_firstOtherThan 37 = .ok (.getfield 22, 3) := by decide +kernel
theorem dX3_firstOtherThan_40 : decode cX3_firstOtherThan 40 = .ok (.if_icmp .gt 62, 3) := by decide +kernel
theorem dX3_firstOtherThan_43 : decode cX3_firstOtherThan 43 = .ok (.iload 4, 2) := by decide +kernel
theorem dX3_firstOtherThan_45 : decode cX3_firstOtherThan 45 = .ok (.bipush 8, 2) := by decide +kernel
theorem dX3_firstOtherThan_47 : decode cX3_firstOtherThan 47 = .ok (.if_icmp .gt 55, 3) := by decide +kernel
theorem dX3_firstOtherThan_50 : decode cX3_firstOtherThan 50 = .ok (.aload_n 0, 1) := by decide +kernel
theorem dX3_firstOtherThan_51 : decode cX3_firstOtherThan 51 = .ok (.getfield 12, 3) := by decide +kernel
theorem dX3_firstOtherThan_54 : decode cX3_firstOtherThan 54 = .ok (.aload_n 0, 1) := by decide +kernel
theorem dX3_firstOtherThan_55 : decode cX3_firstOtherThan 55 = .ok (.getfield 18, 3) := by decide +kernel
theorem dX3_firstOtherThan_58 : decode cX3_firstOtherThan 58 = .ok (.iload 4, 2) := by decide +kernel
theorem dX3_firstOtherThan_60 : decode cX3_firstOtherThan 60 = .ok (.iconst 1, 1) := by decide +kernel
theorem dX3_firstOtherThan_61 : decode cX3_firstOtherThan 61 = .ok (.isub, 1) := by decide +kernel
theorem dX3_firstOtherThan_62 : decode cX3_firstOtherThan 62 = .ok (.iaload, 1) := by decide +kernel
theorem dX3_firstOtherThan_63 : decode cX3_firstOtherThan 63 = .ok (.iload 4, 2) := by decide +kernel
theorem dX3_firstOtherThan_65 : decode cX3_firstOtherThan 65 = .ok (.iconst 1, 1) := by decide +kernel
theorem dX3_firstOtherThan_66 : decode cX3_firstOtherThan 66 = .ok (.isub, 1) := by decide +kernel
theorem dX3_firstOtherThan_67 : decode cX3_firstOtherThan 67 = .ok (.iload_n 3, 1) := by decide +kernel
theorem dX3_firstOtherThan_68 : decode cX3_firstOtherThan 68 = .ok (.invokevirtual 65, 3) := by decide +kernel
theorem dX3_firstOtherThan_71 : decode cX3_firstOtherThan 71 = .ok (.ifCond .ne 6, 3) := by decide +kernel
theorem dX3_firstOtherThan_74 : decode cX3_firstOtherThan 74 = .ok (.bipush (-5), 2) := by decide +kernel
theorem dX3_firstOtherThan_76 : decode cX3_firstOtherThan 76 = .ok (.ireturn, 1) := by decide +kernel
theorem dX3_firstOtherThan_77 : decode cX3_firstOtherThan 77 = .ok (.aload_n 0, 1) := by decide +kernel
theorem dX3_firstOtherThan_78 : decode cX3_firstOtherThan 78 = .ok (.getfield 12, 3) := by decide +kernel
theorem dX3_firstOtherThan_81 : decode cX3_firstOtherThan 81 = .ok (.getfield 69, 3) := by decide +kernel
theorem dX3_firstOtherThan_84 : decode cX3_firstOtherThan 84 = .ok (.istore_n 3, 1) := by decide +kernel
theorem dX3_firstOtherThan_85 : decode cX3_firstOtherThan 85 = .ok (.iload_n 3, 1) := by decide +kernel
theorem dX3_firstOtherThan_86 : decode cX3_firstOtherThan 86 = .ok (.aload_n 1, 1) := by decide +kernel
theorem dX3_firstOtherThan_87 : decode cX3_firstOtherThan 87 = .ok (.iload 4, 2) := by decide +kernel
theorem dX3_firstOtherThan_89 : decode cX3_firstOtherThan 89 = .ok (.iaload, 1) := by decide +kernel
theorem dX3_firstOtherThan_90 : decode cX3_firstOtherThan 90 = .ok (.if_icmp .eq 6, 3) := by decide +kernel
theorem dX3_firstOtherThan_93 : decode cX3_firstOtherThan 93 = .ok (.iload 4, 2) := by decide +kernel
theorem dX3_firstOtherThan_95 : decode cX3_firstOtherThan 95 = .ok (.ireturn, 1) := by decide +kernel
theorem dX3_firstOtherThan_96 : decode cX3_firstOtherThan 96 = .ok (.iinc 4 1, 3) := by decide +kernel
theorem dX3_firstOtherThan_99 : decode cX3_firstOtherThan 99 = .ok (.goto (-78), 3) := by decide +kernel
theorem dX3_firstOtherThan_102 : decode cX3_firstOtherThan 102 = .ok (.bipush (-5), 2) := by decide +kernel
theorem dX3_firstOtherThan_104 : decode cX3_firstOtherThan 104 = .ok (.ireturn, 1) := by decide +kernel
theorem dX4_init_0 : decode cX4_init 0 = .ok (.aload_n 0, 1) := by decide +kernel
theorem dX4_init_1 : decode cX4_init 1 = .ok (.invokespecial 3, 3) := by decide +kernel
theorem dX4_init_4 : decode cX4_init 4 = .ok (.aload_n 0, 1) := by decide +kernel
theorem dX4_init_5 : decode cX4_init 5 = .ok (.new 9, 3) := by decide +kernel
theorem dX4_init_8 : decode cX4_init 8 = .ok (.dup, 1) := by decide +kernel
theorem dX4_init_9 : decode cX4_init 9 = .ok (.invokespecial 11, 3) := by decide +kernel
theorem dX4_init_12 : decode cX4_init 12 = .ok (.putfield 12, 3) := by decide +kernel
theorem dX4_init_15 : decode cX4_init 15 = .ok (.aload_n 0, 1) := by decide +kernel
theorem dX4_init_16 : decode cX4_init 16 = .ok (.bipush 6, 2) := by decide +kernel
theorem dX4_init_18 : decode cX4_init 18 = .ok (.newarray .int, 2) := by decide +kernel
theorem dX4_init_20 : decode cX4_init 20 = .ok (.putfield 18, 3) := by decide +kernel
theorem dX4_init_23 : decode cX4_init 23 = .ok (.aload_n 0, 1) := by decide +kernel
theorem dX4_init_24 : decode cX4_init 24 = .ok (.bipush 6, 2) := by decide +kernel
theorem dX4_init_26 : decode cX4_init 26 = .ok (.newarray .int, 2) := by decide +kernel
theorem dX4_init_28 : decode cX4_init 28 = .ok (.putfield 22, 3) := by decide +kernel
theorem dX4_init_31 : decode cX4_init 31 = .ok (.aload_n 0, 1) := by decide +kernel
theorem dX4_init_32 : decode cX4_init 32 = .ok (.iconst (-1), 1) := by decide +kernel
theorem dX4_init_33 : decode cX4_init 33 = .ok (.putfield 25, 3) := by decide +kernel
theorem dX4_init_36 : decode cX4_init 36 = .ok (.aload_n 0, 1) := by decide +kernel
theorem dX4_init_37 : decode cX4_init 37 = .ok (.iconst 0, 1) := by decide +kernel
theorem dX4_init_38 : decode cX4_init 38 = .ok (.putfield 29, 3) := by decide +kernel
theorem dX4_init_41 : decode cX4_init 41 = .ok (.aload_n 0, 1) := by decide +kernel
theorem dX4_init_42 : decode cX4_init 42 = .ok (.iconst 0, 1) := by decide +kernel
theorem dX4_init_43 : decode cX4_init 43 = .ok (.putfield 32, 3) := by decide +kernel
theorem dX4_init_46 : decode cX4_init 46 = .ok (.aload_n 0, 1) := by decide +kernel
theorem dX4_init_47 : decode cX4_init 47 = .ok (.iconst 0, 1) := by decide +kernel
theorem dX4_init_48 : decode cX4_init 48 = .ok (.putfield 35, 3) := by decide +kernel
theorem dX4_init_51 : decode cX4_init 51 = .ok (.return_, 1) := by decide +kernel
theorem dX4_seek_0 : decode cX4_seek 0 = .ok (.aload_n 0, 1) := by decide +kernel
theorem dX4_seek_1 : decode cX4_seek 1 = .ok (.aload_n 1, 1) := by decide +kernel
theorem dX4_seek_2 : decode cX4_seek 2 = .ok (.getfield 38, 3) := by decide +kernel
theorem dX4_seek_5 : decode cX4_seek 5 = .ok (.bipush 6, 2) := by decide +kernel
theorem dX4_seek_7 : decode cX4_seek 7 = .ok (.invokestatic 41, 3) := by decide +kernel
theorem dX4_seek_10 : decode cX4_seek 10 = .ok (.putfield 29, 3) := by decide +kernel
theorem dX4_seek_13 : decode cX4_seek 13 = .ok (.aload_n 0, 1) := by decide +kernel
theorem dX4_seek_14 : decode cX4_seek 14 = .ok (.iload 4, 2) := by decide +kernel
theorem dX4_seek_16 : decode cX4_seek 16 = .ok (.putfield 32, 3) := by decide +kernel
theorem dX4_seek_19 : decode cX4_seek 19 = .ok (.aload_n 0, 1) := by decide +kernel
theorem dX4_seek_20 : decode cX4_seek 20 = .ok (.iconst 0, 1) := by decide +kernel
theorem dX4_seek_21 : decode cX4_seek 21 = .ok (.putfield 35, 3) := by decide +kernel
theorem dX4_seek_24 : decode cX4_seek 24 = .ok (.aload_n 0, 1) := by decide +kernel
theorem dX4_seek_25 : decode cX4_seek 25 = .ok (.iconst (-1), 1) := by decide +kernel
theorem dX4_seek_26 : decode cX4_seek 26 = .ok (.putfield 25, 3) := by decide +kernel
theorem dX4_seek_29 : decode cX4_seek 29 = .ok (.aload_n 0, 1) := by decide +kernel
theorem dX4_seek_30 : decode cX4_seek 30 = .ok (.getfield 12, 3) := by decide +kernel
theorem dX4_seek_33 : decode cX4_seek 33 = .ok (.aload_n 1, 1) := by decide +kernel
theorem dX4_seek_34 : decode cX4_seek 34 = .ok (.aload_n 2, 1) := by decide +kernel
theorem dX4_seek_35 : decode cX4_seek 35 = .ok (.invokevirtual 47, 3) := by decide +kernel
theorem dX4_seek_38 : decode cX4_seek 38 = .ok (.iconst 0, 1) := by decide +kernel
theorem dX4_seek_39 : decode cX4_seek 39 = .ok (.istore 5, 2) := by decide +kernel
theorem dX4_seek_41 : decode cX4_seek 41 = .ok (.iload 5, 2) := by decide +kernel
theorem dX4_seek_43 : decode cX4_seek 43 = .ok (.aload_n 0, 1) := by decide +kernel
theorem dX4_seek_44 : decode cX4_seek 44 = .ok (.getfield 29, 3) := by decide +kernel
theorem dX4_seek_47 : decode cX4_seek 47 = .ok (.if_icmp .ge 39, 3) := by decide +kernel
theorem dX4_seek_50 : decode cX4_seek 50 = .ok (.iconst 0, 1) := by decide +kernel
theorem dX4_seek_51 : decode cX4_seek 51 = .ok (.istore 6, 2) := by decide +kernel
theorem dX4_seek_53 : decode cX4_seek 53 = .ok (.iload 6, 2) := by decide +kernel
theorem dX4_seek_55 : decode cX4_seek 55 = .ok (.aload_n 0, 1) := by decide +kernel
theorem dX4_seek_56 : decode cX4_seek 56 = .ok (.getfield 29, 3) := by decide +kernel
theorem dX4_seek_59 : decode cX4_seek 59 = .ok (.if_icmp .ge 21, 3) := by decide +kernel
theorem dX4_seek_62 : decode cX4_seek 62 = .ok (.aload_n 0, 1) := by decide +kernel
theorem dX4_seek_63 : decode cX4_seek 63 = .ok (.getfield 12, 3) := by decide +kernel
theorem dX4_seek_66 : decode cX4_seek 66 = .ok (.aload_n 2, 1) := by decide +kernel
theorem dX4_seek_67 : decode cX4_seek 67 = .ok (.iload 5, 2) := by decide +kernel
theorem dX4_seek_69 : decode cX4_seek 69 = .ok (.iload 6, 2) := by decide +kernel
theorem dX4_seek_71 : decode cX4_seek 71 = .ok (.invokevirtual 51, 3) := by decide +kernel
theorem dX4_seek_74 : decode cX4_seek 74 = .ok (.iinc 6 1, 3) := by decide +kernel
theorem dX4_seek_77 : decode cX4_seek 77 = .ok (.goto (-24), 3) := by decide +kernel
theorem dX4_seek_80 : decode cX4_seek 80 = .ok (.iinc 5 1, 3) := by decide +kernel
theorem dX4_seek_83 : decode cX4_seek 83 = .ok (.goto (-42), 3) := by decide +kernel
theorem dX4_seek_86 : decode cX4_seek 86 = .ok (.aload_n 0, 1) := by decide +kernel
theorem dX4_seek_87 : decode cX4_seek 87 = .ok (.iload_n 3, 1) := by decide +kernel
theorem dX4_seek_88 : decode cX4_seek 88 = .ok (.iconst 0, 1) := by decide +kernel
theorem dX4_seek_89 : decode cX4_seek 89 = .ok (.iconst 0, 1) := by decide +kernel
theorem dX4_seek_90 : decode cX4_seek 90 = .ok (.invokevirtual 55, 3) := by decide +kernel
theorem dX4_seek_93 : decode cX4_seek 93 = .ok (.return_, 1) := by decide +kernel
theorem dX4_follow_0 : decode cX4_follow 0 = .ok (.iload_n 1, 1) := by decide +kernel
theorem dX4_follow_1 : decode cX4_follow 1 = .ok (.aload_n 0, 1) := by decide +kernel
theorem dX4_follow_2 : decode cX4_follow 2 = .ok (.getfield 32, 3) := by decide +kernel
theorem dX4_follow_5 : decode cX4_follow 5 = .ok (.if_icmp .ne 8, 3) := by decide +kernel
theorem dX4_follow_8 : decode cX4_follow 8 = .ok (.aload_n 0, 1) := by decide +kernel
theorem dX4_follow_9 : decode cX4_follow 9 = .ok (.iload_n 2, 1) := by decide +kernel
theorem dX4_follow_10 : decode cX4_follow 10 = .ok (.invokevirtual 59, 3) := by decide +kernel
theorem dX4_follow_13 : decode cX4_follow 13 = .ok (.iload_n 2, 1) := by decide +kernel
theorem dX4_follow_14 : decode cX4_follow 14 = .ok (.ifCond .lt 11, 3) := by decide +kernel
theorem dX4_follow_17 : decode cX4_follow 17 = .ok (.iload_n 2, 1) := by decide +kernel
theorem dX4_follow_18 : decode cX4_follow 18 = .ok (.aload_n 0, 1) := by decide +kernel
theorem dX4_follow_19 : decode cX4_follow 19 = .ok (.getfield 29, 3) := by decide +kernel
theorem dX4_follow_22 : decode cX4_follow 22 = .ok (.if_icmp .lt 4, 3) := by decide +kernel
theorem dX4_follow_25 : decode cX4_follow 25 = .ok (.return_, 1) := by decide +kernel
theorem dX4_follow_26 : decode cX4_follow 26 = .ok (.iconst 0, 1) := by decide +kernel
theorem dX4_follow_27 : decode cX4_follow 27 = .ok (.istore 4, 2) := by decide +kernel
theorem dX4_follow_29 : decode cX4_follow 29 = .ok (.iload 4, 2) := by decide +kernel
theorem dX4_follow_31 : decode cX4_follow 31 = .ok (.aload_n 0, 1) := by decide +kernel
theorem dX4_follow_32 : decode cX4_follow 32 = .ok (.getfield 29, 3) := by decide +kernel
theorem dX4_follow_35 : decode cX4_follow 35 = .ok (.if_icmp .ge 18, 3) := by decide +kernel
theorem dX4_follow_38 : decode cX4_follow 38 = .ok (.aload_n 0, 1) := by decide +kernel
theorem dX4_follow_39 : decode cX4_follow 39 = .ok (.iload 4, 2) := by decide +kernel
theorem dX4_follow_41 : decode cX4_follow 41 = .ok (.iload_n 1, 1) := by decide +kernel
theorem dX4_follow_42 : decode cX4_follow 42 = .ok (.iload_n 2, 1) := by decide +kernel
theorem dX4_follow_43 : decode cX4_follow 43 = .ok (.iload_n 3, 1) := by decide +kernel
theorem dX4_follow_44 : decode cX4_follow 44 = .ok (.invokevirtual 63, 3) := by decide +kernel
theorem dX4_follow_47 : decode cX4_follow 47 = .ok (.iinc 4 1, 3) := by decide +kernel
theorem dX4_follow_50 : decode cX4_follow 50 = .ok (.goto (-21), 3) := by decide +kernel
theorem dX4_follow_53 : decode cX4_follow 53 = .ok (.return_, 1) := by decide +kernel
theorem dX4_wakeNext_0 : decode cX4_wakeNext 0 = .ok (.iload 4, 2) := by decide +kernel
theorem dX4_wakeNext_2 : decode cX4_wakeNext 2 = .ok (.iload_n 1, 1) := by decide +kernel
theorem dX4_wakeNext_3 : decode cX4_wakeNext 3 = .ok (.ishr, 1) := by decide +kernel
theorem dX4_wakeNext_4 : decode cX4_wakeNext 4 = .ok (.iconst 1, 1) := by decide +kernel
theorem dX4_wakeNext_5 : decode cX4_wakeNext 5 = .ok (.iand, 1) := by decide +kernel
theorem dX4_wakeNext_6 : decode cX4_wakeNext 6 = .ok (.ifCond .ne 7, 3) := by decide +kernel
theorem dX4_wakeNext_9 : decode cX4_wakeNext 9 = .ok (.iconst 1, 1) := by decide +kernel
theorem dX4_wakeNext_10 : decode cX4_wakeNext 10 = .ok (.goto 4, 3) := by decide +kernel
theorem dX4_wakeNext_13 : decode cX4_wakeNext 13 = .ok (.iconst 0, 1) := by decide +kernel
theorem dX4_wakeNext_14 : decode cX4_wakeNext 14 = .ok (.istore 5, 2) := by decide +kernel
theorem dX4_wakeNext_16 : decode cX4_wakeNext 16 = .ok (.iload 5, 2) := by decide +kernel
theorem dX4_wakeNext_18 : decode cX4_wakeNext 18 = .ok (.ifCond .eq 53, 3) := by decide +kernel
theorem dX4_wakeNext_21 : decode cX4_wakeNext 21 = .ok (.iload_n 3, 1) := by decide +kernel
theorem dX4_wakeNext_22 : decode cX4_wakeNext 22 = .ok (.ifCond .lt 49, 3) := by decide +kernel
theorem dX4_wakeNext_25 : decode cX4_wakeNext 25 = .ok (.iload_n 3, 1) := by decide +kernel
theorem dX4_wakeNext_26 : decode cX4_wakeNext 26 = .ok (.bipush 6, 2) := by decide +kernel
theorem dX4_wakeNext_28 : decode cX4_wakeNext 28 = .ok (.if_icmp .ge 43, 3) := by decide +kernel
theorem dX4_wakeNext_31 : decode cX4_wakeNext 31 = .ok (.aload_n 0, 1) := by decide +kernel
theorem dX4_wakeNext_32 : decode cX4_wakeNext 32 = .ok (.getfield 12, 3) := by decide +kernel
theorem dX4_wakeNext_35 : decode cX4_wakeNext 35 = .ok (.iload_n 1, 1) := by decide +kernel
theorem dX4_wakeNext_36 : decode cX4_wakeNext 36 = .ok (.iload_n 3, 1) := by decide +kernel
theorem dX4_wakeNext_37 : decode cX4_wakeNext 37 = .ok (.iload_n 2, 1) := by decide +kernel
theorem dX4_wakeNext_38 : decode cX4_wakeNext 38 = .ok (.invokevirtual 67, 3) := by decide +kernel
theorem dX4_wakeNext_41 : decode cX4_wakeNext 41 = .ok (.ifCond .eq 30, 3) := by decide +kernel
theorem dX4_wakeNext_44 : decode cX4_wakeNext 44 = .ok (.aload_n 0, 1) := by decide +kernel
theorem dX4_wakeNext_45 : decode cX4_wakeNext 45 = .ok (.getfield 18, 3) := by decide +kernel
theorem dX4_wakeNext_48 : decode cX4_wakeNext 48 = .ok (.iload_n 3, 1) := by decide +kernel
theorem dX4_wakeNext_49 : decode cX4_wakeNext 49 = .ok (.iload_n 1, 1) := by decide +kernel
theorem dX4_wakeNext_50 : decode cX4_wakeNext 50 = .ok (.iastore, 1) := by decide +kernel
theorem dX4_wakeNext_51 : decode cX4_wakeNext 51 = .ok (.aload_n 0, 1) := by decide +kernel
theorem dX4_wakeNext_52 : decode cX4_wakeNext 52 = .ok (.aload_n 0, 1) := by decide +kernel
theorem dX4_wakeNext_53 : decode cX4_wakeNext 53 = .ok (.getfield 12, 3) := by decide +kernel
theorem dX4_wakeNext_56 : decode cX4_wakeNext 56 = .ok (.getfield 71, 3) := by decide +kernel
theorem dX4_wakeNext_59 : decode cX4_wakeNext 59 = .ok (.iload_n 3, 1) := by decide +kernel
theorem dX4_wakeNext_60 : decode cX4_wakeNext 60 = .ok (.iconst 1, 1) := by decide +kernel
theorem dX4_wakeNext_61 : decode cX4_wakeNext 61 = .ok (.iadd, 1) := by decide +kernel
theorem dX4_wakeNext_62 : decode cX4_wakeNext 62 = .ok (.iload 4, 2) := by decide +kernel
theorem dX4_wakeNext_64 : decode cX4_wakeNext 64 = .ok (.iconst 1, 1) := by decide +kernel
theorem dX4_wakeNext_65 : decode cX4_wakeNext 65 = .ok (.iload_n 1, 1) := by decide +kernel
theorem dX4_wakeNext_66 : decode cX4_wakeNext 66 = .ok (.ishl, 1) := by decide +kernel
theorem dX4_wakeNext_67 : decode cX4_wakeNext 67 = .ok (.ior, 1) := by decide +kernel
theorem dX4_wakeNext_68 : decode cX4_wakeNext 68 = .ok (.invokevirtual 55, 3) := by decide +kernel
theorem dX4_wakeNext_71 : decode cX4_wakeNext 71 = .ok (.return_, 1) := by decide +kernel
theorem dX4_keep_0 : decode cX4_keep 0 = .ok (.aload_n 0, 1) := by decide +kernel
theorem dX4_keep_1 : decode cX4_keep 1 = .ok (.dup, 1) := by decide +kernel
theorem dX4_keep_2 : decode cX4_keep 2 = .ok (.getfield 35, 3) := by decide +kernel
theorem dX4_keep_5 : decode cX4_keep 5 = .ok (.iconst 1, 1) := by decide +kernel
theorem dX4_keep_6 : decode cX4_keep 6 = .ok (.iadd, 1) := by decide +kernel
theorem dX4_keep_7 : decode cX4_keep 7 = .ok (.putfield 35, 3) := by decide +kernel
theorem dX4_keep_10 : decode cX4_keep 10 = .ok (.aload_n 0, 1) := by decide +kernel
theorem dX4_keep_11 : decode cX4_keep 11 = .ok (.getfield 25, 3) := by decide +kernel
theorem dX4_keep_14 : decode cX4_keep 14 = .ok (.ifCond .lt 12, 3) := by decide +kernel
theorem dX4_keep_17 : decode cX4_keep 17 = .ok (.aload_n 0, 1) := by decide +kernel
theorem dX4_keep_18 : decode cX4_keep 18 = .ok (.getfield 25, 3) := by decide +kernel
theorem dX4_keep_21 : decode cX4_keep 21 = .ok (.iload_n 1, 1) := by decide +kernel
theorem dX4_keep_22 : decode cX4_keep 22 = .ok (.if_icmp .gt 4, 3) := by decide +kernel
theorem dX4_keep_25 : decode cX4_keep 25 = .ok (.return_, 1) := by decide +kernel
theorem dX4_keep_26 : decode cX4_keep 26 = .ok (.aload_n 0, 1) := by decide +kernel
theorem dX4_keep_27 : decode cX4_keep 27 = .ok (.iload_n 1, 1) := by decide +kernel
theorem dX4_keep_28 : decode cX4_keep 28 = .ok (.putfield 25, 3) := by decide +kernel
theorem dX4_keep_31 : decode cX4_keep 31 = .ok (.aload_n 0, 1) := by decide +kernel
theorem dX4_keep_32 : decode cX4_keep 32 = .ok (.getfield 18, 3) := by decide +kernel
theorem dX4_keep_35 : decode cX4_keep 35 = .ok (.iconst 0, 1) := by decide +kernel
theorem dX4_keep_36 : decode cX4_keep 36 = .ok (.aload_n 0, 1) := by decide +kernel
theorem dX4_keep_37 : decode cX4_keep 37 = .ok (.getfield 22, 3) := by decide +kernel
theorem dX4_keep_40 : decode cX4_keep 40 = .ok (.iconst 0, 1) := by decide +kernel
theorem dX4_keep_41 : decode cX4_keep 41 = .ok (.bipush 6, 2) := by decide +kernel
theorem dX4_keep_43 : decode cX4_keep 43 = .ok (.invokestatic 74, 3) := by decide +kernel
theorem dX4_keep_46 : decode cX4_keep 46 = .ok (.return_, 1) := by decide +kernel
theorem dX4_manAt_0 : decode cX4_manAt 0 = .ok (.iload_n 1, 1) := by decide +kernel
theorem dX4_manAt_1 : decode cX4_manAt 1 = .ok (.ifCond .lt 26, 3) := by decide +kernel
theorem dX4_manAt_4 : decode cX4_manAt 4 = .ok (.iload_n 1, 1) := by decide +kernel
theorem dX4_manAt_5 : decode cX4_manAt 5 = .ok (.aload_n 0, 1) := by decide +kernel
theorem dX4_manAt_6 : decode cX4_manAt 6 = .ok (.getfield 25, 3) := by decide +kernel
theorem dX4_manAt_9 : decode cX4_manAt 9 = .ok (.if_icmp .ge 18, 3) := by decide +kernel
theorem dX4_manAt_12 : decode cX4_manAt 12 = .ok (.iload_n 1, 1) := by decide +kernel
theorem dX4_manAt_13 : decode cX4_manAt 13 = .ok (.bipush 6, 2) := by decide +kernel
theorem dX4_manAt_15 : decode cX4_manAt 15 = .ok (.if_icmp .ge 12, 3) := by decide +kernel
theorem dX4_manAt_18 : decode cX4_manAt 18 = .ok (.aload_n 0, 1) := by decide +kernel
theorem dX4_manAt_19 : decode cX4_manAt 19 = .ok (.getfield 22, 3) := by decide +kernel
theorem dX4_manAt_22 : decode cX4_manAt 22 = .ok (.iload_n 1, 1) := by decide +kernel
theorem dX4_manAt_23 : decode cX4_manAt 23 = .ok (.iaload, 1) := by decide +kernel
theorem dX4_manAt_24 : decode cX4_manAt 24 = .ok (.goto 5, 3) := by decide +kernel
theorem dX4_manAt_27 : decode cX4_manAt 27 = .ok (.bipush (-5), 2) := by decide +kernel
theorem dX4_manAt_29 : decode cX4_manAt 29 = .ok (.ireturn, 1) := by decide +kernel
theorem dX5_init_0 : decode cX5_init 0 = .ok (.aload_n 0, 1) := by decide +kernel
theorem dX5_init_1 : decode cX5_init 1 = .ok (.invokespecial 3, 3) := by decide +kernel
theorem dX5_init_4 : decode cX5_init 4 = .ok (.aload_n 0, 1) := by decide +kernel
theorem dX5_init_5 : decode cX5_init 5 = .ok (.iconst (-1), 1) := by decide +kernel
theorem dX5_init_6 : decode cX5_init 6 = .ok (.putfield 11, 3) := by decide +kernel
theorem dX5_init_9 : decode cX5_init 9 = .ok (.aload_n 0, 1) := by decide +kernel
theorem dX5_init_10 : decode cX5_init 10 = .ok (.iconst 0, 1) := by decide +kernel
theorem dX5_init_11 : decode cX5_init 11 = .ok (.putfield 15, 3) := by decide +kernel
theorem dX5_init_14 : decode cX5_init 14 = .ok (.aload_n 0, 1) := by decide +kernel
theorem dX5_init_15 : decode cX5_init 15 = .ok (.bipush 60, 2) := by decide +kernel
theorem dX5_init_17 : decode cX5_init 17 = .ok (.newarray .long, 2) := by decide +kernel
theorem dX5_init_19 : decode cX5_init 19 = .ok (.putfield 18, 3) := by decide +kernel
theorem dX5_init_22 : decode cX5_init 22 = .ok (.return_, 1) := by decide +kernel
theorem dX5_becomes_0 : decode cX5_becomes 0 = .ok (.aload_n 0, 1) := by decide +kernel
theorem dX5_becomes_1 : decode cX5_becomes 1 = .ok (.iload_n 1, 1) := by decide +kernel
theorem dX5_becomes_2 : decode cX5_becomes 2 = .ok (.putfield 11, 3) := by decide +kernel
theorem dX5_becomes_5 : decode cX5_becomes 5 = .ok (.aload_n 0, 1) := by decide +kernel
theorem dX5_becomes_6 : decode cX5_becomes 6 = .ok (.iload_n 2, 1) := by decide +kernel
theorem dX5_becomes_7 : decode cX5_becomes 7 = .ok (.putfield 15, 3) := by decide +kernel
theorem dX5_becomes_10 : decode cX5_becomes 10 = .ok (.aload_n 0, 1) := by decide +kernel
theorem dX5_becomes_11 : decode cX5_becomes 11 = .ok (.getfield 18, 3) := by decide +kernel
theorem dX5_becomes_14 : decode cX5_becomes 14 = .ok (.lconst 0, 1) := by decide +kernel
theorem dX5_becomes_15 : decode cX5_becomes 15 = .ok (.invokestatic 22, 3) := by decide +kernel
theorem dX5_becomes_18 : decode cX5_becomes 18 = .ok (.return_, 1) := by decide +kernel
theorem dX5_holdsSomething_0 : decode cX5_holdsSomething 0 = .ok (.aload_n 0, 1) := by decide +kernel
theorem dX5_holdsSomething_1 : decode cX5_holdsSomething 1 = .ok (.getfield 11, 3) := by decide +kernel
theorem dX5_holdsSomething_4 : decode cX5_holdsSomething 4 = .ok (.iconst (-1), 1) := by decide +kernel
theorem dX5_holdsSomething_5 : decode cX5_holdsSomething 5 = .ok (.if_icmp .eq 7, 3) := by decide +kernel
theorem dX5_holdsSomething_8 : decode cX5_holdsSomething 8 = .ok (.iconst 1, 1) := by decide +kernel
theorem dX5_holdsSomething_9 : decode cX5_holdsSomething 9 = .ok (.goto 4, 3) := by decide +kernel
theorem dX5_holdsSomething_12 : decode cX5_holdsSomething 12 = .ok (.iconst 0, 1) := by decide +kernel
theorem dX5_holdsSomething_13 : decode cX5_holdsSomething 13 = .ok (.ireturn, 1) := by decide +kernel
theorem dX5_has_0 : decode cX5_has 0 = .ok (.lload_n 1, 1) := by decide +kernel
theorem dX5_has_1 : decode cX5_has 1 = .ok (.lconst 0, 1) := by decide +kernel
theorem dX5_has_2 : decode cX5_has 2 = .ok (.lcmp, 1) := by decide +kernel
theorem dX5_has_3 : decode cX5_has 3 = .ok (.ifCond .lt 25, 3) := by decide +kernel
theorem dX5_has_6 : decode cX5_has 6 = .ok (.lload_n 1, 1) := by decide +kernel
theorem dX5_has_7 : decode cX5_has 7 = .ok (.aload_n 0, 1) := by decide +kernel
theorem dX5_has_8 : decode cX5_has 8 = .ok (.getfield 15, 3) := by decide +kernel
theorem dX5_has_11 : decode cX5_has 11 = .ok (.i2l, 1) := by decide +kernel
theorem dX5_has_12 : decode cX5_has 12 = .ok (.lcmp, 1) := by decide +kernel
theorem dX5_has_13 : decode cX5_has 13 = .ok (.ifCond .ge 15, 3) := by decide +kernel
theorem dX5_has_16 : decode cX5_has 16 = .ok (.lload_n 1, 1) := by decide +kernel
theorem dX5_has_17 : decode cX5_has 17 = .ok (.ldc2_w 28, 3) := by decide +kernel
theorem dX5_has_20 : decode cX5_has 20 = .ok (.lcmp, 1) := by decide +kernel
theorem dX5_has_21 : decode cX5_has 21 = .ok (.ifCond .ge 7, 3) := by decide +kernel
theorem dX5_has_24 : decode cX5_has 24 = .ok (.iconst 1, 1) := by decide +kernel
theorem dX5_has_25 : decode cX5_has 25 = .ok (.goto 4, 3) := by decide +kernel
theorem dX5_has_28 : decode cX5_has 28 = .ok (.iconst 0, 1) := by decide +kernel
theorem dX5_has_29 : decode cX5_has 29 = .ok (.ireturn, 1) := by decide +kernel
theorem dX5_hasStretch_0 : decode cX5_hasStretch 0 = .ok (.iload_n 1, 1) := by decide +kernel
theorem dX5_hasStretch_1 : decode cX5_hasStretch 1 = .ok (.ifCond .lt 34, 3) := by decide +kernel
theorem dX5_hasStretch_4 : decode cX5_hasStretch 4 = .ok (.iload_n 2, 1) := by decide +kernel
theorem dX5_hasStretch_5 : decode cX5_hasStretch 5 = .ok (.ifCond .lt 30, 3) := by decide +kernel
theorem dX5_hasStretch_8 : decode cX5_hasStretch 8 = .ok (.iload_n 1, 1) := by decide +kernel
theorem dX5_hasStretch_9 : decode cX5_hasStretch 9 = .ok (.i2l, 1) := by decide +kernel
theorem dX5_hasStretch_10 : decode cX5_hasStretch 10 = .ok (.iload_n 2, 1) := by decide +kernel
theorem dX5_hasStretch_11 : decode cX5_hasStretch 11 = .ok (.i2l, 1) := by decide +kernel
theorem dX5_hasStretch_12 : decode cX5_hasStretch 12 = .ok (.ladd, 1) := by decide +kernel
theorem dX5_hasStretch_13 : decode cX5_hasStretch 13 = .ok (.aload_n 0, 1) := by decide +kernel
theorem dX5_hasStretch_14 : decode cX5_hasStretch 14 = .ok (.getfield 15, 3) := by decide +kernel
theorem dX5_hasStretch_17 : decode cX5_hasStretch 17 = .ok (.i2l, 1) := by decide +kernel
theorem dX5_hasStretch_18 : decode cX5_hasStretch 18 = .ok (.lcmp, 1) := by decide +kernel
theorem dX5_hasStretch_19 : decode cX5_hasStretch 19 = .ok (.ifCond .gt 16, 3) := by decide +kernel
theorem dX5_hasStretch_22 : decode cX5_hasStretch 22 = .ok (.aload_n 0, 1) := by decide +kernel
theorem dX5_hasStretch_23 : decode cX5_hasStretch 23 = .ok (.getfield 15, 3) := by decide +kernel
theorem dX5_hasStretch_26 : decode cX5_hasStretch 26 = .ok (.bipush 60, 2) := by decide +kernel
theorem dX5_hasStretch_28 : decode cX5_hasStretch 28 = .ok (.if_icmp .gt 7, 3) := by decide +kernel
theorem dX5_hasStretch_31 : decode cX5_hasStretch 31 = .ok (.iconst 1, 1) := by decide +kernel
theorem dX5_hasStretch_32 : decode cX5_hasStretch 32 = .ok (.goto 4, 3) := by decide +kernel
theorem dX5_hasStretch_35 : decode cX5_hasStretch 35 = .ok (.iconst 0, 1) := by decide +kernel
theorem dX5_hasStretch_36 : decode cX5_hasStretch 36 = .ok (.ireturn, 1) := by decide +kernel
theorem dX5_at_0 : decode cX5_at 0 = .ok (.aload_n 0, 1) := by decide +kernel
theorem dX5_at_1 : decode cX5_at 1 = .ok (.iload_n 1, 1) := by decide +kernel
theorem dX5_at_2 : decode cX5_at 2 = .ok (.i2l, 1) := by decide +kernel
theorem dX5_at_3 : decode cX5_at 3 = .ok (.invokevirtual 30, 3) := by decide +kernel
theorem dX5_at_6 : decode cX5_at 6 = .ok (.ifCond .eq 12, 3) := by decide +kernel
theorem dX5_at_9 : decode cX5_at 9 = .ok (.aload_n 0, 1) := by decide +kernel
theorem dX5_at_10 : decode cX5_at 10 = .ok (.getfield 18, 3) := by decide +kernel
theorem dX5_at_13 : decode cX5_at 13 = .ok (.iload_n 1, 1) := by decide +kernel
theorem dX5_at_14 : decode cX5_at 14 = .ok (.laload, 1) := by decide +kernel
theorem dX5_at_15 : decode cX5_at 15 = .ok (.goto 4, 3) := by decide +kernel
theorem dX5_at_18 : decode cX5_at 18 = .ok (.lconst 0, 1) := by decide +kernel
theorem dX5_at_19 : decode cX5_at 19 = .ok (.lreturn, 1) := by decide +kernel
theorem dX5_put_0 : decode cX5_put 0 = .ok (.aload_n 0, 1) := by decide +kernel
theorem dX5_put_1 : decode cX5_put 1 = .ok (.iload_n 1, 1) := by decide +kernel
theorem dX5_put_2 : decode cX5_put 2 = .ok (.i2l, 1) := by decide +kernel
theorem dX5_put_3 : decode cX5_put 3 = .ok (.invokevirtual 30, 3) := by decide +kernel
theorem dX5_put_6 : decode cX5_put 6 = .ok (.ifCond .eq 14, 3) := by decide +kernel
theorem dX5_put_9 : decode cX5_put 9 = .ok (.aload_n 0, 1) := by decide +kernel
theorem dX5_put_10 : decode cX5_put 10 = .ok (.getfield 18, 3) := by decide +kernel
theorem dX5_put_13 : decode cX5_put 13 = .ok (.iload_n 1, 1) := by decide +kernel
theorem dX5_put_14 : decode cX5_put 14 = .ok (.aload_n 0, 1) := by decide +kernel
theorem dX5_put_15 : decode cX5_put 15 = .ok (.lload_n 2, 1) := by decide +kernel
theorem dX5_put_16 : decode cX5_put 16 = .ok (.invokevirtual 34, 3) := by decide +kernel
theorem dX5_put_19 : decode cX5_put 19 = .ok (.lastore, 1) := by decide +kernel
theorem dX5_put_20 : decode cX5_put 20 = .ok (.return_, 1) := by decide +kernel
theorem dX5_cut_0 : decode cX5_cut 0 = .ok (.aload_n 0, 1) := by decide +kernel
theorem dX5_cut_1 : decode cX5_cut 1 = .ok (.getfield 11, 3) := by decide +kernel
theorem dX5_cut_4 : decode cX5_cut 4 = .ok (.tableswitch 48 0 3 #[32, 37, 42, 46], 32) := by decide +kernel
theorem dX5_cut_36 : decode cX5_cut 36 = .ok (.lload_n 1, 1) := by decide +kernel
theorem dX5_cut_37 : decode cX5_cut 37 = .ok (.l2i, 1) := by decide +kernel
theorem dX5_cut_38 : decode cX5_cut 38 = .ok (.i2b, 1) := by decide +kernel
theorem dX5_cut_39 : decode cX5_cut 39 = .ok (.i2l, 1) := by decide +kernel
theorem dX5_cut_40 : decode cX5_cut 40 = .ok (.lreturn, 1) := by decide +kernel
theorem dX5_cut_41 : decode cX5_cut 41 = .ok (.lload_n 1, 1) := by decide +kernel
theorem dX5_cut_42 : decode cX5_cut 42 = .ok (.l2i, 1) := by decide +kernel
theorem dX5_cut_43 : decode cX5_cut 43 = .ok (.i2s, 1) := by decide +kernel
theorem dX5_cut_44 : decode cX5_cut 44 = .ok (.i2l, 1) := by decide +kernel
theorem dX5_cut_45 : decode cX5_cut 45 = .ok (.lreturn, 1) := by decide +kernel
theorem dX5_cut_46 : decode cX5_cut 46 = .ok (.lload_n 1, 1) := by decide +kernel
theorem dX5_cut_47 : decode cX5_cut 47 = .ok (.l2i, 1) := by decide +kernel
theorem dX5_cut_48 : decode cX5_cut 48 = .ok (.i2l, 1) := by decide +kernel
theorem dX5_cut_49 : decode cX5_cut 49 = .ok (.lreturn, 1) := by decide +kernel
theorem dX5_cut_50 : decode cX5_cut 50 = .ok (.lload_n 1, 1) := by decide +kernel
theorem dX5_cut_51 : decode cX5_cut 51 = .ok (.lreturn, 1) := by decide +kernel
theorem dX5_cut_52 : decode cX5_cut 52 = .ok (.lload_n 1, 1) := by decide +kernel
theorem dX5_cut_53 : decode cX5_cut 53 = .ok (.lconst 0, 1) := by decide +kernel
theorem dX5_cut_54 : decode cX5_cut 54 = .ok (.lcmp, 1) := by decide +kernel
theorem dX5_cut_55 : decode cX5_cut 55 = .ok (.ifCond .eq 7, 3) := by decide +kernel
theorem dX5_cut_58 : decode cX5_cut 58 = .ok (.lconst 1, 1) := by decide +kernel
theorem dX5_cut_59 : decode cX5_cut 59 = .ok (.goto 4, 3) := by decide +kernel
theorem dX5_cut_62 : decode cX5_cut 62 = .ok (.lconst 0, 1) := by decide +kernel
theorem dX5_cut_63 : decode cX5_cut 63 = .ok (.lreturn, 1) := by decide +kernel
theorem dX6_init_0 : decode cX6_init 0 = .ok (.aload_n 0, 1) := by decide +kernel
theorem dX6_init_1 : decode cX6_init 1 = .ok (.invokespecial 3, 3) := by decide +kernel
theorem dX6_init_4 : decode cX6_init 4 = .ok (.aload_n 0, 1) := by decide +kernel
theorem dX6_init_5 : decode cX6_init 5 = .ok (.iconst 3, 1) := by decide +kernel
theorem dX6_init_6 : decode cX6_init 6 = .ok (.putfield 9, 3) := by decide +kernel
theorem dX6_init_9 : decode cX6_init 9 = .ok (.aload_n 0, 1) := by decide +kernel
theorem dX6_init_10 : decode cX6_init 10 = .ok (.iconst 1, 1) := by decide +kernel
theorem dX6_init_11 : decode cX6_init 11 = .ok (.putfield 15, 3) := by decide +kernel
theorem dX6_init_14 : decode cX6_init 14 = .ok (.aload_n 0, 1) := by decide +kernel
theorem dX6_init_15 : decode cX6_init 15 = .ok (.iconst 0, 1) := by decide +kernel
theorem dX6_init_16 : decode cX6_init 16 = .ok (.putfield 18, 3) := by decide +kernel
theorem dX6_init_19 : decode cX6_init 19 = .ok (.aload_n 0, 1) := by decide +kernel
theorem dX6_init_20 : decode cX6_init 20 = .ok (.iconst 0, 1) := by decide +kernel
theorem dX6_init_21 : decode cX6_init 21 = .ok (.putfield 21, 3) := by decide +kernel
theorem dX6_init_24 : decode cX6_init 24 = .ok (.aload_n 0, 1) := by decide +kernel
theorem dX6_init_25 : decode cX6_init 25 = .ok (.bipush 10, 2) := by decide +kernel
theorem dX6_init_27 : decode cX6_init 27 = .ok (.newarray .boolean, 2) := by decide +kernel
theorem dX6_init_29 : decode cX6_init 29 = .ok (.putfield 24, 3) := by decide +kernel
theorem dX6_init_32 : decode cX6_init 32 = .ok (.aload_n 0, 1) := by decide +kernel
theorem dX6_init_33 : decode cX6_init 33 = .ok (.bipush 10, 2) := by decide +kernel
theorem dX6_init_35 : decode cX6_init 35 = .ok (.newarray .int, 2) := by decide +kernel
theorem dX6_init_37 : decode cX6_init 37 = .ok (.putfield 28, 3) := by decide +kernel
theorem dX6_init_40 : decode cX6_init 40 = .ok (.aload_n 0, 1) := by decide +kernel
theorem dX6_init_41 : decode cX6_init 41 = .ok (.bipush 10, 2) := by decide +kernel
theorem dX6_init_43 : decode cX6_init 43 = .ok (.newarray .int, 2) := by decide +kernel
theorem dX6_init_45 : decode cX6_init 45 = .ok (.putfield 32, 3) := by decide +kernel
theorem dX6_init_48 : decode cX6_init 48 = .ok (.aload_n 0, 1) := by decide +kernel
theorem dX6_init_49 : decode cX6_init 49 = .ok (.iconst 0, 1) := by decide +kernel
theorem dX6_init_50 : decode cX6_init 50 = .ok (.putfield 35, 3) := by decide +kernel
theorem dX6_init_53 : decode cX6_init 53 = .ok (.aload_n 0, 1) := by decide +kernel
theorem dX6_init_54 : decode cX6_init 54 = .ok (.bipush 100, 2) := by decide +kernel
theorem dX6_init_56 : decode cX6_init 56 = .ok (.newarray .int, 2) := by decide +kernel
theorem dX6_init_58 : decode cX6_init 58 = .ok (.putfield 38, 3) := by decide +kernel
theorem dX6_init_61 : decode cX6_init 61 = .ok (.return_, 1) := by decide +kernel
theorem dX6_clear_0 : decode cX6_clear 0 = .ok (.aload_n 0, 1) := by decide +kernel
theorem dX6_clear_1 : decode cX6_clear 1 = .ok (.iconst 3, 1) := by decide +kernel
theorem dX6_clear_2 : decode cX6_clear 2 = .ok (.putfield 9, 3) := by decide +kernel
theorem dX6_clear_5 : decode cX6_clear 5 = .ok (.aload_n 0, 1) := by decide +kernel
theorem dX6_clear_6 : decode cX6_clear 6 = .ok (.iconst 1, 1) := by decide +kernel
theorem dX6_clear_7 : decode cX6_clear 7 = .ok (.putfield 15, 3) := by decide +kernel
theorem dX6_clear_10 : decode cX6_clear 10 = .ok (.aload_n 0, 1) := by decide +kernel
theorem dX6_clear_11 : decode cX6_clear 11 = .ok (.iconst 0, 1) := by decide +kernel
theorem dX6_clear_12 : decode cX6_clear 12 = .ok (.putfield 18, 3) := by decide +kernel
theorem dX6_clear_15 : decode cX6_clear 15 = .ok (.aload_n 0, 1) := by decide +kernel
theorem dX6_clear_16 : decode cX6_clear 16 = .ok (.iconst 0, 1) := by decide +kernel
theorem dX6_clear_17 : decode cX6_clear 17 = .ok (.putfield 21, 3) := by decide +kernel
theorem dX6_clear_20 : decode cX6_clear 20 = .ok (.aload_n 0, 1) := by decide +kernel
theorem dX6_clear_21 : decode cX6_clear 21 = .ok (.iconst 0, 1) := by decide +kernel
theorem dX6_clear_22 : decode cX6_clear 22 = .ok (.putfield 35, 3) := by decide +kernel
theorem dX6_clear_25 : decode cX6_clear 25 = .ok (.return_, 1) := by decide +kernel
theorem dX6_setShares_0 : decode cX6_setShares 0 = .ok (.aload_n 0, 1) := by decide +kernel
theorem dX6_setShares_1 : decode cX6_setShares 1 = .ok (.iload_n 1, 1) := by decide +kernel
theorem dX6_setShares_2 : decode cX6_setShares 2 = .ok (.iconst 2, 1) := by decide +kernel
theorem dX6_setShares_3 : decode cX6_setShares 3 = .ok (.invokestatic 41, 3) := by decide +kernel
theorem dX6_setShares_6 : decode cX6_setShares 6 = .ok (.putfield 9, 3) := by decide +kernel
theorem dX6_setShares_9 : decode cX6_setShares 9 = .ok (.return_, 1) := by decide +kernel
theorem dX6_addStep_0 : decode cX6_addStep 0 = .ok (.aload_n 0, 1) := by decide +kernel
theorem dX6_addStep_1 : decode cX6_addStep 1 = .ok (.getfield 35, 3) := by decide +kernel
theorem dX6_addStep_4 : decode cX6_addStep 4 = .ok (.ifCond .lt 35, 3) := by decide +kernel
theorem dX6_addStep_7 : decode cX6_addStep 7 = .ok (.aload_n 0, 1) := by decide +kernel
theorem dX6_addStep_8 : decode cX6_addStep 8 = .ok (.getfield 35, 3) := by decide +kernel
theorem dX6_addStep_11 : decode cX6_addStep 11 = .ok (.aload_n 0, 1) := by decide +kernel
theorem dX6_addStep_12 : decode cX6_addStep 12 = .ok (.getfield 38, 3) := by decide +kernel
theorem dX6_addStep_15 : decode cX6_addStep 15 = .ok (.arraylength, 1) := by decide +kernel
theorem dX6_addStep_16 : decode cX6_addStep 16 = .ok (.if_icmp .ge 23, 3) := by decide +kernel
theorem dX6_addStep_19 : decode cX6_addStep 19 = .ok (.aload_n 0, 1) := by decide +kernel
theorem dX6_addStep_20 : decode cX6_addStep 20 = .ok (.getfield 38, 3) := by decide +kernel
theorem dX6_addStep_23 : decode cX6_addStep 23 = .ok (.aload_n 0, 1) := by decide +kernel
theorem dX6_addStep_24 : decode cX6_addStep 24 = .ok (.getfield 35, 3) := by decide +kernel
theorem dX6_addStep_27 : decode cX6_addStep 27 = .ok (.iload_n 1, 1) := by decide +kernel
theorem dX6_addStep_28 : decode cX6_addStep 28 = .ok (.iastore, 1) := by decide +kernel
theorem dX6_addStep_29 : decode cX6_addStep 29 = .ok (.aload_n 0, 1) := by decide +kernel
theorem dX6_addStep_30 : decode cX6_addStep 30 = .ok (.dup, 1) := by decide +kernel
theorem dX6_addStep_31 : decode cX6_addStep 31 = .ok (.getfield 35, 3) := by decide +kernel
theorem dX6_addStep_34 : decode cX6_addStep 34 = .ok (.iconst 1, 1) := by decide +kernel
theorem dX6_addStep_35 : decode cX6_addStep 35 = .ok (.iadd, 1) := by decide +kernel
theorem dX6_addStep_36 : decode cX6_addStep 36 = .ok (.putfield 35, 3) := by decide +kernel
theorem dX6_addStep_39 : decode cX6_addStep 39 = .ok (.return_, 1) := by decide +kernel
theorem dX6_addRule_0 : decode cX6_addRule 0 = .ok (.aload_n 0, 1) := by decide +kernel
theorem dX6_addRule_1 : decode cX6_addRule 1 = .ok (.getfield 21, 3) := by decide +kernel
theorem dX6_addRule_4 : decode cX6_addRule 4 = .ok (.ifCond .lt 12, 3) := by decide +kernel
theorem dX6_addRule_7 : decode cX6_addRule 7 = .ok (.aload_n 0, 1) := by decide +kernel
theorem dX6_addRule_8 : decode cX6_addRule 8 = .ok (.getfield 21, 3) := by decide +kernel
theorem dX6_addRule_11 : decode cX6_addRule 11 = .ok (.bipush 10, 2) := by decide +kernel
theorem dX6_addRule_13 : decode cX6_addRule 13 = .ok (.if_icmp .lt 4, 3) := by decide +kernel
theorem dX6_addRule_16 : decode cX6_addRule 16 = .ok (.return_, 1) := by decide +kernel
theorem dX6_addRule_17 : decode cX6_addRule 17 = .ok (.aload_n 0, 1) := by decide +kernel
theorem dX6_addRule_18 : decode cX6_addRule 18 = .ok (.getfield 24, 3) := by decide +kernel
theorem dX6_addRule_21 : decode cX6_addRule 21 = .ok (.aload_n 0, 1) := by decide +kernel
theorem dX6_addRule_22 : decode cX6_addRule 22 = .ok (.getfield 21, 3) := by decide +kernel
theorem dX6_addRule_25 : decode cX6_addRule 25 = .ok (.iload_n 1, 1) := by decide +kernel
theorem dX6_addRule_26 : decode cX6_addRule 26 = .ok (.bastore, 1) := by decide +kernel
theorem dX6_addRule_27 : decode cX6_addRule 27 = .ok (.aload_n 0, 1) := by decide +kernel
theorem dX6_addRule_28 : decode cX6_addRule 28 = .ok (.getfield 28, 3) := by decide +kernel
theorem dX6_addRule_31 : decode cX6_addRule 31 = .ok (.aload_n 0, 1) := by decide +kernel
theorem dX6_addRule_32 : decode cX6_addRule 32 = .ok (.getfield 21, 3) := by decide +kernel
theorem dX6_addRule_35 : decode cX6_addRule 35 = .ok (.iload_n 2, 1) := by decide +kernel
theorem dX6_addRule_36 : decode cX6_addRule 36 = .ok (.iastore, 1) := by decide +kernel
theorem dX6_addRule_37 : decode cX6_addRule 37 = .ok (.aload_n 0, 1) := by decide +kernel
theorem dX6_addRule_38 : decode cX6_addRule 38 = .ok (.getfield 32, 3) := by decide +kernel
theorem dX6_addRule_41 : decode cX6_addRule 41 = .ok (.aload_n 0, 1) := by decide +kernel
theorem dX6_addRule_42 : decode cX6_addRule 42 = .ok (.getfield 21, 3) := by decide +kernel
theorem dX6_addRule_45 : decode cX6_addRule 45 = .ok (.aload_n 0, 1) := by decide +kernel
theorem dX6_addRule_46 : decode cX6_addRule 46 = .ok (.getfield 35, 3) := by decide +kernel
theorem dX6_addRule_49 : decode cX6_addRule 49 = .ok (.iastore, 1) := by decide +kernel
theorem dX6_addRule_50 : decode cX6_addRule 50 = .ok (.aload_n 0, 1) := by decide +kernel
theorem dX6_addRule_51 : decode cX6_addRule 51 = .ok (.dup, 1) := by decide +kernel
theorem dX6_addRule_52 : decode cX6_addRule 52 = .ok (.getfield 21, 3) := by decide +kernel
theorem dX6_addRule_55 : decode cX6_addRule 55 = .ok (.iconst 1, 1) := by decide +kernel
theorem dX6_addRule_56 : decode cX6_addRule 56 = .ok (.iadd, 1) := by decide +kernel
theorem dX6_addRule_57 : decode cX6_addRule 57 = .ok (.putfield 21, 3) := by decide +kernel
theorem dX6_addRule_60 : decode cX6_addRule 60 = .ok (.iload_n 1, 1) := by decide +kernel
theorem dX6_addRule_61 : decode cX6_addRule 61 = .ok (.ifCond .eq 13, 3) := by decide +kernel
theorem dX6_addRule_64 : decode cX6_addRule 64 = .ok (.aload_n 0, 1) := by decide +kernel
theorem dX6_addRule_65 : decode cX6_addRule 65 = .ok (.dup, 1) := by decide +kernel
theorem dX6_addRule_66 : decode cX6_addRule 66 = .ok (.getfield 18, 3) := by decide +kernel
theorem dX6_addRule_69 : decode cX6_addRule 69 = .ok (.iconst 1, 1) := by decide +kernel
theorem dX6_addRule_70 : decode cX6_addRule 70 = .ok (.iadd, 1) := by decide +kernel
theorem dX6_addRule_71 : decode cX6_addRule 71 = .ok (.putfield 18, 3) := by decide +kernel
theorem dX6_addRule_74 : decode cX6_addRule 74 = .ok (.return_, 1) := by decide +kernel
theorem dX6_over_0 : decode cX6_over 0 = .ok (.aload_n 0, 1) := by decide +kernel
theorem dX6_over_1 : decode cX6_over 1 = .ok (.getfield 18, 3) := by decide +kernel
theorem dX6_over_4 : decode cX6_over 4 = .ok (.ifCond .ne 7, 3) := by decide +kernel
theorem dX6_over_7 : decode cX6_over 7 = .ok (.iconst 1, 1) := by decide +kernel
theorem dX6_over_8 : decode cX6_over 8 = .ok (.goto 9, 3) := by decide +kernel
theorem dX6_over_11 : decode cX6_over 11 = .ok (.aload_n 0, 1) := by decide +kernel
theorem dX6_over_12 : decode cX6_over 12 = .ok (.iconst 1, 1) := by decide +kernel
theorem dX6_over_13 : decode cX6_over 13 = .ok (.aload_n 1, 1) := by decide +kernel
theorem dX6_over_14 : decode cX6_over 14 = .ok (.invokevirtual 47, 3) := by decide +kernel
theorem dX6_over_17 : decode cX6_over 17 = .ok (.ireturn, 1) := by decide +kernel
theorem dX6_back_0 : decode cX6_back 0 = .ok (.aload_n 0, 1) := by decide +kernel
theorem dX6_back_1 : decode cX6_back 1 = .ok (.iconst 0, 1) := by decide +kernel
theorem dX6_back_2 : decode cX6_back 2 = .ok (.aload_n 1, 1) := by decide +kernel
theorem dX6_back_3 : decode cX6_back 3 = .ok (.invokevirtual 47, 3) := by decide +kernel
theorem dX6_back_6 : decode cX6_back 6 = .ok (.ireturn, 1) := by decide +kernel
theorem dX6_sum_0 : decode cX6_sum 0 = .ok (.iconst 0, 1) := by decide +kernel
theorem dX6_sum_1 : decode cX6_sum 1 = .ok (.istore_n 3, 1) := by decide +kernel
theorem dX6_sum_2 : decode cX6_sum 2 = .ok (.iconst 0, 1) := by decide +kernel
theorem dX6_sum_3 : decode cX6_sum 3 = .ok (.istore 4, 2) := by decide +kernel
theorem dX6_sum_5 : decode cX6_sum 5 = .ok (.iconst 0, 1) := by decide +kernel
theorem dX6_sum_6 : decode cX6_sum 6 = .ok (.istore 5, 2) := by decide +kernel
theorem dX6_sum_8 : decode cX6_sum 8 = .ok (.iload 5, 2) := by decide +kernel
theorem dX6_sum_10 : decode cX6_sum 10 = .ok (.aload_n 0, 1) := by decide +kernel
theorem dX6_sum_11 : decode cX6_sum 11 = .ok (.getfield 21, 3) := by decide +kernel
theorem dX6_sum_14 : decode cX6_sum 14 = .ok (.if_icmp .ge 62, 3) := by decide +kernel
theorem dX6_sum_17 : decode cX6_sum 17 = .ok (.iload 5, 2) := by decide +kernel
theorem dX6_sum_19 : decode cX6_sum 19 = .ok (.bipush 10, 2) := by decide +kernel
theorem dX6_sum_21 : decode cX6_sum 21 = .ok (.if_icmp .ge 55, 3) := by decide +kernel
theorem dX6_sum_24 : decode cX6_sum 24 = .ok (.aload_n 0, 1) := by decide +kernel
theorem dX6_sum_25 : decode cX6_sum 25 = .ok (.getfield 32, 3) := by decide +kernel
theorem dX6_sum_28 : decode cX6_sum 28 = .ok (.iload 5, 2) := by decide +kernel
theorem dX6_sum_30 : decode cX6_sum 30 = .ok (.iaload, 1) := by decide +kernel
theorem dX6_sum_31 : decode cX6_sum 31 = .ok (.istore 6, 2) := by decide +kernel
theorem dX6_sum_33 : decode cX6_sum 33 = .ok (.aload_n 0, 1) := by decide +kernel
theorem dX6_sum_34 : decode cX6_sum 34 = .ok (.getfield 24, 3) := by decide +kernel
theorem dX6_sum_37 : decode cX6_sum 37 = .ok (.iload 5, 2) := by decide +kernel
theorem dX6_sum_39 : decode cX6_sum 39 = .ok (.baload, 1) := by decide +kernel
theorem dX6_sum_40 : decode cX6_sum 40 = .ok (.iload_n 1, 1) := by decide +kernel
theorem dX6_sum_41 : decode cX6_sum 41 = .ok (.if_icmp .ne 25, 3) := by decide +kernel
theorem dX6_sum_44 : decode cX6_sum 44 = .ok (.aload_n 0, 1) := by decide +kernel
theorem dX6_sum_45 : decode cX6_sum 45 = .ok (.iload 4, 2) := by decide +kernel
theorem dX6_sum_47 : decode cX6_sum 47 = .ok (.iload 6, 2) := by decide +kernel
theorem dX6_sum_49 : decode cX6_sum 49 = .ok (.aload_n 2, 1) := by decide +kernel
theorem dX6_sum_50 : decode cX6_sum 50 = .ok (.invokevirtual 51, 3) := by decide +kernel
theorem dX6_sum_53 : decode cX6_sum 53 = .ok (.ifCond .eq 13, 3) := by decide +kernel
theorem dX6_sum_56 : decode cX6_sum 56 = .ok (.iload_n 3, 1) := by decide +kernel
theorem dX6_sum_57 : decode cX6_sum 57 = .ok (.aload_n 0, 1) := by decide +kernel
theorem dX6_sum_58 : decode cX6_sum 58 = .ok (.getfield 28, 3) := by decide +kernel
theorem dX6_sum_61 : decode cX6_sum 61 = .ok (.iload 5, 2) := by decide +kernel
theorem dX6_sum_63 : decode cX6_sum 63 = .ok (.iaload, 1) := by decide +kernel
theorem dX6_sum_64 : decode cX6_sum 64 = .ok (.iadd, 1) := by decide +kernel
theorem dX6_sum_65 : decode cX6_sum 65 = .ok (.istore_n 3, 1) := by decide +kernel
theorem dX6_sum_66 : decode cX6_sum 66 = .ok (.iload 6, 2) := by decide +kernel
theorem dX6_sum_68 : decode cX6_sum 68 = .ok (.istore 4, 2) := by decide +kernel
theorem dX6_sum_70 : decode cX6_sum 70 = .ok (.iinc 5 1, 3) := by decide +kernel
theorem dX6_sum_73 : decode cX6_sum 73 = .ok (.goto (-65), 3) := by decide +kernel
theorem dX6_sum_76 : decode cX6_sum 76 = .ok (.iload_n 3, 1) := by decide +kernel
theorem dX6_sum_77 : decode cX6_sum 77 = .ok (.ireturn, 1) := by decide +kernel
theorem dX6_holds_0 : decode cX6_holds 0 = .ok (.lconst 0, 1) := by decide +kernel
theorem dX6_holds_1 : decode cX6_holds 1 = .ok (.lstore 4, 2) := by decide +kernel
theorem dX6_holds_3 : decode cX6_holds 3 = .ok (.iload_n 1, 1) := by decide +kernel
theorem dX6_holds_4 : decode cX6_holds 4 = .ok (.iconst 0, 1) := by decide +kernel
theorem dX6_holds_5 : decode cX6_holds 5 = .ok (.invokestatic 41, 3) := by decide +kernel
theorem dX6_holds_8 : decode cX6_holds 8 = .ok (.istore 6, 2) := by decide +kernel
theorem dX6_holds_10 : decode cX6_holds 10 = .ok (.iload 6, 2) := by decide +kernel
theorem dX6_holds_12 : decode cX6_holds 12 = .ok (.iload_n 2, 1) := by decide +kernel
theorem dX6_holds_13 : decode cX6_holds 13 = .ok (.if_icmp .ge 111, 3) := by decide +kernel
theorem dX6_holds_16 : decode cX6_holds 16 = .ok (.iload 6, 2) := by decide +kernel
theorem dX6_holds_18 : decode cX6_holds 18 = .ok (.aload_n 0, 1) := by decide +kernel
theorem dX6_holds_19 : decode cX6_holds 19 = .ok (.getfield 38, 3) := by decide +kernel
theorem dX6_holds_22 : decode cX6_holds 22 = .ok (.arraylength, 1) := by decide +kernel
theorem dX6_holds_23 : decode cX6_holds 23 = .ok (.if_icmp .ge 101, 3) := by decide +kernel
theorem dX6_holds_26 : decode cX6_holds 26 = .ok (.aload_n 0, 1) := by decide +kernel
theorem dX6_holds_27 : decode cX6_holds 27 = .ok (.getfield 38, 3) := by decide +kernel
theorem dX6_holds_30 : decode cX6_holds 30 = .ok (.iload 6, 2) := by decide +kernel
theorem dX6_holds_32 : decode cX6_holds 32 = .ok (.iaload, 1) := by decide +kernel
theorem dX6_holds_33 : decode cX6_holds 33 = .ok (.istore 7, 2) := by decide +kernel
theorem dX6_holds_35 : decode cX6_holds 35 = .ok (.lload 4, 2) := by decide +kernel
theorem dX6_holds_37 : decode cX6_holds 37 = .ok (.lconst 1, 1) := by decide +kernel
theorem dX6_holds_38 : decode cX6_holds 38 = .ok (.land, 1) := by decide +kernel
theorem dX6_holds_39 : decode cX6_holds 39 = .ok (.lstore 8, 2) := by decide +kernel
theorem dX6_holds_41 : decode cX6_holds 41 = .ok (.iload 7, 2) := by decide +kernel
theorem dX6_holds_43 : decode cX6_holds 43 = .ok (.ifCond .lt 28, 3) := by decide +kernel
theorem dX6_holds_46 : decode cX6_holds 46 = .ok (.lload 4, 2) := by decide +kernel
theorem dX6_holds_48 : decode cX6_holds 48 = .ok (.iconst 1, 1) := by decide +kernel
theorem dX6_holds_49 : decode cX6_holds 49 = .ok (.lshl, 1) := by decide +kernel
theorem dX6_holds_50 : decode cX6_holds 50 = .ok (.iload 7, 2) := by decide +kernel
theorem dX6_holds_52 : decode cX6_holds 52 = .ok (.aload_n 3, 1) := by decide +kernel
theorem dX6_holds_53 : decode cX6_holds 53 = .ok (.invokestatic 55, 3) := by decide +kernel
theorem dX6_holds_56 : decode cX6_holds 56 = .ok (.ifCond .eq 7, 3) := by decide +kernel
theorem dX6_holds_59 : decode cX6_holds 59 = .ok (.iconst 1, 1) := by decide +kernel
theorem dX6_holds_60 : decode cX6_holds 60 = .ok (.goto 4, 3) := by decide +kernel
theorem dX6_holds_63 : decode cX6_holds 63 = .ok (.iconst 0, 1) := by decide +kernel
theorem dX6_holds_64 : decode cX6_holds 64 = .ok (.i2l, 1) := by decide +kernel
theorem dX6_holds_65 : decode cX6_holds 65 = .ok (.lor, 1) := by decide +kernel
theorem dX6_holds_66 : decode cX6_holds 66 = .ok (.lstore 4, 2) := by decide +kernel
theorem dX6_holds_68 : decode cX6_holds 68 = .ok (.goto 50, 3) := by decide +kernel
theorem dX6_holds_71 : decode cX6_holds 71 = .ok (.iload 7, 2) := by decide +kernel
theorem dX6_holds_73 : decode cX6_holds 73 = .ok (.iconst (-1), 1) := by decide +kernel
theorem dX6_holds_74 : decode cX6_holds 74 = .ok (.if_icmp .ne 12, 3) := by decide +kernel
theorem dX6_holds_77 : decode cX6_holds 77 = .ok (.lload 4, 2) := by decide +kernel
theorem dX6_holds_79 : decode cX6_holds 79 = .ok (.lconst 1, 1) := by decide +kernel
theorem dX6_holds_80 : decode cX6_holds 80 = .ok (.lxor, 1) := by decide +kernel
theorem dX6_holds_81 : decode cX6_holds 81 = .ok (.lstore 4, 2) := by decide +kernel
theorem dX6_holds_83 : decode cX6_holds 83 = .ok (.goto 35, 3) := by decide +kernel
theorem dX6_holds_86 : decode cX6_holds 86 = .ok (.iload 7, 2) := by decide +kernel
theorem dX6_holds_88 : decode cX6_holds 88 = .ok (.bipush (-2), 2) := by decide +kernel
theorem dX6_holds_90 : decode cX6_holds 90 = .ok (.if_icmp .ne 19, 3) := by decide +kernel
theorem dX6_holds_93 : decode cX6_holds 93 = .ok (.lload 4, 2) := by decide +kernel
theorem dX6_holds_95 : decode cX6_holds 95 = .ok (.iconst 1, 1) := by decide +kernel
theorem dX6_holds_96 : decode cX6_holds 96 = .ok (.lushr, 1) := by decide +kernel
theorem dX6_holds_97 : decode cX6_holds 97 = .ok (.lload 8, 2) := by decide +kernel
theorem dX6_holds_99 : decode cX6_holds 99 = .ok (.ldc2_w 59, 3) := by decide +kernel
theorem dX6_holds_102 : decode cX6_holds 102 = .ok (.lor, 1) := by decide +kernel
theorem dX6_holds_103 : decode cX6_holds 103 = .ok (.land, 1) := by decide +kernel
theorem dX6_holds_104 : decode cX6_holds 104 = .ok (.lstore 4, 2) := by decide +kernel
theorem dX6_holds_106 : decode cX6_holds 106 = .ok (.goto 12, 3) := by decide +kernel
theorem dX6_holds_109 : decode cX6_holds 109 = .ok (.lload 4, 2) := by decide +kernel
theorem dX6_holds_111 : decode cX6_holds 111 = .ok (.iconst 1, 1) := by decide +kernel
theorem dX6_holds_112 : decode cX6_holds 112 = .ok (.lushr, 1) := by decide +kernel
theorem dX6_holds_113 : decode cX6_holds 113 = .ok (.lload 8, 2) := by decide +kernel
theorem dX6_holds_115 : decode cX6_holds 115 = .ok (.lor, 1) := by decide +kernel
theorem dX6_holds_116 : decode cX6_holds 116 = .ok (.lstore 4, 2) := by decide +kernel
theorem dX6_holds_118 : decode cX6_holds 118 = .ok (.iinc 6 1, 3) := by decide +kernel
theorem dX6_holds_121 : decode cX6_holds 121 = .ok (.goto (-111), 3) := by decide +kernel
theorem dX6_holds_124 : decode cX6_holds 124 = .ok (.lload 4, 2) := by decide +kernel
theorem dX6_holds_126 : decode cX6_holds 126 = .ok (.lconst 1, 1) := by decide +kernel
theorem dX6_holds_127 : decode cX6_holds 127 = .ok (.land, 1) := by decide +kernel
theorem dX6_holds_128 : decode cX6_holds 128 = .ok (.lconst 0, 1) := by decide +kernel
theorem dX6_holds_129 : decode cX6_holds 129 = .ok (.lcmp, 1) := by decide +kernel
theorem dX6_holds_130 : decode cX6_holds 130 = .ok (.ifCond .eq 7, 3) := by decide +kernel
theorem dX6_holds_133 : decode cX6_holds 133 = .ok (.iconst 1, 1) := by decide +kernel
theorem dX6_holds_134 : decode cX6_holds 134 = .ok (.goto 4, 3) := by decide +kernel
theorem dX6_holds_137 : decode cX6_holds 137 = .ok (.iconst 0, 1) := by decide +kernel
theorem dX6_holds_138 : decode cX6_holds 138 = .ok (.ireturn, 1) := by decide +kernel
theorem dX6_isSo_0 : decode cX6_isSo 0 = .ok (.iload_n 0, 1) := by decide +kernel
theorem dX6_isSo_1 : decode cX6_isSo 1 = .ok (.bipush 100, 2) := by decide +kernel
theorem dX6_isSo_3 : decode cX6_isSo 3 = .ok (.idiv, 1) := by decide +kernel
theorem dX6_isSo_4 : decode cX6_isSo 4 = .ok (.iconst 3, 1) := by decide +kernel
theorem dX6_isSo_5 : decode cX6_isSo 5 = .ok (.idiv, 1) := by decide +kernel
theorem dX6_isSo_6 : decode cX6_isSo 6 = .ok (.istore_n 2, 1) := by decide +kernel
theorem dX6_isSo_7 : decode cX6_isSo 7 = .ok (.iload_n 2, 1) := by decide +kernel
theorem dX6_isSo_8 : decode cX6_isSo 8 = .ok (.ifCond .lt 9, 3) := by decide +kernel
theorem dX6_isSo_11 : decode cX6_isSo 11 = .ok (.iload_n 2, 1) := by decide +kernel
theorem dX6_isSo_12 : decode cX6_isSo 12 = .ok (.aload_n 1, 1) := by decide +kernel
theorem dX6_isSo_13 : decode cX6_isSo 13 = .ok (.arraylength, 1) := by decide +kernel
theorem dX6_isSo_14 : decode cX6_isSo 14 = .ok (.if_icmp .lt 5, 3) := by decide +kernel
theorem dX6_isSo_17 : decode cX6_isSo 17 = .ok (.iconst 0, 1) := by decide +kernel
theorem dX6_isSo_18 : decode cX6_isSo 18 = .ok (.ireturn, 1) := by decide +kernel
theorem dX6_isSo_19 : decode cX6_isSo 19 = .ok (.aload_n 1, 1) := by decide +kernel
theorem dX6_isSo_20 : decode cX6_isSo 20 = .ok (.iload_n 2, 1) := by decide +kernel
theorem dX6_isSo_21 : decode cX6_isSo 21 = .ok (.iaload, 1) := by decide +kernel
theorem dX6_isSo_22 : decode cX6_isSo 22 = .ok (.istore_n 3, 1) := by decide +kernel
theorem dX6_isSo_23 : decode cX6_isSo 23 = .ok (.iload_n 0, 1) := by decide +kernel
theorem dX6_isSo_24 : decode cX6_isSo 24 = .ok (.bipush 100, 2) := by decide +kernel
theorem dX6_isSo_26 : decode cX6_isSo 26 = .ok (.irem, 1) := by decide +kernel
theorem dX6_isSo_27 : decode cX6_isSo 27 = .ok (.istore 4, 2) := by decide +kernel
theorem dX6_isSo_29 : decode cX6_isSo 29 = .ok (.iload_n 0, 1) := by decide +kernel
theorem dX6_isSo_30 : decode cX6_isSo 30 = .ok (.bipush 100, 2) := by decide +kernel
theorem dX6_isSo_32 : decode cX6_isSo 32 = .ok (.idiv, 1) := by decide +kernel
theorem dX6_isSo_33 : decode cX6_isSo 33 = .ok (.iconst 3, 1) := by decide +kernel
theorem dX6_isSo_34 : decode cX6_isSo 34 = .ok (.irem, 1) := by decide +kernel
theorem dX6_isSo_35 : decode cX6_isSo 35 = .ok (.lookupswitch 49 #[(0, 25), (1, 37)], 25) := by decide +kernel
theorem dX6_isSo_60 : decode cX6_isSo 60 = .ok (.iload_n 3, 1) := by decide +kernel
theorem dX6_isSo_61 : decode cX6_isSo 61 = .ok (.iload 4, 2) := by decide +kernel
theorem dX6_isSo_63 : decode cX6_isSo 63 = .ok (.if_icmp .ge 7, 3) := by decide +kernel
theorem dX6_isSo_66 : decode cX6_isSo 66 = .ok (.iconst 1, 1) := by decide +kernel
theorem dX6_isSo_67 : decode cX6_isSo 67 = .ok (.goto 4, 3) := by decide +kernel
theorem dX6_isSo_70 : decode cX6_isSo 70 = .ok (.iconst 0, 1) := by decide +kernel
theorem dX6_isSo_71 : decode cX6_isSo 71 = .ok (.ireturn, 1) := by decide +kernel
theorem dX6_isSo_72 : decode cX6_isSo 72 = .ok (.iload_n 3, 1) := by decide +kernel
theorem dX6_isSo_73 : decode cX6_isSo 73 = .ok (.iload 4, 2) := by decide +kernel
theorem dX6_isSo_75 : decode cX6_isSo 75 = .ok (.if_icmp .ne 7, 3) := by decide +kernel
theorem dX6_isSo_78 : decode cX6_isSo 78 = .ok (.iconst 1, 1) := by decide +kernel
theorem dX6_isSo_79 : decode cX6_isSo 79 = .ok (.goto 4, 3) := by decide +kernel
theorem dX6_isSo_82 : decode cX6_isSo 82 = .ok (.iconst 0, 1) := by decide +kernel
theorem dX6_isSo_83 : decode cX6_isSo 83 = .ok (.ireturn, 1) := by decide +kernel
theorem dX6_isSo_84 : decode cX6_isSo 84 = .ok (.iload_n 3, 1) := by decide +kernel
theorem dX6_isSo_85 : decode cX6_isSo 85 = .ok (.iload 4, 2) := by decide +kernel
theorem dX6_isSo_87 : decode cX6_isSo 87 = .ok (.if_icmp .le 7, 3) := by decide +kernel
theorem dX6_isSo_90 : decode cX6_isSo 90 = .ok (.iconst 1, 1) := by decide +kernel
theorem dX6_isSo_91 : decode cX6_isSo 91 = .ok (.goto 4, 3) := by decide +kernel
theorem dX6_isSo_94 : decode cX6_isSo 94 = .ok (.iconst 0, 1) := by decide +kernel
theorem dX6_isSo_95 : decode cX6_isSo 95 = .ok (.ireturn, 1) := by decide +kernel
theorem dX7_init_0 : decode cX7_init 0 = .ok (.aload_n 0, 1) := by decide +kernel
theorem dX7_init_1 : decode cX7_init 1 = .ok (.invokespecial 3, 3) := by decide +kernel
theorem dX7_init_4 : decode cX7_init 4 = .ok (.aload_n 0, 1) := by decide +kernel
theorem dX7_init_5 : decode cX7_init 5 = .ok (.bipush 100, 2) := by decide +kernel
theorem dX7_init_7 : decode cX7_init 7 = .ok (.newarray .byte, 2) := by decide +kernel
theorem dX7_init_9 : decode cX7_init 9 = .ok (.putfield 9, 3) := by decide +kernel
theorem dX7_init_12 : decode cX7_init 12 = .ok (.aload_n 0, 1) := by decide +kernel
theorem dX7_init_13 : decode cX7_init 13 = .ok (.iconst 0, 1) := by decide +kernel
theorem dX7_init_14 : decode cX7_init 14 = .ok (.putfield 15, 3) := by decide +kernel
theorem dX7_init_17 : decode cX7_init 17 = .ok (.aload_n 0, 1) := by decide +kernel
theorem dX7_init_18 : decode cX7_init 18 = .ok (.iconst 0, 1) := by decide +kernel
theorem dX7_init_19 : decode cX7_init 19 = .ok (.putfield 19, 3) := by decide +kernel
theorem dX7_init_22 : decode cX7_init 22 = .ok (.aload_n 0, 1) := by decide +kernel
theorem dX7_init_23 : decode cX7_init 23 = .ok (.iconst (-1), 1) := by decide +kernel
theorem dX7_init_24 : decode cX7_init 24 = .ok (.putfield 22, 3) := by decide +kernel
theorem dX7_init_27 : decode cX7_init 27 = .ok (.return_, 1) := by decide +kernel
theorem dX7_size_0 : decode cX7_size 0 = .ok (.aload_n 0, 1) := by decide +kernel
theorem dX7_size_1 : decode cX7_size 1 = .ok (.getfield 15, 3) := by decide +kernel
theorem dX7_size_4 : decode cX7_size 4 = .ok (.ireturn, 1) := by decide +kernel
theorem dX7_clear_0 : decode cX7_clear 0 = .ok (.aload_n 0, 1) := by decide +kernel
theorem dX7_clear_1 : decode cX7_clear 1 = .ok (.iconst 0, 1) := by decide +kernel
theorem dX7_clear_2 : decode cX7_clear 2 = .ok (.putfield 15, 3) := by decide +kernel
theorem dX7_clear_5 : decode cX7_clear 5 = .ok (.return_, 1) := by decide +kernel
theorem dX7_add_0 : decode cX7_add 0 = .ok (.aload_n 0, 1) := by decide +kernel
theorem dX7_add_1 : decode cX7_add 1 = .ok (.getfield 15, 3) := by decide +kernel
theorem dX7_add_4 : decode cX7_add 4 = .ok (.ifCond .lt 12, 3) := by decide +kernel
theorem dX7_add_7 : decode cX7_add 7 = .ok (.aload_n 0, 1) := by decide +kernel
theorem dX7_add_8 : decode cX7_add 8 = .ok (.getfield 15, 3) := by decide +kernel
theorem dX7_add_11 : decode cX7_add 11 = .ok (.bipush 100, 2) := by decide +kernel
theorem dX7_add_13 : decode cX7_add 13 = .ok (.if_icmp .lt 5, 3) := by decide +kernel
theorem dX7_add_16 : decode cX7_add 16 = .ok (.iconst 0, 1) := by decide +kernel
theorem dX7_add_17 : decode cX7_add 17 = .ok (.ireturn, 1) := by decide +kernel
theorem dX7_add_18 : decode cX7_add 18 = .ok (.aload_n 0, 1) := by decide +kernel
theorem dX7_add_19 : decode cX7_add 19 = .ok (.getfield 9, 3) := by decide +kernel
theorem dX7_add_22 : decode cX7_add 22 = .ok (.aload_n 0, 1) := by decide +kernel
theorem dX7_add_23 : decode cX7_add 23 = .ok (.getfield 15, 3) := by decide +kernel
theorem dX7_add_26 : decode cX7_add 26 = .ok (.iload_n 1, 1) := by decide +kernel
theorem dX7_add_27 : decode cX7_add 27 = .ok (.i2b, 1) := by decide +kernel
theorem dX7_add_28 : decode cX7_add 28 = .ok (.bastore, 1) := by decide +kernel
theorem dX7_add_29 : decode cX7_add 29 = .ok (.aload_n 0, 1) := by decide +kernel
theorem dX7_add_30 : decode cX7_add 30 = .ok (.dup, 1) := by decide +kernel
theorem dX7_add_31 : decode cX7_add 31 = .ok (.getfield 15, 3) := by decide +kernel
theorem dX7_add_34 : decode cX7_add 34 = .ok (.iconst 1, 1) := by decide +kernel
theorem dX7_add_35 : decode cX7_add 35 = .ok (.iadd, 1) := by decide +kernel
theorem dX7_add_36 : decode cX7_add 36 = .ok (.putfield 15, 3) := by decide +kernel
theorem dX7_add_39 : decode cX7_add 39 = .ok (.iconst 1, 1) := by decide +kernel
theorem dX7_add_40 : decode cX7_add 40 = .ok (.ireturn, 1) := by decide +kernel
theorem dX7_readInto_0 : decode cX7_readInto 0 = .ok (.aload_n 1, 1) := by decide +kernel
theorem dX7_readInto_1 : decode cX7_readInto 1 = .ok (.invokevirtual 25, 3) := by decide +kernel
theorem dX7_readInto_4 : decode cX7_readInto 4 = .ok (.aload_n 0, 1) := by decide +kernel
theorem dX7_readInto_5 : decode cX7_readInto 5 = .ok (.iconst 0, 1) := by decide +kernel
theorem dX7_readInto_6 : decode cX7_readInto 6 = .ok (.invokevirtual 30, 3) := by decide +kernel
theorem dX7_readInto_9 : decode cX7_readInto 9 = .ok (.aload_n 0, 1) := by decide +kernel
theorem dX7_readInto_10 : decode cX7_readInto 10 = .ok (.aload_n 1, 1) := by decide +kernel
theorem dX7_readInto_11 : decode cX7_readInto 11 = .ok (.invokevirtual 34, 3) := by decide +kernel
theorem dX7_readInto_14 : decode cX7_readInto 14 = .ok (.istore_n 2, 1) := by decide +kernel
theorem dX7_readInto_15 : decode cX7_readInto 15 = .ok (.iconst 1, 1) := by decide +kernel
theorem dX7_readInto_16 : decode cX7_readInto 16 = .ok (.istore_n 3, 1) := by decide +kernel
theorem dX7_readInto_17 : decode cX7_readInto 17 = .ok (.iload_n 3, 1) := by decide +kernel
theorem dX7_readInto_18 : decode cX7_readInto 18 = .ok (.bipush 10, 2) := by decide +kernel
theorem dX7_readInto_20 : decode cX7_readInto 20 = .ok (.if_icmp .ge 38, 3) := by decide +kernel
theorem dX7_readInto_23 : decode cX7_readInto 23 = .ok (.iload_n 2, 1) := by decide +kernel
theorem dX7_readInto_24 : decode cX7_readInto 24 = .ok (.ifCond .eq 34, 3) := by decide +kernel
theorem dX7_readInto_27 : decode cX7_readInto 27 = .ok (.aload_n 0, 1) := by decide +kernel
theorem dX7_readInto_28 : decode cX7_readInto 28 = .ok (.getfield 22, 3) := by decide +kernel
theorem dX7_readInto_31 : decode cX7_readInto 31 = .ok (.bipush 59, 2) := by decide +kernel
theorem dX7_readInto_33 : decode cX7_readInto 33 = .ok (.if_icmp .ne 25, 3) := by decide +kernel
theorem dX7_readInto_36 : decode cX7_readInto 36 = .ok (.aload_n 0, 1) := by decide +kernel
theorem dX7_readInto_37 : decode cX7_readInto 37 = .ok (.aload_n 0, 1) := by decide +kernel
theorem dX7_readInto_38 : decode cX7_readInto 38 = .ok (.getfield 19, 3) := by decide +kernel
theorem dX7_readInto_41 : decode cX7_readInto 41 = .ok (.iconst 1, 1) := by decide +kernel
theorem dX7_readInto_42 : decode cX7_readInto 42 = .ok (.iadd, 1) := by decide +kernel
theorem dX7_readInto_43 : decode cX7_readInto 43 = .ok (.invokevirtual 30, 3) := by decide +kernel
theorem dX7_readInto_46 : decode cX7_readInto 46 = .ok (.aload_n 0, 1) := by decide +kernel
theorem dX7_readInto_47 : decode cX7_readInto 47 = .ok (.aload_n 1, 1) := by decide +kernel
theorem dX7_readInto_48 : decode cX7_readInto 48 = .ok (.invokevirtual 34, 3) := by decide +kernel
theorem dX7_readInto_51 : decode cX7_readInto 51 = .ok (.istore_n 2, 1) := by decide +kernel
theorem dX7_readInto_52 : decode cX7_readInto 52 = .ok (.iinc 3 1, 3) := by decide +kernel
theorem dX7_readInto_55 : decode cX7_readInto 55 = .ok (.goto (-38), 3) := by decide +kernel
theorem dX7_readInto_58 : decode cX7_readInto 58 = .ok (.iload_n 2, 1) := by decide +kernel
theorem dX7_readInto_59 : decode cX7_readInto 59 = .ok (.ifCond .eq 15, 3) := by decide +kernel
theorem dX7_readInto_62 : decode cX7_readInto 62 = .ok (.aload_n 0, 1) := by decide +kernel
theorem dX7_readInto_63 : decode cX7_readInto 63 = .ok (.getfield 22, 3) := by decide +kernel
theorem dX7_readInto_66 : decode cX7_readInto 66 = .ok (.iconst (-1), 1) := by decide +kernel
theorem dX7_readInto_67 : decode cX7_readInto 67 = .ok (.if_icmp .ne 7, 3) := by decide +kernel
theorem dX7_readInto_70 : decode cX7_readInto 70 = .ok (.iconst (-1), 1) := by decide +kernel
theorem dX7_readInto_71 : decode cX7_readInto 71 = .ok (.goto 7, 3) := by decide +kernel
theorem dX7_readInto_74 : decode cX7_readInto 74 = .ok (.aload_n 0, 1) := by decide +kernel
theorem dX7_readInto_75 : decode cX7_readInto 75 = .ok (.getfield 19, 3) := by decide +kernel
theorem dX7_readInto_78 : decode cX7_readInto 78 = .ok (.ireturn, 1) := by decide +kernel
theorem dX7_goTo_0 : decode cX7_goTo 0 = .ok (.aload_n 0, 1) := by decide +kernel
theorem dX7_goTo_1 : decode cX7_goTo 1 = .ok (.iload_n 1, 1) := by decide +kernel
theorem dX7_goTo_2 : decode cX7_goTo 2 = .ok (.putfield 19, 3) := by decide +kernel
theorem dX7_goTo_5 : decode cX7_goTo 5 = .ok (.aload_n 0, 1) := by decide +kernel
theorem dX7_goTo_6 : decode cX7_goTo 6 = .ok (.iload_n 1, 1) := by decide +kernel
theorem dX7_goTo_7 : decode cX7_goTo 7 = .ok (.ifCond .lt 26, 3) := by decide +kernel
theorem dX7_goTo_10 : decode cX7_goTo 10 = .ok (.iload_n 1, 1) := by decide +kernel
theorem dX7_goTo_11 : decode cX7_goTo 11 = .ok (.aload_n 0, 1) := by decide +kernel
theorem dX7_goTo_12 : decode cX7_goTo 12 = .ok (.getfield 15, 3) := by decide +kernel
theorem dX7_goTo_15 : decode cX7_goTo 15 = .ok (.if_icmp .ge 18, 3) := by decide +kernel
theorem dX7_goTo_18 : decode cX7_goTo 18 = .ok (.iload_n 1, 1) := by decide +kernel
theorem dX7_goTo_19 : decode cX7_goTo 19 = .ok (.bipush 100, 2) := by decide +kernel
theorem dX7_goTo_21 : decode cX7_goTo 21 = .ok (.if_icmp .ge 12, 3) := by decide +kernel
theorem dX7_goTo_24 : decode cX7_goTo 24 = .ok (.aload_n 0, 1) := by decide +kernel
theorem dX7_goTo_25 : decode cX7_goTo 25 = .ok (.getfield 9, 3) := by decide +kernel
theorem dX7_goTo_28 : decode cX7_goTo 28 = .ok (.iload_n 1, 1) := by decide +kernel
theorem dX7_goTo_29 : decode cX7_goTo 29 = .ok (.baload, 1) := by decide +kernel
theorem dX7_goTo_30 : decode cX7_goTo 30 = .ok (.goto 4, 3) := by decide +kernel
theorem dX7_goTo_33 : decode cX7_goTo 33 = .ok (.iconst (-1), 1) := by decide +kernel
theorem dX7_goTo_34 : decode cX7_goTo 34 = .ok (.putfield 22, 3) := by decide +kernel
theorem dX7_goTo_37 : decode cX7_goTo 37 = .ok (.return_, 1) := by decide +kernel
theorem dX7_clause_0 : decode cX7_clause 0 = .ok (.aload_n 0, 1) := by decide +kernel
theorem dX7_clause_1 : decode cX7_clause 1 = .ok (.invokevirtual 38, 3) := by decide +kernel
theorem dX7_clause_4 : decode cX7_clause 4 = .ok (.istore_n 2, 1) := by decide +kernel
theorem dX7_clause_5 : decode cX7_clause 5 = .ok (.iload_n 2, 1) := by decide +kernel
theorem dX7_clause_6 : decode cX7_clause 6 = .ok (.iconst (-1), 1) := by decide +kernel
theorem dX7_clause_7 : decode cX7_clause 7 = .ok (.if_icmp .ne 5, 3) := by decide +kernel
theorem dX7_clause_10 : decode cX7_clause 10 = .ok (.iconst 0, 1) := by decide +kernel
theorem dX7_clause_11 : decode cX7_clause 11 = .ok (.ireturn, 1) := by decide +kernel
theorem dX7_clause_12 : decode cX7_clause 12 = .ok (.aload_n 0, 1) := by decide +kernel
theorem dX7_clause_13 : decode cX7_clause 13 = .ok (.invokevirtual 42, 3) := by decide +kernel
theorem dX7_clause_16 : decode cX7_clause 16 = .ok (.istore_n 3, 1) := by decide +kernel
theorem dX7_clause_17 : decode cX7_clause 17 = .ok (.iload_n 3, 1) := by decide +kernel
theorem dX7_clause_18 : decode cX7_clause 18 = .ok (.ifCond .ge 5, 3) := by decide +kernel
theorem dX7_clause_21 : decode cX7_clause 21 = .ok (.iconst 0, 1) := by decide +kernel
theorem dX7_clause_22 : decode cX7_clause 22 = .ok (.ireturn, 1) := by decide +kernel
theorem dX7_clause_23 : decode cX7_clause 23 = .ok (.iload_n 2, 1) := by decide +kernel
theorem dX7_clause_24 : decode cX7_clause 24 = .ok (.ifCond .ne 10, 3) := by decide +kernel
theorem dX7_clause_27 : decode cX7_clause 27 = .ok (.aload_n 1, 1) := by decide +kernel
theorem dX7_clause_28 : decode cX7_clause 28 = .ok (.iload_n 3, 1) := by decide +kernel
theorem dX7_clause_29 : decode cX7_clause 29 = .ok (.invokevirtual 45, 3) := by decide +kernel
theorem dX7_clause_32 : decode cX7_clause 32 = .ok (.iconst 1, 1) := by decide +kernel
theorem dX7_clause_33 : decode cX7_clause 33 = .ok (.ireturn, 1) := by decide +kernel
theorem dX7_clause_34 : decode cX7_clause 34 = .ok (.iload_n 2, 1) := by decide +kernel
theorem dX7_clause_35 : decode cX7_clause 35 = .ok (.iconst 1, 1) := by decide +kernel
theorem dX7_clause_36 : decode cX7_clause 36 = .ok (.if_icmp .ne 10, 3) := by decide +kernel
theorem dX7_clause_39 : decode cX7_clause 39 = .ok (.aload_n 1, 1) := by decide +kernel
theorem dX7_clause_40 : decode cX7_clause 40 = .ok (.iload_n 3, 1) := by decide +kernel
theorem dX7_clause_41 : decode cX7_clause 41 = .ok (.putfield 48, 3) := by decide +kernel
theorem dX7_clause_44 : decode cX7_clause 44 = .ok (.iconst 1, 1) := by decide +kernel
theorem dX7_clause_45 : decode cX7_clause 45 = .ok (.ireturn, 1) := by decide +kernel
theorem dX7_clause_46 : decode cX7_clause 46 = .ok (.aload_n 0, 1) := by decide +kernel
theorem dX7_clause_47 : decode cX7_clause 47 = .ok (.ldc 51, 2) := by decide +kernel
theorem dX7_clause_49 : decode cX7_clause 49 = .ok (.invokevirtual 53, 3) := by decide +kernel
theorem dX7_clause_52 : decode cX7_clause 52 = .ok (.ifCond .eq 12, 3) := by decide +kernel
theorem dX7_clause_55 : decode cX7_clause 55 = .ok (.aload_n 0, 1) := by decide +kernel
theorem dX7_clause_56 : decode cX7_clause 56 = .ok (.aload_n 1, 1) := by decide +kernel
theorem dX7_clause_57 : decode cX7_clause 57 = .ok (.iconst 0, 1) := by decide +kernel
theorem dX7_clause_58 : decode cX7_clause 58 = .ok (.invokevirtual 57, 3) := by decide +kernel
theorem dX7_clause_61 : decode cX7_clause 61 = .ok (.ifCond .ne 5, 3) := by decide +kernel
theorem dX7_clause_64 : decode cX7_clause 64 = .ok (.iconst 0, 1) := by decide +kernel
theorem dX7_clause_65 : decode cX7_clause 65 = .ok (.ireturn, 1) := by decide +kernel
theorem dX7_clause_66 : decode cX7_clause 66 = .ok (.aload_n 1, 1) := by decide +kernel
theorem dX7_clause_67 : decode cX7_clause 67 = .ok (.iload_n 2, 1) := by decide +kernel
theorem dX7_clause_68 : decode cX7_clause 68 = .ok (.iconst 2, 1) := by decide +kernel
theorem dX7_clause_69 : decode cX7_clause 69 = .ok (.if_icmp .ne 7, 3) := by decide +kernel
theorem dX7_clause_72 : decode cX7_clause 72 = .ok (.iconst 1, 1) := by decide +kernel
theorem dX7_clause_73 : decode cX7_clause 73 = .ok (.goto 4, 3) := by decide +kernel
theorem dX7_clause_76 : decode cX7_clause 76 = .ok (.iconst 0, 1) := by decide +kernel
theorem dX7_clause_77 : decode cX7_clause 77 = .ok (.iload_n 3, 1) := by decide +kernel
theorem dX7_clause_78 : decode cX7_clause 78 = .ok (.invokevirtual 61, 3) := by decide +kernel
theorem dX7_clause_81 : decode cX7_clause 81 = .ok (.iconst 1, 1) := by decide +kernel
theorem dX7_clause_82 : decode cX7_clause 82 = .ok (.ireturn, 1) := by decide +kernel
theorem dX7_word_0 : decode cX7_word 0 = .ok (.aload_n 0, 1) := by decide +kernel
theorem dX7_word_1 : decode cX7_word 1 = .ok (.getfield 22, 3) := by decide +kernel
theorem dX7_word_4 : decode cX7_word 4 = .ok (.lookupswitch 115 #[(98, 51), (109, 66), (111, 36)], 36) := by decide +kernel
theorem dX7_word_40 : decode cX7_word 40 = .ok (.aload_n 0, 1) := by decide +kernel
theorem dX7_word_41 : decode cX7_word 41 = .ok (.ldc 65, 2) := by decide +kernel
theorem dX7_word_43 : decode cX7_word 43 = .ok (.invokevirtual 53, 3) := by decide +kernel
theorem dX7_word_46 : decode cX7_word 46 = .ok (.ifCond .eq 7, 3) := by decide +kernel
theorem dX7_word_49 : decode cX7_word 49 = .ok (.iconst 2, 1) := by decide +kernel
theorem dX7_word_50 : decode cX7_word 50 = .ok (.goto 4, 3) := by decide +kernel
theorem dX7_word_53 : decode cX7_word 53 = .ok (.iconst (-1), 1) := by decide +kernel
theorem dX7_word_54 : decode cX7_word 54 = .ok (.ireturn, 1) := by decide +kernel
theorem dX7_word_55 : decode cX7_word 55 = .ok (.aload_n 0, 1) := by decide +kernel
theorem dX7_word_56 : decode cX7_word 56 = .ok (.ldc 67, 2) := by decide +kernel
theorem dX7_word_58 : decode cX7_word 58 = .ok (.invokevirtual 53, 3) := by decide +kernel
theorem dX7_word_61 : decode cX7_word 61 = .ok (.ifCond .eq 7, 3) := by decide +kernel
theorem dX7_word_64 : decode cX7_word 64 = .ok (.iconst 3, 1) := by decide +kernel
theorem dX7_word_65 : decode cX7_word 65 = .ok (.goto 4, 3) := by decide +kernel
theorem dX7_word_68 : decode cX7_word 68 = .ok (.iconst (-1), 1) := by decide +kernel
theorem dX7_word_69 : decode cX7_word 69 = .ok (.ireturn, 1) := by decide +kernel
theorem dX7_word_70 : decode cX7_word 70 = .ok (.aload_n 0, 1) := by decide +kernel
theorem dX7_word_71 : decode cX7_word 71 = .ok (.aload_n 0, 1) := by decide +kernel
theorem dX7_word_72 : decode cX7_word 72 = .ok (.getfield 19, 3) := by decide +kernel
theorem dX7_word_75 : decode cX7_word 75 = .ok (.iconst 1, 1) := by decide +kernel
theorem dX7_word_76 : decode cX7_word 76 = .ok (.iadd, 1) := by decide +kernel
theorem dX7_word_77 : decode cX7_word 77 = .ok (.invokevirtual 30, 3) := by decide +kernel
theorem dX7_word_80 : decode cX7_word 80 = .ok (.aload_n 0, 1) := by decide +kernel
theorem dX7_word_81 : decode cX7_word 81 = .ok (.getfield 22, 3) := by decide +kernel
theorem dX7_word_84 : decode cX7_word 84 = .ok (.bipush 111, 2) := by decide +kernel
theorem dX7_word_86 : decode cX7_word 86 = .ok (.if_icmp .ne 18, 3) := by decide +kernel
theorem dX7_word_89 : decode cX7_word 89 = .ok (.aload_n 0, 1) := by decide +kernel
theorem dX7_word_90 : decode cX7_word 90 = .ok (.ldc 69, 2) := by decide +kernel
theorem dX7_word_92 : decode cX7_word 92 = .ok (.invokevirtual 53, 3) := by decide +kernel
theorem dX7_word_95 : decode cX7_word 95 = .ok (.ifCond .eq 7, 3) := by decide +kernel
theorem dX7_word_98 : decode cX7_word 98 = .ok (.iconst 1, 1) := by decide +kernel
theorem dX7_word_99 : decode cX7_word 99 = .ok (.goto 4, 3) := by decide +kernel
theorem dX7_word_102 : decode cX7_word 102 = .ok (.iconst (-1), 1) := by decide +kernel
theorem dX7_word_103 : decode cX7_word 103 = .ok (.ireturn, 1) := by decide +kernel
theorem dX7_word_104 : decode cX7_word 104 = .ok (.aload_n 0, 1) := by decide +kernel
theorem dX7_word_105 : decode cX7_word 105 = .ok (.ldc 71, 2) := by decide +kernel
theorem dX7_word_107 : decode cX7_word 107 = .ok (.invokevirtual 53, 3) := by decide +kernel
theorem dX7_word_110 : decode cX7_word 110 = .ok (.ifCond .eq 7, 3) := by decide +kernel
theorem dX7_word_113 : decode cX7_word 113 = .ok (.iconst 0, 1) := by decide +kernel
theorem dX7_word_114 : decode cX7_word 114 = .ok (.goto 4, 3) := by decide +kernel
theorem dX7_word_117 : decode cX7_word 117 = .ok (.iconst (-1), 1) := by decide +kernel
theorem dX7_word_118 : decode cX7_word 118 = .ok (.ireturn, 1) := by decide +kernel
theorem dX7_word_119 : decode cX7_word 119 = .ok (.iconst (-1), 1) := by decide +kernel
theorem dX7_word_120 : decode cX7_word 120 = .ok (.ireturn, 1) := by decide +kernel
theorem dX7_spells_0 : decode cX7_spells 0 = .ok (.iconst 0, 1) := by decide +kernel
theorem dX7_spells_1 : decode cX7_spells 1 = .ok (.istore_n 2, 1) := by decide +kernel
theorem dX7_spells_2 : decode cX7_spells 2 = .ok (.iload_n 2, 1) := by decide +kernel
theorem dX7_spells_3 : decode cX7_spells 3 = .ok (.aload_n 1, 1) := by decide +kernel
theorem dX7_spells_4 : decode cX7_spells 4 = .ok (.invokevirtual 73, 3) := by decide +kernel
theorem dX7_spells_7 : decode cX7_spells 7 = .ok (.if_icmp .ge 33, 3) := by decide +kernel
theorem dX7_spells_10 : decode cX7_spells 10 = .ok (.aload_n 0, 1) := by decide +kernel
theorem dX7_spells_11 : decode cX7_spells 11 = .ok (.getfield 22, 3) := by decide +kernel
theorem dX7_spells_14 : decode cX7_spells 14 = .ok (.aload_n 1, 1) := by decide +kernel
theorem dX7_spells_15 : decode cX7_spells 15 = .ok (.iload_n 2, 1) := by decide +kernel
theorem dX7_spells_16 : decode cX7_spells 16 = .ok (.invokevirtual 77, 3) := by decide +kernel
theorem dX7_spells_19 : decode cX7_spells 19 = .ok (.if_icmp .eq 5, 3) := by decide +kernel
theorem dX7_spells_22 : decode cX7_spells 22 = .ok (.iconst 0, 1) := by decide +kernel
theorem dX7_spells_23 : decode cX7_spells 23 = .ok (.ireturn, 1) := by decide +kernel
theorem dX7_spells_24 : decode cX7_spells 24 = .ok (.aload_n 0, 1) := by decide +kernel
theorem dX7_spells_25 : decode cX7_spells 25 = .ok (.aload_n 0, 1) := by decide +kernel
theorem dX7_spells_26 : decode cX7_spells 26 = .ok (.getfield 19, 3) := by decide +kernel
theorem dX7_spells_29 : decode cX7_spells 29 = .ok (.iconst 1, 1) := by decide +kernel
theorem dX7_spells_30 : decode cX7_spells 30 = .ok (.iadd, 1) := by decide +kernel
theorem dX7_spells_31 : decode cX7_spells 31 = .ok (.invokevirtual 30, 3) := by decide +kernel
theorem dX7_spells_34 : decode cX7_spells 34 = .ok (.iinc 2 1, 3) := by decide +kernel
theorem dX7_spells_37 : decode cX7_spells 37 = .ok (.goto (-35), 3) := by decide +kernel
theorem dX7_spells_40 : decode cX7_spells 40 = .ok (.iconst 1, 1) := by decide +kernel
theorem dX7_spells_41 : decode cX7_spells 41 = .ok (.ireturn, 1) := by decide +kernel
theorem dX7_number_0 : decode cX7_number 0 = .ok (.aload_n 0, 1) := by decide +kernel
theorem dX7_number_1 : decode cX7_number 1 = .ok (.getfield 22, 3) := by decide +kernel
theorem dX7_number_4 : decode cX7_number 4 = .ok (.bipush 48, 2) := by decide +kernel
theorem dX7_number_6 : decode cX7_number 6 = .ok (.if_icmp .lt 12, 3) := by decide +kernel
theorem dX7_number_9 : decode cX7_number 9 = .ok (.aload_n 0, 1) := by decide +kernel
theorem dX7_number_10 : decode cX7_number 10 = .ok (.getfield 22, 3) := by decide +kernel
theorem dX7_number_13 : decode cX7_number 13 = .ok (.bipush 57, 2) := by decide +kernel
theorem dX7_number_15 : decode cX7_number 15 = .ok (.if_icmp .le 5, 3) := by decide +kernel
theorem dX7_number_18 : decode cX7_number 18 = .ok (.iconst (-1), 1) := by decide +kernel
theorem dX7_number_19 : decode cX7_number 19 = .ok (.ireturn, 1) := by decide +kernel
theorem dX7_number_20 : decode cX7_number 20 = .ok (.aload_n 0, 1) := by decide +kernel
theorem dX7_number_21 : decode cX7_number 21 = .ok (.getfield 22, 3) := by decide +kernel
theorem dX7_number_24 : decode cX7_number 24 = .ok (.bipush 48, 2) := by decide +kernel
theorem dX7_number_26 : decode cX7_number 26 = .ok (.isub, 1) := by decide +kernel
theorem dX7_number_27 : decode cX7_number 27 = .ok (.istore_n 1, 1) := by decide +kernel
theorem dX7_number_28 : decode cX7_number 28 = .ok (.aload_n 0, 1) := by decide +kernel
theorem dX7_number_29 : decode cX7_number 29 = .ok (.aload_n 0, 1) := by decide +kernel
theorem dX7_number_30 : decode cX7_number 30 = .ok (.getfield 19, 3) := by decide +kernel
theorem dX7_number_33 : decode cX7_number 33 = .ok (.iconst 1, 1) := by decide +kernel
theorem dX7_number_34 : decode cX7_number 34 = .ok (.iadd, 1) := by decide +kernel
theorem dX7_number_35 : decode cX7_number 35 = .ok (.invokevirtual 30, 3) := by decide +kernel
theorem dX7_number_38 : decode cX7_number 38 = .ok (.aload_n 0, 1) := by decide +kernel
theorem dX7_number_39 : decode cX7_number 39 = .ok (.getfield 22, 3) := by decide +kernel
theorem dX7_number_42 : decode cX7_number 42 = .ok (.bipush 48, 2) := by decide +kernel
theorem dX7_number_44 : decode cX7_number 44 = .ok (.if_icmp .lt 35, 3) := by decide +kernel
theorem dX7_number_47 : decode cX7_number 47 = .ok (.aload_n 0, 1) := by decide +kernel
theorem dX7_number_48 : decode cX7_number 48 = .ok (.getfield 22, 3) := by decide +kernel
theorem dX7_number_51 : decode cX7_number 51 = .ok (.bipush 57, 2) := by decide +kernel
theorem dX7_number_53 : decode cX7_number 53 = .ok (.if_icmp .gt 26, 3) := by decide +kernel
theorem dX7_number_56 : decode cX7_number 56 = .ok (.iload_n 1, 1) := by decide +kernel
theorem dX7_number_57 : decode cX7_number 57 = .ok (.bipush 10, 2) := by decide +kernel
theorem dX7_number_59 : decode cX7_number 59 = .ok (.imul, 1) := by decide +kernel
theorem dX7_number_60 : decode cX7_number 60 = .ok (.aload_n 0, 1) := by decide +kernel
theorem dX7_number_61 : decode cX7_number 61 = .ok (.getfield 22, 3) := by decide +kernel
theorem dX7_number_64 : decode cX7_number 64 = .ok (.iadd, 1) := by decide +kernel
theorem dX7_number_65 : decode cX7_number 65 = .ok (.bipush 48, 2) := by decide +kernel
theorem dX7_number_67 : decode cX7_number 67 = .ok (.isub, 1) := by decide +kernel
theorem dX7_number_68 : decode cX7_number 68 = .ok (.istore_n 1, 1) := by decide +kernel
theorem dX7_number_69 : decode cX7_number 69 = .ok (.aload_n 0, 1) := by decide +kernel
theorem dX7_number_70 : decode cX7_number 70 = .ok (.aload_n 0, 1) := by decide +kernel
theorem dX7_number_71 : decode cX7_number 71 = .ok (.getfield 19, 3) := by decide +kernel
theorem dX7_number_74 : decode cX7_number 74 = .ok (.iconst 1, 1) := by decide +kernel
theorem dX7_number_75 : decode cX7_number 75 = .ok (.iadd, 1) := by decide +kernel
theorem dX7_number_76 : decode cX7_number 76 = .ok (.invokevirtual 30, 3) := by decide +kernel
theorem dX7_number_79 : decode cX7_number 79 = .ok (.iload_n 1, 1) := by decide +kernel
theorem dX7_number_80 : decode cX7_number 80 = .ok (.ireturn, 1) := by decide +kernel
theorem dX7_either_0 : decode cX7_either 0 = .ok (.aload_n 0, 1) := by decide +kernel
theorem dX7_either_1 : decode cX7_either 1 = .ok (.aload_n 1, 1) := by decide +kernel
theorem dX7_either_2 : decode cX7_either 2 = .ok (.iload_n 2, 1) := by decide +kernel
theorem dX7_either_3 : decode cX7_either 3 = .ok (.invokevirtual 81, 3) := by decide +kernel
theorem dX7_either_6 : decode cX7_either 6 = .ok (.istore_n 3, 1) := by decide +kernel
theorem dX7_either_7 : decode cX7_either 7 = .ok (.iconst 0, 1) := by decide +kernel
theorem dX7_either_8 : decode cX7_either 8 = .ok (.istore 4, 2) := by decide +kernel
theorem dX7_either_10 : decode cX7_either 10 = .ok (.iload 4, 2) := by decide +kernel
theorem dX7_either_12 : decode cX7_either 12 = .ok (.bipush 100, 2) := by decide +kernel
theorem dX7_either_14 : decode cX7_either 14 = .ok (.if_icmp .ge 45, 3) := by decide +kernel
theorem dX7_either_17 : decode cX7_either 17 = .ok (.iload_n 3, 1) := by decide +kernel
theorem dX7_either_18 : decode cX7_either 18 = .ok (.ifCond .eq 41, 3) := by decide +kernel
theorem dX7_either_21 : decode cX7_either 21 = .ok (.aload_n 0, 1) := by decide +kernel
theorem dX7_either_22 : decode cX7_either 22 = .ok (.getfield 22, 3) := by decide +kernel
theorem dX7_either_25 : decode cX7_either 25 = .ok (.bipush 124, 2) := by decide +kernel
theorem dX7_either_27 : decode cX7_either 27 = .ok (.if_icmp .ne 32, 3) := by decide +kernel
theorem dX7_either_30 : decode cX7_either 30 = .ok (.aload_n 0, 1) := by decide +kernel
theorem dX7_either_31 : decode cX7_either 31 = .ok (.aload_n 0, 1) := by decide +kernel
theorem dX7_either_32 : decode cX7_either 32 = .ok (.getfield 19, 3) := by decide +kernel
theorem dX7_either_35 : decode cX7_either 35 = .ok (.iconst 1, 1) := by decide +kernel
theorem dX7_either_36 : decode cX7_either 36 = .ok (.iadd, 1) := by decide +kernel
theorem dX7_either_37 : decode cX7_either 37 = .ok (.invokevirtual 30, 3) := by decide +kernel
theorem dX7_either_40 : decode cX7_either 40 = .ok (.aload_n 0, 1) := by decide +kernel
theorem dX7_either_41 : decode cX7_either 41 = .ok (.aload_n 1, 1) := by decide +kernel
theorem dX7_either_42 : decode cX7_either 42 = .ok (.iload_n 2, 1) := by decide +kernel
theorem dX7_either_43 : decode cX7_either 43 = .ok (.invokevirtual 81, 3) := by decide +kernel
theorem dX7_either_46 : decode cX7_either 46 = .ok (.istore_n 3, 1) := by decide +kernel
theorem dX7_either_47 : decode cX7_either 47 = .ok (.aload_n 1, 1) := by decide +kernel
theorem dX7_either_48 : decode cX7_either 48 = .ok (.bipush (-3), 2) := by decide +kernel
theorem dX7_either_50 : decode cX7_either 50 = .ok (.invokevirtual 84, 3) := by decide +kernel
theorem dX7_either_53 : decode cX7_either 53 = .ok (.iinc 4 1, 3) := by decide +kernel
theorem dX7_either_56 : decode cX7_either 56 = .ok (.goto (-46), 3) := by decide +kernel
theorem dX7_either_59 : decode cX7_either 59 = .ok (.iload_n 3, 1) := by decide +kernel
theorem dX7_either_60 : decode cX7_either 60 = .ok (.ireturn, 1) := by decide +kernel
theorem dX7_both_0 : decode cX7_both 0 = .ok (.aload_n 0, 1) := by decide +kernel
theorem dX7_both_1 : decode cX7_both 1 = .ok (.aload_n 1, 1) := by decide +kernel
theorem dX7_both_2 : decode cX7_both 2 = .ok (.iload_n 2, 1) := by decide +kernel
theorem dX7_both_3 : decode cX7_both 3 = .ok (.invokevirtual 87, 3) := by decide +kernel
theorem dX7_both_6 : decode cX7_both 6 = .ok (.istore_n 3, 1) := by decide +kernel
theorem dX7_both_7 : decode cX7_both 7 = .ok (.iconst 0, 1) := by decide +kernel
theorem dX7_both_8 : decode cX7_both 8 = .ok (.istore 4, 2) := by decide +kernel
theorem dX7_both_10 : decode cX7_both 10 = .ok (.iload 4, 2) := by decide +kernel
theorem dX7_both_12 : decode cX7_both 12 = .ok (.bipush 100, 2) := by decide +kernel
theorem dX7_both_14 : decode cX7_both 14 = .ok (.if_icmp .ge 45, 3) := by decide +kernel
theorem dX7_both_17 : decode cX7_both 17 = .ok (.iload_n 3, 1) := by decide +kernel
theorem dX7_both_18 : decode cX7_both 18 = .ok (.ifCond .eq 41, 3) := by decide +kernel
theorem dX7_both_21 : decode cX7_both 21 = .ok (.aload_n 0, 1) := by decide +kernel
theorem dX7_both_22 : decode cX7_both 22 = .ok (.getfield 22, 3) := by decide +kernel
theorem dX7_both_25 : decode cX7_both 25 = .ok (.bipush 38, 2) := by decide +kernel
theorem dX7_both_27 : decode cX7_both 27 = .ok (.if_icmp .ne 32, 3) := by decide +kernel
theorem dX7_both_30 : decode cX7_both 30 = .ok (.aload_n 0, 1) := by decide +kernel
theorem dX7_both_31 : decode cX7_both 31 = .ok (.aload_n 0, 1) := by decide +kernel
theorem dX7_both_32 : decode cX7_both 32 = .ok (.getfield 19, 3) := by decide +kernel
theorem dX7_both_35 : decode cX7_both 35 = .ok (.iconst 1, 1) := by decide +kernel
theorem dX7_both_36 : decode cX7_both 36 = .ok (.iadd, 1) := by decide +kernel
theorem dX7_both_37 : decode cX7_both 37 = .ok (.invokevirtual 30, 3) := by decide +kernel
theorem dX7_both_40 : decode cX7_both 40 = .ok (.aload_n 0, 1) := by decide +kernel
theorem dX7_both_41 : decode cX7_both 41 = .ok (.aload_n 1, 1) := by decide +kernel
theorem dX7_both_42 : decode cX7_both 42 = .ok (.iload_n 2, 1) := by decide +kernel
theorem dX7_both_43 : decode cX7_both 43 = .ok (.invokevirtual 87, 3) := by decide +kernel
theorem dX7_both_46 : decode cX7_both 46 = .ok (.istore_n 3, 1) := by decide +kernel
theorem dX7_both_47 : decode cX7_both 47 = .ok (.aload_n 1, 1) := by decide +kernel
theorem dX7_both_48 : decode cX7_both 48 = .ok (.bipush (-2), 2) := by decide +kernel
theorem dX7_both_50 : decode cX7_both 50 = .ok (.invokevirtual 84, 3) := by decide +kernel
theorem dX7_both_53 : decode cX7_both 53 = .ok (.iinc 4 1, 3) := by decide +kernel
theorem dX7_both_56 : decode cX7_both 56 = .ok (.goto (-46), 3) := by decide +kernel
theorem dX7_both_59 : decode cX7_both 59 = .ok (.iload_n 3, 1) := by decide +kernel
theorem dX7_both_60 : decode cX7_both 60 = .ok (.ireturn, 1) := by decide +kernel
theorem dX7_factor_0 : decode cX7_factor 0 = .ok (.aload_n 0, 1) := by decide +kernel
theorem dX7_factor_1 : decode cX7_factor 1 = .ok (.getfield 22, 3) := by decide +kernel
theorem dX7_factor_4 : decode cX7_factor 4 = .ok (.bipush 40, 2) := by decide +kernel
theorem dX7_factor_6 : decode cX7_factor 6 = .ok (.if_icmp .eq 12, 3) := by decide +kernel
theorem dX7_factor_9 : decode cX7_factor 9 = .ok (.aload_n 0, 1) := by decide +kernel
theorem dX7_factor_10 : decode cX7_factor 10 = .ok (.getfield 22, 3) := by decide +kernel
theorem dX7_factor_13 : decode cX7_factor 13 = .ok (.bipush 33, 2) := by decide +kernel
theorem dX7_factor_15 : decode cX7_factor 15 = .ok (.if_icmp .ne 25, 3) := by decide +kernel
theorem dX7_factor_18 : decode cX7_factor 18 = .ok (.iload_n 2, 1) := by decide +kernel
theorem dX7_factor_19 : decode cX7_factor 19 = .ok (.iconst 4, 1) := by decide +kernel
theorem dX7_factor_20 : decode cX7_factor 20 = .ok (.if_icmp .ge 18, 3) := by decide +kernel
theorem dX7_factor_23 : decode cX7_factor 23 = .ok (.aload_n 0, 1) := by decide +kernel
theorem dX7_factor_24 : decode cX7_factor 24 = .ok (.aload_n 1, 1) := by decide +kernel
theorem dX7_factor_25 : decode cX7_factor 25 = .ok (.iload_n 2, 1) := by decide +kernel
theorem dX7_factor_26 : decode cX7_factor 26 = .ok (.iconst 1, 1) := by decide +kernel
theorem dX7_factor_27 : decode cX7_factor 27 = .ok (.iadd, 1) := by decide +kernel
theorem dX7_factor_28 : decode cX7_factor 28 = .ok (.invokevirtual 90, 3) := by decide +kernel
theorem dX7_factor_31 : decode cX7_factor 31 = .ok (.ifCond .eq 7, 3) := by decide +kernel
theorem dX7_factor_34 : decode cX7_factor 34 = .ok (.iconst 1, 1) := by decide +kernel
theorem dX7_factor_35 : decode cX7_factor 35 = .ok (.goto 4, 3) := by decide +kernel
theorem dX7_factor_38 : decode cX7_factor 38 = .ok (.iconst 0, 1) := by decide +kernel
theorem dX7_factor_39 : decode cX7_factor 39 = .ok (.ireturn, 1) := by decide +kernel
theorem dX7_factor_40 : decode cX7_factor 40 = .ok (.ldc 93, 2) := by decide +kernel
theorem dX7_factor_42 : decode cX7_factor 42 = .ok (.aload_n 0, 1) := by decide +kernel
theorem dX7_factor_43 : decode cX7_factor 43 = .ok (.getfield 22, 3) := by decide +kernel
theorem dX7_factor_46 : decode cX7_factor 46 = .ok (.invokestatic 95, 3) := by decide +kernel
theorem dX7_factor_49 : decode cX7_factor 49 = .ok (.istore_n 3, 1) := by decide +kernel
theorem dX7_factor_50 : decode cX7_factor 50 = .ok (.iload_n 3, 1) := by decide +kernel
theorem dX7_factor_51 : decode cX7_factor 51 = .ok (.ifCond .ge 5, 3) := by decide +kernel
theorem dX7_factor_54 : decode cX7_factor 54 = .ok (.iconst 0, 1) := by decide +kernel
theorem dX7_factor_55 : decode cX7_factor 55 = .ok (.ireturn, 1) := by decide +kernel
theorem dX7_factor_56 : decode cX7_factor 56 = .ok (.aload_n 0, 1) := by decide +kernel
theorem dX7_factor_57 : decode cX7_factor 57 = .ok (.aload_n 0, 1) := by decide +kernel
theorem dX7_factor_58 : decode cX7_factor 58 = .ok (.getfield 19, 3) := by decide +kernel
theorem dX7_factor_61 : decode cX7_factor 61 = .ok (.iconst 1, 1) := by decide +kernel
theorem dX7_factor_62 : decode cX7_factor 62 = .ok (.iadd, 1) := by decide +kernel
theorem dX7_factor_63 : decode cX7_factor 63 = .ok (.invokevirtual 30, 3) := by decide +kernel
theorem dX7_factor_66 : decode cX7_factor 66 = .ok (.ldc 99, 2) := by decide +kernel
theorem dX7_factor_68 : decode cX7_factor 68 = .ok (.aload_n 0, 1) := by decide +kernel
theorem dX7_factor_69 : decode cX7_factor 69 = .ok (.getfield 22, 3) := by decide +kernel
theorem dX7_factor_72 : decode cX7_factor 72 = .ok (.invokestatic 95, 3) := by decide +kernel
theorem dX7_factor_75 : decode cX7_factor 75 = .ok (.istore 4, 2) := by decide +kernel
theorem dX7_factor_77 : decode cX7_factor 77 = .ok (.iload 4, 2) := by decide +kernel
theorem dX7_factor_79 : decode cX7_factor 79 = .ok (.ifCond .ge 5, 3) := by decide +kernel
theorem dX7_factor_82 : decode cX7_factor 82 = .ok (.iconst 0, 1) := by decide +kernel
theorem dX7_factor_83 : decode cX7_factor 83 = .ok (.ireturn, 1) := by decide +kernel
theorem dX7_factor_84 : decode cX7_factor 84 = .ok (.aload_n 0, 1) := by decide +kernel
theorem dX7_factor_85 : decode cX7_factor 85 = .ok (.aload_n 0, 1) := by decide +kernel
theorem dX7_factor_86 : decode cX7_factor 86 = .ok (.getfield 19, 3) := by decide +kernel
theorem dX7_factor_89 : decode cX7_factor 89 = .ok (.iconst 1, 1) := by decide +kernel
theorem dX7_factor_90 : decode cX7_factor 90 = .ok (.iadd, 1) := by decide +kernel
theorem dX7_factor_91 : decode cX7_factor 91 = .ok (.invokevirtual 30, 3) := by decide +kernel
theorem dX7_factor_94 : decode cX7_factor 94 = .ok (.aload_n 0, 1) := by decide +kernel
theorem dX7_factor_95 : decode cX7_factor 95 = .ok (.invokevirtual 42, 3) := by decide +kernel
theorem dX7_factor_98 : decode cX7_factor 98 = .ok (.istore 5, 2) := by decide +kernel
theorem dX7_factor_100 : decode cX7_factor 100 = .ok (.iload 5, 2) := by decide +kernel
theorem dX7_factor_102 : decode cX7_factor 102 = .ok (.ifCond .ge 5, 3) := by decide +kernel
theorem dX7_factor_105 : decode cX7_factor 105 = .ok (.iconst 0, 1) := by decide +kernel
theorem dX7_factor_106 : decode cX7_factor 106 = .ok (.ireturn, 1) := by decide +kernel
theorem dX7_factor_107 : decode cX7_factor 107 = .ok (.aload_n 1, 1) := by decide +kernel
theorem dX7_factor_108 : decode cX7_factor 108 = .ok (.iload_n 3, 1) := by decide +kernel
theorem dX7_factor_109 : decode cX7_factor 109 = .ok (.iconst 3, 1) := by decide +kernel
theorem dX7_factor_110 : decode cX7_factor 110 = .ok (.imul, 1) := by decide +kernel
theorem dX7_factor_111 : decode cX7_factor 111 = .ok (.iload 4, 2) := by decide +kernel
theorem dX7_factor_113 : decode cX7_factor 113 = .ok (.iadd, 1) := by decide +kernel
theorem dX7_factor_114 : decode cX7_factor 114 = .ok (.bipush 100, 2) := by decide +kernel
theorem dX7_factor_116 : decode cX7_factor 116 = .ok (.imul, 1) := by decide +kernel
theorem dX7_factor_117 : decode cX7_factor 117 = .ok (.iload 5, 2) := by decide +kernel
theorem dX7_factor_119 : decode cX7_factor 119 = .ok (.iadd, 1) := by decide +kernel
theorem dX7_factor_120 : decode cX7_factor 120 = .ok (.invokevirtual 84, 3) := by decide +kernel
theorem dX7_factor_123 : decode cX7_factor 123 = .ok (.iconst 1, 1) := by decide +kernel
theorem dX7_factor_124 : decode cX7_factor 124 = .ok (.ireturn, 1) := by decide +kernel
theorem dX7_nested_0 : decode cX7_nested 0 = .ok (.aload_n 0, 1) := by decide +kernel
theorem dX7_nested_1 : decode cX7_nested 1 = .ok (.getfield 22, 3) := by decide +kernel
theorem dX7_nested_4 : decode cX7_nested 4 = .ok (.bipush 33, 2) := by decide +kernel
theorem dX7_nested_6 : decode cX7_nested 6 = .ok (.if_icmp .ne 7, 3) := by decide +kernel
theorem dX7_nested_9 : decode cX7_nested 9 = .ok (.iconst 1, 1) := by decide +kernel
theorem dX7_nested_10 : decode cX7_nested 10 = .ok (.goto 4, 3) := by decide +kernel
theorem dX7_nested_13 : decode cX7_nested 13 = .ok (.iconst 0, 1) := by decide +kernel
theorem dX7_nested_14 : decode cX7_nested 14 = .ok (.istore_n 3, 1) := by decide +kernel
theorem dX7_nested_15 : decode cX7_nested 15 = .ok (.aload_n 0, 1) := by decide +kernel
theorem dX7_nested_16 : decode cX7_nested 16 = .ok (.aload_n 0, 1) := by decide +kernel
theorem dX7_nested_17 : decode cX7_nested 17 = .ok (.getfield 19, 3) := by decide +kernel
theorem dX7_nested_20 : decode cX7_nested 20 = .ok (.iconst 1, 1) := by decide +kernel
theorem dX7_nested_21 : decode cX7_nested 21 = .ok (.iadd, 1) := by decide +kernel
theorem dX7_nested_22 : decode cX7_nested 22 = .ok (.invokevirtual 30, 3) := by decide +kernel
theorem dX7_nested_25 : decode cX7_nested 25 = .ok (.iload_n 3, 1) := by decide +kernel
theorem dX7_nested_26 : decode cX7_nested 26 = .ok (.ifCond .eq 19, 3) := by decide +kernel
theorem dX7_nested_29 : decode cX7_nested 29 = .ok (.aload_n 0, 1) := by decide +kernel
theorem dX7_nested_30 : decode cX7_nested 30 = .ok (.aload_n 1, 1) := by decide +kernel
theorem dX7_nested_31 : decode cX7_nested 31 = .ok (.iload_n 2, 1) := by decide +kernel
theorem dX7_nested_32 : decode cX7_nested 32 = .ok (.invokevirtual 87, 3) := by decide +kernel
theorem dX7_nested_35 : decode cX7_nested 35 = .ok (.istore 4, 2) := by decide +kernel
theorem dX7_nested_37 : decode cX7_nested 37 = .ok (.aload_n 1, 1) := by decide +kernel
theorem dX7_nested_38 : decode cX7_nested 38 = .ok (.iconst (-1), 1) := by decide +kernel
theorem dX7_nested_39 : decode cX7_nested 39 = .ok (.invokevirtual 84, 3) := by decide +kernel
theorem dX7_nested_42 : decode cX7_nested 42 = .ok (.iload 4, 2) := by decide +kernel
theorem dX7_nested_44 : decode cX7_nested 44 = .ok (.ireturn, 1) := by decide +kernel
theorem dX7_nested_45 : decode cX7_nested 45 = .ok (.aload_n 0, 1) := by decide +kernel
theorem dX7_nested_46 : decode cX7_nested 46 = .ok (.aload_n 1, 1) := by decide +kernel
theorem dX7_nested_47 : decode cX7_nested 47 = .ok (.iload_n 2, 1) := by decide +kernel
theorem dX7_nested_48 : decode cX7_nested 48 = .ok (.invokevirtual 57, 3) := by decide +kernel
theorem dX7_nested_51 : decode cX7_nested 51 = .ok (.ifCond .eq 12, 3) := by decide +kernel
theorem dX7_nested_54 : decode cX7_nested 54 = .ok (.aload_n 0, 1) := by decide +kernel
theorem dX7_nested_55 : decode cX7_nested 55 = .ok (.getfield 22, 3) := by decide +kernel
theorem dX7_nested_58 : decode cX7_nested 58 = .ok (.bipush 41, 2) := by decide +kernel
theorem dX7_nested_60 : decode cX7_nested 60 = .ok (.if_icmp .eq 5, 3) := by decide +kernel
theorem dX7_nested_63 : decode cX7_nested 63 = .ok (.iconst 0, 1) := by decide +kernel
theorem dX7_nested_64 : decode cX7_nested 64 = .ok (.ireturn, 1) := by decide +kernel
theorem dX7_nested_65 : decode cX7_nested 65 = .ok (.aload_n 0, 1) := by decide +kernel
theorem dX7_nested_66 : decode cX7_nested 66 = .ok (.aload_n 0, 1) := by decide +kernel
theorem dX7_nested_67 : decode cX7_nested 67 = .ok (.getfield 19, 3) := by decide +kernel
theorem dX7_nested_70 : decode cX7_nested 70 = .ok (.iconst 1, 1) := by decide +kernel
theorem dX7_nested_71 : decode cX7_nested 71 = .ok (.iadd, 1) := by decide +kernel
theorem dX7_nested_72 : decode cX7_nested 72 = .ok (.invokevirtual 30, 3) := by decide +kernel
theorem dX7_nested_75 : decode cX7_nested 75 = .ok (.iconst 1, 1) := by decide +kernel
theorem dX7_nested_76 : decode cX7_nested 76 = .ok (.ireturn, 1) := by decide +kernel
theorem dX7_indexIn_0 : decode cX7_indexIn 0 = .ok (.iconst 0, 1) := by decide +kernel
theorem dX7_indexIn_1 : decode cX7_indexIn 1 = .ok (.istore_n 2, 1) := by decide +kernel
theorem dX7_indexIn_2 : decode cX7_indexIn 2 = .ok (.iload_n 2, 1) := by decide +kernel
theorem dX7_indexIn_3 : decode cX7_indexIn 3 = .ok (.aload_n 0, 1) := by decide +kernel
theorem dX7_indexIn_4 : decode cX7_indexIn 4 = .ok (.invokevirtual 73, 3) := by decide +kernel
theorem dX7_indexIn_7 : decode cX7_indexIn 7 = .ok (.if_icmp .ge 20, 3) := by decide +kernel
theorem dX7_indexIn_10 : decode cX7_indexIn 10 = .ok (.aload_n 0, 1) := by decide +kernel
theorem dX7_indexIn_11 : decode cX7_indexIn 11 = .ok (.iload_n 2, 1) := by decide +kernel
theorem dX7_indexIn_12 : decode cX7_indexIn 12 = .ok (.invokevirtual 77, 3) := by decide +kernel
theorem dX7_indexIn_15 : decode cX7_indexIn 15 = .ok (.iload_n 1, 1) := by decide +kernel
theorem dX7_indexIn_16 : decode cX7_indexIn 16 = .ok (.if_icmp .ne 5, 3) := by decide +kernel
theorem dX7_indexIn_19 : decode cX7_indexIn 19 = .ok (.iload_n 2, 1) := by decide +kernel
theorem dX7_indexIn_20 : decode cX7_indexIn 20 = .ok (.ireturn, 1) := by decide +kernel
theorem dX7_indexIn_21 : decode cX7_indexIn 21 = .ok (.iinc 2 1, 3) := by decide +kernel
theorem dX7_indexIn_24 : decode cX7_indexIn 24 = .ok (.goto (-22), 3) := by decide +kernel
theorem dX7_indexIn_27 : decode cX7_indexIn 27 = .ok (.iconst (-1), 1) := by decide +kernel
theorem dX7_indexIn_28 : decode cX7_indexIn 28 = .ok (.ireturn, 1) := by decide +kernel
theorem dX8_init_0 : decode cX8_init 0 = .ok (.aload_n 0, 1) := by decide +kernel
theorem dX8_init_1 : decode cX8_init 1 = .ok (.invokespecial 3, 3) := by decide +kernel
theorem dX8_init_4 : decode cX8_init 4 = .ok (.aload_n 0, 1) := by decide +kernel
theorem dX8_init_5 : decode cX8_init 5 = .ok (.bipush 6, 2) := by decide +kernel
theorem dX8_init_7 : decode cX8_init 7 = .ok (.newarray .int, 2) := by decide +kernel
theorem dX8_init_9 : decode cX8_init 9 = .ok (.putfield 9, 3) := by decide +kernel
theorem dX8_init_12 : decode cX8_init 12 = .ok (.aload_n 0, 1) := by decide +kernel
theorem dX8_init_13 : decode cX8_init 13 = .ok (.bipush 6, 2) := by decide +kernel
theorem dX8_init_15 : decode cX8_init 15 = .ok (.newarray .int, 2) := by decide +kernel
theorem dX8_init_17 : decode cX8_init 17 = .ok (.putfield 15, 3) := by decide +kernel
theorem dX8_init_20 : decode cX8_init 20 = .ok (.aload_n 0, 1) := by decide +kernel
theorem dX8_init_21 : decode cX8_init 21 = .ok (.bipush 6, 2) := by decide +kernel
theorem dX8_init_23 : decode cX8_init 23 = .ok (.newarray .int, 2) := by decide +kernel
theorem dX8_init_25 : decode cX8_init 25 = .ok (.putfield 18, 3) := by decide +kernel
theorem dX8_init_28 : decode cX8_init 28 = .ok (.aload_n 0, 1) := by decide +kernel
theorem dX8_init_29 : decode cX8_init 29 = .ok (.iconst 0, 1) := by decide +kernel
theorem dX8_init_30 : decode cX8_init 30 = .ok (.putfield 21, 3) := by decide +kernel
theorem dX8_init_33 : decode cX8_init 33 = .ok (.aload_n 0, 1) := by decide +kernel
theorem dX8_init_34 : decode cX8_init 34 = .ok (.iconst 5, 1) := by decide +kernel
theorem dX8_init_35 : decode cX8_init 35 = .ok (.newarray .int, 2) := by decide +kernel
theorem dX8_init_37 : decode cX8_init 37 = .ok (.putfield 27, 3) := by decide +kernel
theorem dX8_init_40 : decode cX8_init 40 = .ok (.aload_n 0, 1) := by decide +kernel
theorem dX8_init_41 : decode cX8_init 41 = .ok (.sipush 480, 3) := by decide +kernel
theorem dX8_init_44 : decode cX8_init 44 = .ok (.newarray .int, 2) := by decide +kernel
theorem dX8_init_46 : decode cX8_init 46 = .ok (.putfield 30, 3) := by decide +kernel
theorem dX8_init_49 : decode cX8_init 49 = .ok (.aload_n 0, 1) := by decide +kernel
theorem dX8_init_50 : decode cX8_init 50 = .ok (.sipush 480, 3) := by decide +kernel
theorem dX8_init_53 : decode cX8_init 53 = .ok (.newarray .int, 2) := by decide +kernel
theorem dX8_init_55 : decode cX8_init 55 = .ok (.putfield 33, 3) := by decide +kernel
theorem dX8_init_58 : decode cX8_init 58 = .ok (.aload_n 0, 1) := by decide +kernel
theorem dX8_init_59 : decode cX8_init 59 = .ok (.iconst 0, 1) := by decide +kernel
theorem dX8_init_60 : decode cX8_init 60 = .ok (.putfield 36, 3) := by decide +kernel
theorem dX8_init_63 : decode cX8_init 63 = .ok (.aload_n 0, 1) := by decide +kernel
theorem dX8_init_64 : decode cX8_init 64 = .ok (.iconst 0, 1) := by decide +kernel
theorem dX8_init_65 : decode cX8_init 65 = .ok (.putfield 39, 3) := by decide +kernel
theorem dX8_init_68 : decode cX8_init 68 = .ok (.aload_n 0, 1) := by decide +kernel
theorem dX8_init_69 : decode cX8_init 69 = .ok (.iconst 0, 1) := by decide +kernel
theorem dX8_init_70 : decode cX8_init 70 = .ok (.putfield 42, 3) := by decide +kernel
theorem dX8_init_73 : decode cX8_init 73 = .ok (.return_, 1) := by decide +kernel
theorem dX8_begin_0 : decode cX8_begin 0 = .ok (.aload_n 0, 1) := by decide +kernel
theorem dX8_begin_1 : decode cX8_begin 1 = .ok (.aload_n 1, 1) := by decide +kernel
theorem dX8_begin_2 : decode cX8_begin 2 = .ok (.getfield 45, 3) := by decide +kernel
theorem dX8_begin_5 : decode cX8_begin 5 = .ok (.putfield 21, 3) := by decide +kernel
theorem dX8_begin_8 : decode cX8_begin 8 = .ok (.iconst 0, 1) := by decide +kernel
theorem dX8_begin_9 : decode cX8_begin 9 = .ok (.istore_n 3, 1) := by decide +kernel
theorem dX8_begin_10 : decode cX8_begin 10 = .ok (.iload_n 3, 1) := by decide +kernel
theorem dX8_begin_11 : decode cX8_begin 11 = .ok (.bipush 6, 2) := by decide +kernel
theorem dX8_begin_13 : decode cX8_begin 13 = .ok (.if_icmp .ge 58, 3) := by decide +kernel
theorem dX8_begin_16 : decode cX8_begin 16 = .ok (.aload_n 0, 1) := by decide +kernel
theorem dX8_begin_17 : decode cX8_begin 17 = .ok (.getfield 9, 3) := by decide +kernel
theorem dX8_begin_20 : decode cX8_begin 20 = .ok (.iload_n 3, 1) := by decide +kernel
theorem dX8_begin_21 : decode cX8_begin 21 = .ok (.aload_n 1, 1) := by decide +kernel
theorem dX8_begin_22 : decode cX8_begin 22 = .ok (.getfield 50, 3) := by decide +kernel
theorem dX8_begin_25 : decode cX8_begin 25 = .ok (.iload_n 3, 1) := by decide +kernel
theorem dX8_begin_26 : decode cX8_begin 26 = .ok (.iaload, 1) := by decide +kernel
theorem dX8_begin_27 : decode cX8_begin 27 = .ok (.iastore, 1) := by decide +kernel
theorem dX8_begin_28 : decode cX8_begin 28 = .ok (.aload_n 0, 1) := by decide +kernel
theorem dX8_begin_29 : decode cX8_begin 29 = .ok (.getfield 15, 3) := by decide +kernel
theorem dX8_begin_32 : decode cX8_begin 32 = .ok (.iload_n 3, 1) := by decide +kernel
theorem dX8_begin_33 : decode cX8_begin 33 = .ok (.aload_n 1, 1) := by decide +kernel
theorem dX8_begin_34 : decode cX8_begin 34 = .ok (.getfield 51, 3) := by decide +kernel
theorem dX8_begin_37 : decode cX8_begin 37 = .ok (.iload_n 3, 1) := by decide +kernel
theorem dX8_begin_38 : decode cX8_begin 38 = .ok (.iaload, 1) := by decide +kernel
theorem dX8_begin_39 : decode cX8_begin 39 = .ok (.iastore, 1) := by decide +kernel
theorem dX8_begin_40 : decode cX8_begin 40 = .ok (.aload_n 0, 1) := by decide +kernel
theorem dX8_begin_41 : decode cX8_begin 41 = .ok (.getfield 18, 3) := by decide +kernel
theorem dX8_begin_44 : decode cX8_begin 44 = .ok (.iload_n 3, 1) := by decide +kernel
theorem dX8_begin_45 : decode cX8_begin 45 = .ok (.aload_n 0, 1) := by decide +kernel
theorem dX8_begin_46 : decode cX8_begin 46 = .ok (.getfield 9, 3) := by decide +kernel
theorem dX8_begin_49 : decode cX8_begin 49 = .ok (.iload_n 3, 1) := by decide +kernel
theorem dX8_begin_50 : decode cX8_begin 50 = .ok (.iaload, 1) := by decide +kernel
theorem dX8_begin_51 : decode cX8_begin 51 = .ok (.aload_n 0, 1) := by decide +kernel
theorem dX8_begin_52 : decode cX8_begin 52 = .ok (.getfield 15, 3) := by decide +kernel
theorem dX8_begin_55 : decode cX8_begin 55 = .ok (.iload_n 3, 1) := by decide +kernel
theorem dX8_begin_56 : decode cX8_begin 56 = .ok (.iaload, 1) := by decide +kernel
theorem dX8_begin_57 : decode cX8_begin 57 = .ok (.aload_n 2, 1) := by decide +kernel
theorem dX8_begin_58 : decode cX8_begin 58 = .ok (.getfield 52, 3) := by decide +kernel
theorem dX8_begin_61 : decode cX8_begin 61 = .ok (.invokestatic 55, 3) := by decide +kernel
theorem dX8_begin_64 : decode cX8_begin 64 = .ok (.iastore, 1) := by decide +kernel
theorem dX8_begin_65 : decode cX8_begin 65 = .ok (.iinc 3 1, 3) := by decide +kernel
theorem dX8_begin_68 : decode cX8_begin 68 = .ok (.goto (-58), 3) := by decide +kernel
theorem dX8_begin_71 : decode cX8_begin 71 = .ok (.return_, 1) := by decide +kernel
theorem dX8_partsFor_0 : decode cX8_partsFor 0 = .ok (.iload_n 0, 1) := by decide +kernel
theorem dX8_partsFor_1 : decode cX8_partsFor 1 = .ok (.tableswitch 45 1 6 #[39, 45, 43, 39, 45, 43], 39) := by decide +kernel
theorem dX8_partsFor_40 : decode cX8_partsFor 40 = .ok (.iload_n 1, 1) := by decide +kernel
theorem dX8_partsFor_41 : decode cX8_partsFor 41 = .ok (.iconst 2, 1) := by decide +kernel
theorem dX8_partsFor_42 : decode cX8_partsFor 42 = .ok (.iadd, 1) := by decide +kernel
theorem dX8_partsFor_43 : decode cX8_partsFor 43 = .ok (.ireturn, 1) := by decide +kernel
theorem dX8_partsFor_44 : decode cX8_partsFor 44 = .ok (.iconst 2, 1) := by decide +kernel
theorem dX8_partsFor_45 : decode cX8_partsFor 45 = .ok (.ireturn, 1) := by decide +kernel
theorem dX8_partsFor_46 : decode cX8_partsFor 46 = .ok (.iload_n 2, 1) := by decide +kernel
theorem dX8_partsFor_47 : decode cX8_partsFor 47 = .ok (.ireturn, 1) := by decide +kernel
theorem dX8_reckon_0 : decode cX8_reckon 0 = .ok (.iconst 0, 1) := by decide +kernel
theorem dX8_reckon_1 : decode cX8_reckon 1 = .ok (.istore 4, 2) := by decide +kernel
theorem dX8_reckon_3 : decode cX8_reckon 3 = .ok (.iload 4, 2) := by decide +kernel
theorem dX8_reckon_5 : decode cX8_reckon 5 = .ok (.bipush 10, 2) := by decide +kernel
theorem dX8_reckon_7 : decode cX8_reckon 7 = .ok (.if_icmp .ge 108, 3) := by decide +kernel
theorem dX8_reckon_10 : decode cX8_reckon 10 = .ok (.iload_n 2, 1) := by decide +kernel
theorem dX8_reckon_11 : decode cX8_reckon 11 = .ok (.iload_n 3, 1) := by decide +kernel
theorem dX8_reckon_12 : decode cX8_reckon 12 = .ok (.iload 4, 2) := by decide +kernel
theorem dX8_reckon_14 : decode cX8_reckon 14 = .ok (.invokestatic 59, 3) := by decide +kernel
theorem dX8_reckon_17 : decode cX8_reckon 17 = .ok (.istore 5, 2) := by decide +kernel
theorem dX8_reckon_19 : decode cX8_reckon 19 = .ok (.iload 5, 2) := by decide +kernel
theorem dX8_reckon_21 : decode cX8_reckon 21 = .ok (.ifCond .ge 4, 3) := by decide +kernel
theorem dX8_reckon_24 : decode cX8_reckon 24 = .ok (.return_, 1) := by decide +kernel
theorem dX8_reckon_25 : decode cX8_reckon 25 = .ok (.aload_n 0, 1) := by decide +kernel
theorem dX8_reckon_26 : decode cX8_reckon 26 = .ok (.getfield 27, 3) := by decide +kernel
theorem dX8_reckon_29 : decode cX8_reckon 29 = .ok (.iconst 0, 1) := by decide +kernel
theorem dX8_reckon_30 : decode cX8_reckon 30 = .ok (.iload_n 2, 1) := by decide +kernel
theorem dX8_reckon_31 : decode cX8_reckon 31 = .ok (.iastore, 1) := by decide +kernel
theorem dX8_reckon_32 : decode cX8_reckon 32 = .ok (.aload_n 0, 1) := by decide +kernel
theorem dX8_reckon_33 : decode cX8_reckon 33 = .ok (.getfield 27, 3) := by decide +kernel
theorem dX8_reckon_36 : decode cX8_reckon 36 = .ok (.iconst 1, 1) := by decide +kernel
theorem dX8_reckon_37 : decode cX8_reckon 37 = .ok (.aload_n 0, 1) := by decide +kernel
theorem dX8_reckon_38 : decode cX8_reckon 38 = .ok (.getfield 9, 3) := by decide +kernel
theorem dX8_reckon_41 : decode cX8_reckon 41 = .ok (.iload_n 2, 1) := by decide +kernel
theorem dX8_reckon_42 : decode cX8_reckon 42 = .ok (.iaload, 1) := by decide +kernel
theorem dX8_reckon_43 : decode cX8_reckon 43 = .ok (.iastore, 1) := by decide +kernel
theorem dX8_reckon_44 : decode cX8_reckon 44 = .ok (.aload_n 0, 1) := by decide +kernel
theorem dX8_reckon_45 : decode cX8_reckon 45 = .ok (.getfield 27, 3) := by decide +kernel
theorem dX8_reckon_48 : decode cX8_reckon 48 = .ok (.iconst 2, 1) := by decide +kernel
theorem dX8_reckon_49 : decode cX8_reckon 49 = .ok (.aload_n 0, 1) := by decide +kernel
theorem dX8_reckon_50 : decode cX8_reckon 50 = .ok (.getfield 15, 3) := by decide +kernel
theorem dX8_reckon_53 : decode cX8_reckon 53 = .ok (.iload_n 2, 1) := by decide +kernel
theorem dX8_reckon_54 : decode cX8_reckon 54 = .ok (.iaload, 1) := by decide +kernel
theorem dX8_reckon_55 : decode cX8_reckon 55 = .ok (.iastore, 1) := by decide +kernel
theorem dX8_reckon_56 : decode cX8_reckon 56 = .ok (.aload_n 0, 1) := by decide +kernel
theorem dX8_reckon_57 : decode cX8_reckon 57 = .ok (.getfield 27, 3) := by decide +kernel
theorem dX8_reckon_60 : decode cX8_reckon 60 = .ok (.iconst 3, 1) := by decide +kernel
theorem dX8_reckon_61 : decode cX8_reckon 61 = .ok (.aload_n 0, 1) := by decide +kernel
theorem dX8_reckon_62 : decode cX8_reckon 62 = .ok (.getfield 21, 3) := by decide +kernel
theorem dX8_reckon_65 : decode cX8_reckon 65 = .ok (.iload_n 3, 1) := by decide +kernel
theorem dX8_reckon_66 : decode cX8_reckon 66 = .ok (.iadd, 1) := by decide +kernel
theorem dX8_reckon_67 : decode cX8_reckon 67 = .ok (.bipush 60, 2) := by decide +kernel
theorem dX8_reckon_69 : decode cX8_reckon 69 = .ok (.irem, 1) := by decide +kernel
theorem dX8_reckon_70 : decode cX8_reckon 70 = .ok (.iastore, 1) := by decide +kernel
theorem dX8_reckon_71 : decode cX8_reckon 71 = .ok (.aload_n 0, 1) := by decide +kernel
theorem dX8_reckon_72 : decode cX8_reckon 72 = .ok (.getfield 27, 3) := by decide +kernel
theorem dX8_reckon_75 : decode cX8_reckon 75 = .ok (.iconst 4, 1) := by decide +kernel
theorem dX8_reckon_76 : decode cX8_reckon 76 = .ok (.iload 4, 2) := by decide +kernel
theorem dX8_reckon_78 : decode cX8_reckon 78 = .ok (.iastore, 1) := by decide +kernel
theorem dX8_reckon_79 : decode cX8_reckon 79 = .ok (.aload_n 0, 1) := by decide +kernel
theorem dX8_reckon_80 : decode cX8_reckon 80 = .ok (.getfield 30, 3) := by decide +kernel
theorem dX8_reckon_83 : decode cX8_reckon 83 = .ok (.iload 5, 2) := by decide +kernel
theorem dX8_reckon_85 : decode cX8_reckon 85 = .ok (.aload_n 1, 1) := by decide +kernel
theorem dX8_reckon_86 : decode cX8_reckon 86 = .ok (.aload_n 0, 1) := by decide +kernel
theorem dX8_reckon_87 : decode cX8_reckon 87 = .ok (.getfield 27, 3) := by decide +kernel
theorem dX8_reckon_90 : decode cX8_reckon 90 = .ok (.invokevirtual 62, 3) := by decide +kernel
theorem dX8_reckon_93 : decode cX8_reckon 93 = .ok (.iastore, 1) := by decide +kernel
theorem dX8_reckon_94 : decode cX8_reckon 94 = .ok (.aload_n 0, 1) := by decide +kernel
theorem dX8_reckon_95 : decode cX8_reckon 95 = .ok (.getfield 33, 3) := by decide +kernel
theorem dX8_reckon_98 : decode cX8_reckon 98 = .ok (.iload 5, 2) := by decide +kernel
theorem dX8_reckon_100 : decode cX8_reckon 100 = .ok (.aload_n 1, 1) := by decide +kernel
theorem dX8_reckon_101 : decode cX8_reckon 101 = .ok (.aload_n 0, 1) := by decide +kernel
theorem dX8_reckon_102 : decode cX8_reckon 102 = .ok (.getfield 27, 3) := by decide +kernel
theorem dX8_reckon_105 : decode cX8_reckon 105 = .ok (.invokevirtual 66, 3) := by decide +kernel
theorem dX8_reckon_108 : decode cX8_reckon 108 = .ok (.iastore, 1) := by decide +kernel
theorem dX8_reckon_109 : decode cX8_reckon 109 = .ok (.iinc 4 1, 3) := by decide +kernel
theorem dX8_reckon_112 : decode cX8_reckon 112 = .ok (.goto (-109), 3) := by decide +kernel
theorem dX8_reckon_115 : decode cX8_reckon 115 = .ok (.return_, 1) := by decide +kernel
theorem dX8_slot_0 : decode cX8_slot 0 = .ok (.iload_n 0, 1) := by decide +kernel
theorem dX8_slot_1 : decode cX8_slot 1 = .ok (.ifCond .lt 23, 3) := by decide +kernel
theorem dX8_slot_4 : decode cX8_slot 4 = .ok (.iload_n 0, 1) := by decide +kernel
theorem dX8_slot_5 : decode cX8_slot 5 = .ok (.bipush 6, 2) := by decide +kernel
theorem dX8_slot_7 : decode cX8_slot 7 = .ok (.if_icmp .ge 17, 3) := by decide +kernel
theorem dX8_slot_10 : decode cX8_slot 10 = .ok (.iload_n 1, 1) := by decide +kernel
theorem dX8_slot_11 : decode cX8_slot 11 = .ok (.ifCond .lt 13, 3) := by decide +kernel
theorem dX8_slot_14 : decode cX8_slot 14 = .ok (.iload_n 1, 1) := by decide +kernel
theorem dX8_slot_15 : decode cX8_slot 15 = .ok (.bipush 8, 2) := by decide +kernel
theorem dX8_slot_17 : decode cX8_slot 17 = .ok (.if_icmp .ge 7, 3) := by decide +kernel
theorem dX8_slot_20 : decode cX8_slot 20 = .ok (.iload_n 2, 1) := by decide +kernel
theorem dX8_slot_21 : decode cX8_slot 21 = .ok (.ifCond .ge 5, 3) := by decide +kernel
theorem dX8_slot_24 : decode cX8_slot 24 = .ok (.iconst (-1), 1) := by decide +kernel
theorem dX8_slot_25 : decode cX8_slot 25 = .ok (.ireturn, 1) := by decide +kernel
theorem dX8_slot_26 : decode cX8_slot 26 = .ok (.iload_n 0, 1) := by decide +kernel
theorem dX8_slot_27 : decode cX8_slot 27 = .ok (.bipush 8, 2) := by decide +kernel
theorem dX8_slot_29 : decode cX8_slot 29 = .ok (.imul, 1) := by decide +kernel
theorem dX8_slot_30 : decode cX8_slot 30 = .ok (.iload_n 1, 1) := by decide +kernel
theorem dX8_slot_31 : decode cX8_slot 31 = .ok (.iadd, 1) := by decide +kernel
theorem dX8_slot_32 : decode cX8_slot 32 = .ok (.bipush 10, 2) := by decide +kernel
theorem dX8_slot_34 : decode cX8_slot 34 = .ok (.imul, 1) := by decide +kernel
theorem dX8_slot_35 : decode cX8_slot 35 = .ok (.iload_n 2, 1) := by decide +kernel
theorem dX8_slot_36 : decode cX8_slot 36 = .ok (.bipush 10, 2) := by decide +kernel
theorem dX8_slot_38 : decode cX8_slot 38 = .ok (.irem, 1) := by decide +kernel
theorem dX8_slot_39 : decode cX8_slot 39 = .ok (.iadd, 1) := by decide +kernel
theorem dX8_slot_40 : decode cX8_slot 40 = .ok (.ireturn, 1) := by decide +kernel
theorem dX8_partsOf_0 : decode cX8_partsOf 0 = .ok (.iload_n 1, 1) := by decide +kernel
theorem dX8_partsOf_1 : decode cX8_partsOf 1 = .ok (.ifCond .lt 18, 3) := by decide +kernel
theorem dX8_partsOf_4 : decode cX8_partsOf 4 = .ok (.iload_n 1, 1) := by decide +kernel
theorem dX8_partsOf_5 : decode cX8_partsOf 5 = .ok (.bipush 6, 2) := by decide +kernel
theorem dX8_partsOf_7 : decode cX8_partsOf 7 = .ok (.if_icmp .ge 12, 3) := by decide +kernel
theorem dX8_partsOf_10 : decode cX8_partsOf 10 = .ok (.aload_n 0, 1) := by decide +kernel
theorem dX8_partsOf_11 : decode cX8_partsOf 11 = .ok (.getfield 18, 3) := by decide +kernel
theorem dX8_partsOf_14 : decode cX8_partsOf 14 = .ok (.iload_n 1, 1) := by decide +kernel
theorem dX8_partsOf_15 : decode cX8_partsOf 15 = .ok (.iaload, 1) := by decide +kernel
theorem dX8_partsOf_16 : decode cX8_partsOf 16 = .ok (.goto 4, 3) := by decide +kernel
theorem dX8_partsOf_19 : decode cX8_partsOf 19 = .ok (.iconst 0, 1) := by decide +kernel
theorem dX8_partsOf_20 : decode cX8_partsOf 20 = .ok (.ireturn, 1) := by decide +kernel
theorem dX8_overOf_0 : decode cX8_overOf 0 = .ok (.iload_n 1, 1) := by decide +kernel
theorem dX8_overOf_1 : decode cX8_overOf 1 = .ok (.iload_n 2, 1) := by decide +kernel
theorem dX8_overOf_2 : decode cX8_overOf 2 = .ok (.iload_n 3, 1) := by decide +kernel
theorem dX8_overOf_3 : decode cX8_overOf 3 = .ok (.invokestatic 59, 3) := by decide +kernel
theorem dX8_overOf_6 : decode cX8_overOf 6 = .ok (.istore 4, 2) := by decide +kernel
theorem dX8_overOf_8 : decode cX8_overOf 8 = .ok (.iload 4, 2) := by decide +kernel
theorem dX8_overOf_10 : decode cX8_overOf 10 = .ok (.ifCond .ge 7, 3) := by decide +kernel
theorem dX8_overOf_13 : decode cX8_overOf 13 = .ok (.iconst 0, 1) := by decide +kernel
theorem dX8_overOf_14 : decode cX8_overOf 14 = .ok (.goto 10, 3) := by decide +kernel
theorem dX8_overOf_17 : decode cX8_overOf 17 = .ok (.aload_n 0, 1) := by decide +kernel
theorem dX8_overOf_18 : decode cX8_overOf 18 = .ok (.getfield 30, 3) := by decide +kernel
theorem dX8_overOf_21 : decode cX8_overOf 21 = .ok (.iload 4, 2) := by decide +kernel
theorem dX8_overOf_23 : decode cX8_overOf 23 = .ok (.iaload, 1) := by decide +kernel
theorem dX8_overOf_24 : decode cX8_overOf 24 = .ok (.ireturn, 1) := by decide +kernel
theorem dX8_backOf_0 : decode cX8_backOf 0 = .ok (.iload_n 1, 1) := by decide +kernel
theorem dX8_backOf_1 : decode cX8_backOf 1 = .ok (.iload_n 2, 1) := by decide +kernel
theorem dX8_backOf_2 : decode cX8_backOf 2 = .ok (.iload_n 3, 1) := by decide +kernel
theorem dX8_backOf_3 : decode cX8_backOf 3 = .ok (.invokestatic 59, 3) := by decide +kernel
theorem dX8_backOf_6 : decode cX8_backOf 6 = .ok (.istore 4, 2) := by decide +kernel
theorem dX8_backOf_8 : decode cX8_backOf 8 = .ok (.iload 4, 2) := by decide +kernel
theorem dX8_backOf_10 : decode cX8_backOf 10 = .ok (.ifCond .ge 7, 3) := by decide +kernel
theorem dX8_backOf_13 : decode cX8_backOf 13 = .ok (.iconst 0, 1) := by decide +kernel
theorem dX8_backOf_14 : decode cX8_backOf 14 = .ok (.goto 10, 3) := by decide +kernel
theorem dX8_backOf_17 : decode cX8_backOf 17 = .ok (.aload_n 0, 1) := by decide +kernel
theorem dX8_backOf_18 : decode cX8_backOf 18 = .ok (.getfield 33, 3) := by decide +kernel
theorem dX8_backOf_21 : decode cX8_backOf 21 = .ok (.iload 4, 2) := by decide +kernel
theorem dX8_backOf_23 : decode cX8_backOf 23 = .ok (.iaload, 1) := by decide +kernel
theorem dX8_backOf_24 : decode cX8_backOf 24 = .ok (.ireturn, 1) := by decide +kernel
theorem dX8_comesOut_0 : decode cX8_comesOut 0 = .ok (.aload_n 0, 1) := by decide +kernel
theorem dX8_comesOut_1 : decode cX8_comesOut 1 = .ok (.iload_n 3, 1) := by decide +kernel
theorem dX8_comesOut_2 : decode cX8_comesOut 2 = .ok (.putfield 36, 3) := by decide +kernel
theorem dX8_comesOut_5 : decode cX8_comesOut 5 = .ok (.aload_n 0, 1) := by decide +kernel
theorem dX8_comesOut_6 : decode cX8_comesOut 6 = .ok (.iconst 0, 1) := by decide +kernel
theorem dX8_comesOut_7 : decode cX8_comesOut 7 = .ok (.putfield 39, 3) := by decide +kernel
theorem dX8_comesOut_10 : decode cX8_comesOut 10 = .ok (.aload_n 0, 1) := by decide +kernel
theorem dX8_comesOut_11 : decode cX8_comesOut 11 = .ok (.iconst 0, 1) := by decide +kernel
theorem dX8_comesOut_12 : decode cX8_comesOut 12 = .ok (.putfield 42, 3) := by decide +kernel
theorem dX8_comesOut_15 : decode cX8_comesOut 15 = .ok (.aload_n 0, 1) := by decide +kernel
theorem dX8_comesOut_16 : decode cX8_comesOut 16 = .ok (.iload_n 1, 1) := by decide +kernel
theorem dX8_comesOut_17 : decode cX8_comesOut 17 = .ok (.iload_n 2, 1) := by decide +kernel
theorem dX8_comesOut_18 : decode cX8_comesOut 18 = .ok (.invokevirtual 69, 3) := by decide +kernel
theorem dX8_comesOut_21 : decode cX8_comesOut 21 = .ok (.ifCond .ne 5, 3) := by decide +kernel
theorem dX8_comesOut_24 : decode cX8_comesOut 24 = .ok (.iconst 0, 1) := by decide +kernel
theorem dX8_comesOut_25 : decode cX8_comesOut 25 = .ok (.ireturn, 1) := by decide +kernel
theorem dX8_comesOut_26 : decode cX8_comesOut 26 = .ok (.aload_n 0, 1) := by decide +kernel
theorem dX8_comesOut_27 : decode cX8_comesOut 27 = .ok (.getfield 9, 3) := by decide +kernel
theorem dX8_comesOut_30 : decode cX8_comesOut 30 = .ok (.iload_n 1, 1) := by decide +kernel
theorem dX8_comesOut_31 : decode cX8_comesOut 31 = .ok (.iaload, 1) := by decide +kernel
theorem dX8_comesOut_32 : decode cX8_comesOut 32 = .ok (.iconst 5, 1) := by decide +kernel
theorem dX8_comesOut_33 : decode cX8_comesOut 33 = .ok (.if_icmp .ne 10, 3) := by decide +kernel
theorem dX8_comesOut_36 : decode cX8_comesOut 36 = .ok (.aload_n 0, 1) := by decide +kernel
theorem dX8_comesOut_37 : decode cX8_comesOut 37 = .ok (.iload_n 1, 1) := by decide +kernel
theorem dX8_comesOut_38 : decode cX8_comesOut 38 = .ok (.iload_n 2, 1) := by decide +kernel
theorem dX8_comesOut_39 : decode cX8_comesOut 39 = .ok (.invokevirtual 69, 3) := by decide +kernel
theorem dX8_comesOut_42 : decode cX8_comesOut 42 = .ok (.pop, 1) := by decide +kernel
theorem dX8_comesOut_43 : decode cX8_comesOut 43 = .ok (.iconst 1, 1) := by decide +kernel
theorem dX8_comesOut_44 : decode cX8_comesOut 44 = .ok (.ireturn, 1) := by decide +kernel
theorem dX8_shareOnce_0 : decode cX8_shareOnce 0 = .ok (.iload_n 1, 1) := by decide +kernel
theorem dX8_shareOnce_1 : decode cX8_shareOnce 1 = .ok (.iload_n 2, 1) := by decide +kernel
theorem dX8_shareOnce_2 : decode cX8_shareOnce 2 = .ok (.aload_n 0, 1) := by decide +kernel
theorem dX8_shareOnce_3 : decode cX8_shareOnce 3 = .ok (.getfield 36, 3) := by decide +kernel
theorem dX8_shareOnce_6 : decode cX8_shareOnce 6 = .ok (.invokestatic 59, 3) := by decide +kernel
theorem dX8_shareOnce_9 : decode cX8_shareOnce 9 = .ok (.istore_n 3, 1) := by decide +kernel
theorem dX8_shareOnce_10 : decode cX8_shareOnce 10 = .ok (.iload_n 3, 1) := by decide +kernel
theorem dX8_shareOnce_11 : decode cX8_shareOnce 11 = .ok (.ifCond .ge 5, 3) := by decide +kernel
theorem dX8_shareOnce_14 : decode cX8_shareOnce 14 = .ok (.iconst 0, 1) := by decide +kernel
theorem dX8_shareOnce_15 : decode cX8_shareOnce 15 = .ok (.ireturn, 1) := by decide +kernel
theorem dX8_shareOnce_16 : decode cX8_shareOnce 16 = .ok (.aload_n 0, 1) := by decide +kernel
theorem dX8_shareOnce_17 : decode cX8_shareOnce 17 = .ok (.getfield 36, 3) := by decide +kernel
theorem dX8_shareOnce_20 : decode cX8_shareOnce 20 = .ok (.aload_n 0, 1) := by decide +kernel
theorem dX8_shareOnce_21 : decode cX8_shareOnce 21 = .ok (.getfield 30, 3) := by decide +kernel
theorem dX8_shareOnce_24 : decode cX8_shareOnce 24 = .ok (.iload_n 3, 1) := by decide +kernel
theorem dX8_shareOnce_25 : decode cX8_shareOnce 25 = .ok (.iaload, 1) := by decide +kernel
theorem dX8_shareOnce_26 : decode cX8_shareOnce 26 = .ok (.isub, 1) := by decide +kernel
theorem dX8_shareOnce_27 : decode cX8_shareOnce 27 = .ok (.istore 4, 2) := by decide +kernel
theorem dX8_shareOnce_29 : decode cX8_shareOnce 29 = .ok (.aload_n 0, 1) := by decide +kernel
theorem dX8_shareOnce_30 : decode cX8_shareOnce 30 = .ok (.getfield 18, 3) := by decide +kernel
theorem dX8_shareOnce_33 : decode cX8_shareOnce 33 = .ok (.iload_n 1, 1) := by decide +kernel
theorem dX8_shareOnce_34 : decode cX8_shareOnce 34 = .ok (.iaload, 1) := by decide +kernel
theorem dX8_shareOnce_35 : decode cX8_shareOnce 35 = .ok (.istore 5, 2) := by decide +kernel
theorem dX8_shareOnce_37 : decode cX8_shareOnce 37 = .ok (.iload 4, 2) := by decide +kernel
theorem dX8_shareOnce_39 : decode cX8_shareOnce 39 = .ok (.ifCond .lt 17, 3) := by decide +kernel
theorem dX8_shareOnce_42 : decode cX8_shareOnce 42 = .ok (.iload 5, 2) := by decide +kernel
theorem dX8_shareOnce_44 : decode cX8_shareOnce 44 = .ok (.iconst 1, 1) := by decide +kernel
theorem dX8_shareOnce_45 : decode cX8_shareOnce 45 = .ok (.if_icmp .lt 11, 3) := by decide +kernel
theorem dX8_shareOnce_48 : decode cX8_shareOnce 48 = .ok (.iload 4, 2) := by decide +kernel
theorem dX8_shareOnce_50 : decode cX8_shareOnce 50 = .ok (.iload 5, 2) := by decide +kernel
theorem dX8_shareOnce_52 : decode cX8_shareOnce 52 = .ok (.irem, 1) := by decide +kernel
theorem dX8_shareOnce_53 : decode cX8_shareOnce 53 = .ok (.ifCond .eq 5, 3) := by decide +kernel
theorem dX8_shareOnce_56 : decode cX8_shareOnce 56 = .ok (.iconst 0, 1) := by decide +kernel
theorem dX8_shareOnce_57 : decode cX8_shareOnce 57 = .ok (.ireturn, 1) := by decide +kernel
theorem dX8_shareOnce_58 : decode cX8_shareOnce 58 = .ok (.aload_n 0, 1) := by decide +kernel
theorem dX8_shareOnce_59 : decode cX8_shareOnce 59 = .ok (.getfield 9, 3) := by decide +kernel
theorem dX8_shareOnce_62 : decode cX8_shareOnce 62 = .ok (.iload_n 1, 1) := by decide +kernel
theorem dX8_shareOnce_63 : decode cX8_shareOnce 63 = .ok (.iaload, 1) := by decide +kernel
theorem dX8_shareOnce_64 : decode cX8_shareOnce 64 = .ok (.iload 4, 2) := by decide +kernel
theorem dX8_shareOnce_66 : decode cX8_shareOnce 66 = .ok (.iload 4, 2) := by decide +kernel
theorem dX8_shareOnce_68 : decode cX8_shareOnce 68 = .ok (.iload 5, 2) := by decide +kernel
theorem dX8_shareOnce_70 : decode cX8_shareOnce 70 = .ok (.idiv, 1) := by decide +kernel
theorem dX8_shareOnce_71 : decode cX8_shareOnce 71 = .ok (.aload_n 0, 1) := by decide +kernel
theorem dX8_shareOnce_72 : decode cX8_shareOnce 72 = .ok (.getfield 33, 3) := by decide +kernel
theorem dX8_shareOnce_75 : decode cX8_shareOnce 75 = .ok (.iload_n 3, 1) := by decide +kernel
theorem dX8_shareOnce_76 : decode cX8_shareOnce 76 = .ok (.iaload, 1) := by decide +kernel
theorem dX8_shareOnce_77 : decode cX8_shareOnce 77 = .ok (.invokestatic 73, 3) := by decide +kernel
theorem dX8_shareOnce_80 : decode cX8_shareOnce 80 = .ok (.istore 6, 2) := by decide +kernel
theorem dX8_shareOnce_82 : decode cX8_shareOnce 82 = .ok (.aload_n 0, 1) := by decide +kernel
theorem dX8_shareOnce_83 : decode cX8_shareOnce 83 = .ok (.dup, 1) := by decide +kernel
theorem dX8_shareOnce_84 : decode cX8_shareOnce 84 = .ok (.getfield 39, 3) := by decide +kernel
theorem dX8_shareOnce_87 : decode cX8_shareOnce 87 = .ok (.aload_n 0, 1) := by decide +kernel
theorem dX8_shareOnce_88 : decode cX8_shareOnce 88 = .ok (.getfield 30, 3) := by decide +kernel
theorem dX8_shareOnce_91 : decode cX8_shareOnce 91 = .ok (.iload_n 3, 1) := by decide +kernel
theorem dX8_shareOnce_92 : decode cX8_shareOnce 92 = .ok (.iaload, 1) := by decide +kernel
theorem dX8_shareOnce_93 : decode cX8_shareOnce 93 = .ok (.iadd, 1) := by decide +kernel
theorem dX8_shareOnce_94 : decode cX8_shareOnce 94 = .ok (.putfield 39, 3) := by decide +kernel
theorem dX8_shareOnce_97 : decode cX8_shareOnce 97 = .ok (.aload_n 0, 1) := by decide +kernel
theorem dX8_shareOnce_98 : decode cX8_shareOnce 98 = .ok (.dup, 1) := by decide +kernel
theorem dX8_shareOnce_99 : decode cX8_shareOnce 99 = .ok (.getfield 42, 3) := by decide +kernel
theorem dX8_shareOnce_102 : decode cX8_shareOnce 102 = .ok (.iload 6, 2) := by decide +kernel
theorem dX8_shareOnce_104 : decode cX8_shareOnce 104 = .ok (.iadd, 1) := by decide +kernel
theorem dX8_shareOnce_105 : decode cX8_shareOnce 105 = .ok (.putfield 42, 3) := by decide +kernel
theorem dX8_shareOnce_108 : decode cX8_shareOnce 108 = .ok (.aload_n 0, 1) := by decide +kernel
theorem dX8_shareOnce_109 : decode cX8_shareOnce 109 = .ok (.iload 4, 2) := by decide +kernel
theorem dX8_shareOnce_111 : decode cX8_shareOnce 111 = .ok (.iload 6, 2) := by decide +kernel
theorem dX8_shareOnce_113 : decode cX8_shareOnce 113 = .ok (.isub, 1) := by decide +kernel
theorem dX8_shareOnce_114 : decode cX8_shareOnce 114 = .ok (.putfield 36, 3) := by decide +kernel
theorem dX8_shareOnce_117 : decode cX8_shareOnce 117 = .ok (.iconst 1, 1) := by decide +kernel
theorem dX8_shareOnce_118 : decode cX8_shareOnce 118 = .ok (.ireturn, 1) := by decide +kernel
theorem dX8_hiddenOf_0 : decode cX8_hiddenOf 0 = .ok (.iload_n 0, 1) := by decide +kernel
theorem dX8_hiddenOf_1 : decode cX8_hiddenOf 1 = .ok (.tableswitch 55 2 6 #[37, 55, 35, 37, 47], 35) := by decide +kernel
theorem dX8_hiddenOf_36 : decode cX8_hiddenOf 36 = .ok (.iconst 0, 1) := by decide +kernel
theorem dX8_hiddenOf_37 : decode cX8_hiddenOf 37 = .ok (.ireturn, 1) := by decide +kernel
theorem dX8_hiddenOf_38 : decode cX8_hiddenOf 38 = .ok (.iconst 2, 1) := by decide +kernel
theorem dX8_hiddenOf_39 : decode cX8_hiddenOf 39 = .ok (.iload_n 2, 1) := by decide +kernel
theorem dX8_hiddenOf_40 : decode cX8_hiddenOf 40 = .ok (.imul, 1) := by decide +kernel
theorem dX8_hiddenOf_41 : decode cX8_hiddenOf 41 = .ok (.iload_n 3, 1) := by decide +kernel
theorem dX8_hiddenOf_42 : decode cX8_hiddenOf 42 = .ok (.isub, 1) := by decide +kernel
theorem dX8_hiddenOf_43 : decode cX8_hiddenOf 43 = .ok (.iconst 0, 1) := by decide +kernel
theorem dX8_hiddenOf_44 : decode cX8_hiddenOf 44 = .ok (.invokestatic 77, 3) := by decide +kernel
theorem dX8_hiddenOf_47 : decode cX8_hiddenOf 47 = .ok (.ireturn, 1) := by decide +kernel
theorem dX8_hiddenOf_48 : decode cX8_hiddenOf 48 = .ok (.iload_n 2, 1) := by decide +kernel
theorem dX8_hiddenOf_49 : decode cX8_hiddenOf 49 = .ok (.iload_n 3, 1) := by decide +kernel
theorem dX8_hiddenOf_50 : decode cX8_hiddenOf 50 = .ok (.iadd, 1) := by decide +kernel
theorem dX8_hiddenOf_51 : decode cX8_hiddenOf 51 = .ok (.iload_n 1, 1) := by decide +kernel
theorem dX8_hiddenOf_52 : decode cX8_hiddenOf 52 = .ok (.invokestatic 83, 3) := by decide +kernel
theorem dX8_hiddenOf_55 : decode cX8_hiddenOf 55 = .ok (.ireturn, 1) := by decide +kernel
theorem dX8_hiddenOf_56 : decode cX8_hiddenOf 56 = .ok (.iload_n 2, 1) := by decide +kernel
theorem dX8_hiddenOf_57 : decode cX8_hiddenOf 57 = .ok (.iload_n 3, 1) := by decide +kernel
theorem dX8_hiddenOf_58 : decode cX8_hiddenOf 58 = .ok (.isub, 1) := by decide +kernel
theorem dX8_hiddenOf_59 : decode cX8_hiddenOf 59 = .ok (.iconst 0, 1) := by decide +kernel
theorem dX8_hiddenOf_60 : decode cX8_hiddenOf 60 = .ok (.invokestatic 77, 3) := by decide +kernel
theorem dX8_hiddenOf_63 : decode cX8_hiddenOf 63 = .ok (.ireturn, 1) := by decide +kernel
theorem dX9_init_0 : decode cX9_init 0 = .ok (.aload_n 0, 1) := by decide +kernel
theorem dX9_init_1 : decode cX9_init 1 = .ok (.invokespecial 3, 3) := by decide +kernel
theorem dX9_init_4 : decode cX9_init 4 = .ok (.aload_n 0, 1) := by decide +kernel
theorem dX9_init_5 : decode cX9_init 5 = .ok (.new 9, 3) := by decide +kernel
theorem dX9_init_8 : decode cX9_init 8 = .ok (.dup, 1) := by decide +kernel
theorem dX9_init_9 : decode cX9_init 9 = .ok (.invokespecial 11, 3) := by decide +kernel
theorem dX9_init_12 : decode cX9_init 12 = .ok (.putfield 12, 3) := by decide +kernel
theorem dX9_init_15 : decode cX9_init 15 = .ok (.aload_n 0, 1) := by decide +kernel
theorem dX9_init_16 : decode cX9_init 16 = .ok (.new 9, 3) := by decide +kernel
theorem dX9_init_19 : decode cX9_init 19 = .ok (.dup, 1) := by decide +kernel
theorem dX9_init_20 : decode cX9_init 20 = .ok (.invokespecial 11, 3) := by decide +kernel
theorem dX9_init_23 : decode cX9_init 23 = .ok (.putfield 18, 3) := by decide +kernel
theorem dX9_init_26 : decode cX9_init 26 = .ok (.aload_n 0, 1) := by decide +kernel
theorem dX9_init_27 : decode cX9_init 27 = .ok (.iconst 0, 1) := by decide +kernel
theorem dX9_init_28 : decode cX9_init 28 = .ok (.putfield 21, 3) := by decide +kernel
theorem dX9_init_31 : decode cX9_init 31 = .ok (.aload_n 0, 1) := by decide +kernel
theorem dX9_init_32 : decode cX9_init 32 = .ok (.new 25, 3) := by decide +kernel
theorem dX9_init_35 : decode cX9_init 35 = .ok (.dup, 1) := by decide +kernel
theorem dX9_init_36 : decode cX9_init 36 = .ok (.invokespecial 27, 3) := by decide +kernel
theorem dX9_init_39 : decode cX9_init 39 = .ok (.putfield 28, 3) := by decide +kernel
theorem dX9_init_42 : decode cX9_init 42 = .ok (.aload_n 0, 1) := by decide +kernel
theorem dX9_init_43 : decode cX9_init 43 = .ok (.new 32, 3) := by decide +kernel
theorem dX9_init_46 : decode cX9_init 46 = .ok (.dup, 1) := by decide +kernel
theorem dX9_init_47 : decode cX9_init 47 = .ok (.invokespecial 34, 3) := by decide +kernel
theorem dX9_init_50 : decode cX9_init 50 = .ok (.putfield 35, 3) := by decide +kernel
theorem dX9_init_53 : decode cX9_init 53 = .ok (.aload_n 0, 1) := by decide +kernel
theorem dX9_init_54 : decode cX9_init 54 = .ok (.bipush 6, 2) := by decide +kernel
theorem dX9_init_56 : decode cX9_init 56 = .ok (.anewarray 32, 3) := by decide +kernel
theorem dX9_init_59 : decode cX9_init 59 = .ok (.putfield 39, 3) := by decide +kernel
theorem dX9_init_62 : decode cX9_init 62 = .ok (.aload_n 0, 1) := by decide +kernel
theorem dX9_init_63 : decode cX9_init 63 = .ok (.iconst 0, 1) := by decide +kernel
theorem dX9_init_64 : decode cX9_init 64 = .ok (.putfield 43, 3) := by decide +kernel
theorem dX9_init_67 : decode cX9_init 67 = .ok (.aload_n 0, 1) := by decide +kernel
theorem dX9_init_68 : decode cX9_init 68 = .ok (.new 47, 3) := by decide +kernel
theorem dX9_init_71 : decode cX9_init 71 = .ok (.dup, 1) := by decide +kernel
theorem dX9_init_72 : decode cX9_init 72 = .ok (.invokespecial 49, 3) := by decide +kernel
theorem dX9_init_75 : decode cX9_init 75 = .ok (.putfield 50, 3) := by decide +kernel
theorem dX9_init_78 : decode cX9_init 78 = .ok (.aload_n 0, 1) := by decide +kernel
theorem dX9_init_79 : decode cX9_init 79 = .ok (.new 54, 3) := by decide +kernel
theorem dX9_init_82 : decode cX9_init 82 = .ok (.dup, 1) := by decide +kernel
theorem dX9_init_83 : decode cX9_init 83 = .ok (.invokespecial 56, 3) := by decide +kernel
theorem dX9_init_86 : decode cX9_init 86 = .ok (.putfield 57, 3) := by decide +kernel
theorem dX9_init_89 : decode cX9_init 89 = .ok (.aload_n 0, 1) := by decide +kernel
theorem dX9_init_90 : decode cX9_init 90 = .ok (.new 61, 3) := by decide +kernel
theorem dX9_init_93 : decode cX9_init 93 = .ok (.dup, 1) := by decide +kernel
theorem dX9_init_94 : decode cX9_init 94 = .ok (.invokespecial 63, 3) := by decide +kernel
theorem dX9_init_97 : decode cX9_init 97 = .ok (.putfield 64, 3) := by decide +kernel
theorem dX9_init_100 : decode cX9_init 100 = .ok (.aload_n 0, 1) := by decide +kernel
theorem dX9_init_101 : decode cX9_init 101 = .ok (.new 68, 3) := by decide +kernel
theorem dX9_init_104 : decode cX9_init 104 = .ok (.dup, 1) := by decide +kernel
theorem dX9_init_105 : decode cX9_init 105 = .ok (.invokespecial 70, 3) := by decide +kernel
theorem dX9_init_108 : decode cX9_init 108 = .ok (.putfield 71, 3) := by decide +kernel
theorem dX9_init_111 : decode cX9_init 111 = .ok (.aload_n 0, 1) := by decide +kernel
theorem dX9_init_112 : decode cX9_init 112 = .ok (.new 75, 3) := by decide +kernel
theorem dX9_init_115 : decode cX9_init 115 = .ok (.dup, 1) := by decide +kernel
theorem dX9_init_116 : decode cX9_init 116 = .ok (.invokespecial 77, 3) := by decide +kernel
theorem dX9_init_119 : decode cX9_init 119 = .ok (.putfield 78, 3) := by decide +kernel
theorem dX9_init_122 : decode cX9_init 122 = .ok (.aload_n 0, 1) := by decide +kernel
theorem dX9_init_123 : decode cX9_init 123 = .ok (.bipush 6, 2) := by decide +kernel
theorem dX9_init_125 : decode cX9_init 125 = .ok (.anewarray 82, 3) := by decide +kernel
theorem dX9_init_128 : decode cX9_init 128 = .ok (.putfield 84, 3) := by decide +kernel
theorem dX9_init_131 : decode cX9_init 131 = .ok (.iconst 0, 1) := by decide +kernel
theorem dX9_init_132 : decode cX9_init 132 = .ok (.istore_n 1, 1) := by decide +kernel
theorem dX9_init_133 : decode cX9_init 133 = .ok (.iload_n 1, 1) := by decide +kernel
theorem dX9_init_134 : decode cX9_init 134 = .ok (.bipush 6, 2) := by decide +kernel
theorem dX9_init_136 : decode cX9_init 136 = .ok (.if_icmp .ge 22, 3) := by decide +kernel
theorem dX9_init_139 : decode cX9_init 139 = .ok (.aload_n 0, 1) := by decide +kernel
theorem dX9_init_140 : decode cX9_init 140 = .ok (.getfield 39, 3) := by decide +kernel
theorem dX9_init_143 : decode cX9_init 143 = .ok (.iload_n 1, 1) := by decide +kernel
theorem dX9_init_144 : decode cX9_init 144 = .ok (.new 32, 3) := by decide +kernel
theorem dX9_init_147 : decode cX9_init 147 = .ok (.dup, 1) := by decide +kernel
theorem dX9_init_148 : decode cX9_init 148 = .ok (.invokespecial 34, 3) := by decide +kernel
theorem dX9_init_151 : decode cX9_init 151 = .ok (.aastore, 1) := by decide +kernel
theorem dX9_init_152 : decode cX9_init 152 = .ok (.iinc 1 1, 3) := by decide +kernel
theorem dX9_init_155 : decode cX9_init 155 = .ok (.goto (-22), 3) := by decide +kernel
theorem dX9_init_158 : decode cX9_init 158 = .ok (.iconst 0, 1) := by decide +kernel
theorem dX9_init_159 : decode cX9_init 159 = .ok (.istore_n 1, 1) := by decide +kernel
theorem dX9_init_160 : decode cX9_init 160 = .ok (.iload_n 1, 1) := by decide +kernel
theorem dX9_init_161 : decode cX9_init 161 = .ok (.bipush 6, 2) := by decide +kernel
theorem dX9_init_163 : decode cX9_init 163 = .ok (.if_icmp .ge 22, 3) := by decide +kernel
theorem dX9_init_166 : decode cX9_init 166 = .ok (.aload_n 0, 1) := by decide +kernel
theorem dX9_init_167 : decode cX9_init 167 = .ok (.getfield 84, 3) := by decide +kernel
theorem dX9_init_170 : decode cX9_init 170 = .ok (.iload_n 1, 1) := by decide +kernel
theorem dX9_init_171 : decode cX9_init 171 = .ok (.new 82, 3) := by decide +kernel
theorem dX9_init_174 : decode cX9_init 174 = .ok (.dup, 1) := by decide +kernel
theorem dX9_init_175 : decode cX9_init 175 = .ok (.invokespecial 88, 3) := by decide +kernel
theorem dX9_init_178 : decode cX9_init 178 = .ok (.aastore, 1) := by decide +kernel
theorem dX9_init_179 : decode cX9_init 179 = .ok (.iinc 1 1, 3) := by decide +kernel
theorem dX9_init_182 : decode cX9_init 182 = .ok (.goto (-22), 3) := by decide +kernel
theorem dX9_init_185 : decode cX9_init 185 = .ok (.return_, 1) := by decide +kernel
theorem dX9_man_0 : decode cX9_man 0 = .ok (.iload_n 1, 1) := by decide +kernel
theorem dX9_man_1 : decode cX9_man 1 = .ok (.ifCond .lt 9, 3) := by decide +kernel
theorem dX9_man_4 : decode cX9_man 4 = .ok (.iload_n 1, 1) := by decide +kernel
theorem dX9_man_5 : decode cX9_man 5 = .ok (.bipush 7, 2) := by decide +kernel
theorem dX9_man_7 : decode cX9_man 7 = .ok (.if_icmp .lt 5, 3) := by decide +kernel
theorem dX9_man_10 : decode cX9_man 10 = .ok (.iconst (-1), 1) := by decide +kernel
theorem dX9_man_11 : decode cX9_man 11 = .ok (.ireturn, 1) := by decide +kernel
theorem dX9_man_12 : decode cX9_man 12 = .ok (.iload_n 2, 1) := by decide +kernel
theorem dX9_man_13 : decode cX9_man 13 = .ok (.ifCond .lt 9, 3) := by decide +kernel
theorem dX9_man_16 : decode cX9_man 16 = .ok (.iload_n 2, 1) := by decide +kernel
theorem dX9_man_17 : decode cX9_man 17 = .ok (.bipush 9, 2) := by decide +kernel
theorem dX9_man_19 : decode cX9_man 19 = .ok (.if_icmp .le 6, 3) := by decide +kernel
theorem dX9_man_22 : decode cX9_man 22 = .ok (.bipush (-2), 2) := by decide +kernel
theorem dX9_man_24 : decode cX9_man 24 = .ok (.ireturn, 1) := by decide +kernel
theorem dX9_man_25 : decode cX9_man 25 = .ok (.aload_n 0, 1) := by decide +kernel
theorem dX9_man_26 : decode cX9_man 26 = .ok (.getfield 12, 3) := by decide +kernel
theorem dX9_man_29 : decode cX9_man 29 = .ok (.getfield 89, 3) := by decide +kernel
theorem dX9_man_32 : decode cX9_man 32 = .ok (.istore_n 3, 1) := by decide +kernel
theorem dX9_man_33 : decode cX9_man 33 = .ok (.iload_n 3, 1) := by decide +kernel
theorem dX9_man_34 : decode cX9_man 34 = .ok (.ifCond .lt 9, 3) := by decide +kernel
theorem dX9_man_37 : decode cX9_man 37 = .ok (.iload_n 3, 1) := by decide +kernel
theorem dX9_man_38 : decode cX9_man 38 = .ok (.bipush 6, 2) := by decide +kernel
theorem dX9_man_40 : decode cX9_man 40 = .ok (.if_icmp .lt 6, 3) := by decide +kernel
theorem dX9_man_43 : decode cX9_man 43 = .ok (.bipush (-4), 2) := by decide +kernel
theorem dX9_man_45 : decode cX9_man 45 = .ok (.ireturn, 1) := by decide +kernel
theorem dX9_man_46 : decode cX9_man 46 = .ok (.aload_n 0, 1) := by decide +kernel
theorem dX9_man_47 : decode cX9_man 47 = .ok (.getfield 12, 3) := by decide +kernel
theorem dX9_man_50 : decode cX9_man 50 = .ok (.getfield 92, 3) := by decide +kernel
theorem dX9_man_53 : decode cX9_man 53 = .ok (.iload_n 3, 1) := by decide +kernel
theorem dX9_man_54 : decode cX9_man 54 = .ok (.iload_n 1, 1) := by decide +kernel
theorem dX9_man_55 : decode cX9_man 55 = .ok (.iastore, 1) := by decide +kernel
theorem dX9_man_56 : decode cX9_man 56 = .ok (.aload_n 0, 1) := by decide +kernel
theorem dX9_man_57 : decode cX9_man 57 = .ok (.getfield 12, 3) := by decide +kernel
theorem dX9_man_60 : decode cX9_man 60 = .ok (.getfield 96, 3) := by decide +kernel
theorem dX9_man_63 : decode cX9_man 63 = .ok (.iload_n 3, 1) := by decide +kernel
theorem dX9_man_64 : decode cX9_man 64 = .ok (.iload_n 2, 1) := by decide +kernel
theorem dX9_man_65 : decode cX9_man 65 = .ok (.iastore, 1) := by decide +kernel
theorem dX9_man_66 : decode cX9_man 66 = .ok (.aload_n 0, 1) := by decide +kernel
theorem dX9_man_67 : decode cX9_man 67 = .ok (.getfield 12, 3) := by decide +kernel
theorem dX9_man_70 : decode cX9_man 70 = .ok (.getfield 99, 3) := by decide +kernel
theorem dX9_man_73 : decode cX9_man 73 = .ok (.iload_n 3, 1) := by decide +kernel
theorem dX9_man_74 : decode cX9_man 74 = .ok (.iconst 0, 1) := by decide +kernel
theorem dX9_man_75 : decode cX9_man 75 = .ok (.iastore, 1) := by decide +kernel
theorem dX9_man_76 : decode cX9_man 76 = .ok (.aload_n 0, 1) := by decide +kernel
theorem dX9_man_77 : decode cX9_man 77 = .ok (.getfield 12, 3) := by decide +kernel
theorem dX9_man_80 : decode cX9_man 80 = .ok (.iload_n 3, 1) := by decide +kernel
theorem dX9_man_81 : decode cX9_man 81 = .ok (.iconst 1, 1) := by decide +kernel
theorem dX9_man_82 : decode cX9_man 82 = .ok (.iadd, 1) := by decide +kernel
theorem dX9_man_83 : decode cX9_man 83 = .ok (.putfield 89, 3) := by decide +kernel
theorem dX9_man_86 : decode cX9_man 86 = .ok (.iload_n 3, 1) := by decide +kernel
theorem dX9_man_87 : decode cX9_man 87 = .ok (.ireturn, 1) := by decide +kernel
theorem dX9_of_0 : decode cX9_of 0 = .ok (.aload_n 0, 1) := by decide +kernel
theorem dX9_of_1 : decode cX9_of 1 = .ok (.iload_n 1, 1) := by decide +kernel
theorem dX9_of_2 : decode cX9_of 2 = .ok (.invokevirtual 102, 3) := by decide +kernel
theorem dX9_of_5 : decode cX9_of 5 = .ok (.ifCond .ne 7, 3) := by decide +kernel
theorem dX9_of_8 : decode cX9_of 8 = .ok (.sipush (-10001), 3) := by decide +kernel
theorem dX9_of_11 : decode cX9_of 11 = .ok (.ireturn, 1) := by decide +kernel
theorem dX9_of_12 : decode cX9_of 12 = .ok (.iload_n 2, 1) := by decide +kernel
theorem dX9_of_13 : decode cX9_of 13 = .ok (.tableswitch 145 0 6 #[43, 53, 63, 73, 83, 101, 119], 43) := by decide +kernel
theorem dX9_of_56 : decode cX9_of 56 = .ok (.aload_n 0, 1) := by decide +kernel
theorem dX9_of_57 : decode cX9_of 57 = .ok (.getfield 12, 3) := by decide +kernel
theorem dX9_of_60 : decode cX9_of 60 = .ok (.getfield 92, 3) := by decide +kernel
theorem dX9_of_63 : decode cX9_of 63 = .ok (.iload_n 1, 1) := by decide +kernel
theorem dX9_of_64 : decode cX9_of 64 = .ok (.iaload, 1) := by decide +kernel
theorem dX9_of_65 : decode cX9_of 65 = .ok (.ireturn, 1) := by decide +kernel
theorem dX9_of_66 : decode cX9_of 66 = .ok (.aload_n 0, 1) := by decide +kernel
theorem dX9_of_67 : decode cX9_of 67 = .ok (.getfield 12, 3) := by decide +kernel
theorem dX9_of_70 : decode cX9_of 70 = .ok (.getfield 96, 3) := by decide +kernel
theorem dX9_of_73 : decode cX9_of 73 = .ok (.iload_n 1, 1) := by decide +kernel
theorem dX9_of_74 : decode cX9_of 74 = .ok (.iaload, 1) := by decide +kernel
theorem dX9_of_75 : decode cX9_of 75 = .ok (.ireturn, 1) := by decide +kernel
theorem dX9_of_76 : decode cX9_of 76 = .ok (.aload_n 0, 1) := by decide +kernel
theorem dX9_of_77 : decode cX9_of 77 = .ok (.getfield 12, 3) := by decide +kernel
theorem dX9_of_80 : decode cX9_of 80 = .ok (.getfield 99, 3) := by decide +kernel
theorem dX9_of_83 : decode cX9_of 83 = .ok (.iload_n 1, 1) := by decide +kernel
theorem dX9_of_84 : decode cX9_of 84 = .ok (.iaload, 1) := by decide +kernel
theorem dX9_of_85 : decode cX9_of 85 = .ok (.ireturn, 1) := by decide +kernel
theorem dX9_of_86 : decode cX9_of 86 = .ok (.aload_n 0, 1) := by decide +kernel
theorem dX9_of_87 : decode cX9_of 87 = .ok (.iload_n 1, 1) := by decide +kernel
theorem dX9_of_88 : decode cX9_of 88 = .ok (.invokevirtual 106, 3) := by decide +kernel
theorem dX9_of_91 : decode cX9_of 91 = .ok (.iload_n 1, 1) := by decide +kernel
theorem dX9_of_92 : decode cX9_of 92 = .ok (.invokevirtual 110, 3) := by decide +kernel
theorem dX9_of_95 : decode cX9_of 95 = .ok (.ireturn, 1) := by decide +kernel
theorem dX9_of_96 : decode cX9_of 96 = .ok (.aload_n 0, 1) := by decide +kernel
theorem dX9_of_97 : decode cX9_of 97 = .ok (.iload_n 1, 1) := by decide +kernel
theorem dX9_of_98 : decode cX9_of 98 = .ok (.invokevirtual 106, 3) := by decide +kernel
theorem dX9_of_101 : decode cX9_of 101 = .ok (.iload_n 1, 1) := by decide +kernel
theorem dX9_of_102 : decode cX9_of 102 = .ok (.iconst 0, 1) := by decide +kernel
theorem dX9_of_103 : decode cX9_of 103 = .ok (.aload_n 0, 1) := by decide +kernel
theorem dX9_of_104 : decode cX9_of 104 = .ok (.getfield 12, 3) := by decide +kernel
theorem dX9_of_107 : decode cX9_of 107 = .ok (.getfield 114, 3) := by decide +kernel
theorem dX9_of_110 : decode cX9_of 110 = .ok (.invokevirtual 117, 3) := by decide +kernel
theorem dX9_of_113 : decode cX9_of 113 = .ok (.ireturn, 1) := by decide +kernel
theorem dX9_of_114 : decode cX9_of 114 = .ok (.aload_n 0, 1) := by decide +kernel
theorem dX9_of_115 : decode cX9_of 115 = .ok (.iload_n 1, 1) := by decide +kernel
theorem dX9_of_116 : decode cX9_of 116 = .ok (.invokevirtual 106, 3) := by decide +kernel
theorem dX9_of_119 : decode cX9_of 119 = .ok (.iload_n 1, 1) := by decide +kernel
theorem dX9_of_120 : decode cX9_of 120 = .ok (.iconst 0, 1) := by decide +kernel
theorem dX9_of_121 : decode cX9_of 121 = .ok (.aload_n 0, 1) := by decide +kernel
theorem dX9_of_122 : decode cX9_of 122 = .ok (.getfield 12, 3) := by decide +kernel
theorem dX9_of_125 : decode cX9_of 125 = .ok (.getfield 114, 3) := by decide +kernel
theorem dX9_of_128 : decode cX9_of 128 = .ok (.invokevirtual 121, 3) := by decide +kernel
theorem dX9_of_131 : decode cX9_of 131 = .ok (.ireturn, 1) := by decide +kernel
theorem dX9_of_132 : decode cX9_of 132 = .ok (.aload_n 0, 1) := by decide +kernel
theorem dX9_of_133 : decode cX9_of 133 = .ok (.iload_n 1, 1) := by decide +kernel
theorem dX9_of_134 : decode cX9_of 134 = .ok (.invokevirtual 106, 3) := by decide +kernel
theorem dX9_of_137 : decode cX9_of 137 = .ok (.iload_n 1, 1) := by decide +kernel
theorem dX9_of_138 : decode cX9_of 138 = .ok (.iconst 0, 1) := by decide +kernel
theorem dX9_of_139 : decode cX9_of 139 = .ok (.aload_n 0, 1) := by decide +kernel
theorem dX9_of_140 : decode cX9_of 140 = .ok (.getfield 12, 3) := by decide +kernel
theorem dX9_of_143 : decode cX9_of 143 = .ok (.getfield 114, 3) := by decide +kernel
theorem dX9_of_146 : decode cX9_of 146 = .ok (.invokevirtual 124, 3) := by decide +kernel
theorem dX9_of_149 : decode cX9_of 149 = .ok (.ifCond .eq 7, 3) := by decide +kernel
theorem dX9_of_152 : decode cX9_of 152 = .ok (.iconst 1, 1) := by decide +kernel
theorem dX9_of_153 : decode cX9_of 153 = .ok (.goto 4, 3) := by decide +kernel
theorem dX9_of_156 : decode cX9_of 156 = .ok (.iconst 0, 1) := by decide +kernel
theorem dX9_of_157 : decode cX9_of 157 = .ok (.ireturn, 1) := by decide +kernel
theorem dX9_of_158 : decode cX9_of 158 = .ok (.sipush (-10001), 3) := by decide +kernel
theorem dX9_of_161 : decode cX9_of 161 = .ok (.ireturn, 1) := by decide +kernel
theorem dX9_heap_0 : decode cX9_heap 0 = .ok (.iload_n 1, 1) := by decide +kernel
theorem dX9_heap_1 : decode cX9_heap 1 = .ok (.invokestatic 128, 3) := by decide +kernel
theorem dX9_heap_4 : decode cX9_heap 4 = .ok (.ifCond .ne 6, 3) := by decide +kernel
theorem dX9_heap_7 : decode cX9_heap 7 = .ok (.bipush (-2), 2) := by decide +kernel
theorem dX9_heap_9 : decode cX9_heap 9 = .ok (.ireturn, 1) := by decide +kernel
theorem dX9_heap_10 : decode cX9_heap 10 = .ok (.aload_n 0, 1) := by decide +kernel
theorem dX9_heap_11 : decode cX9_heap 11 = .ok (.getfield 12, 3) := by decide +kernel
theorem dX9_heap_14 : decode cX9_heap 14 = .ok (.getfield 114, 3) := by decide +kernel
theorem dX9_heap_17 : decode cX9_heap 17 = .ok (.istore_n 2, 1) := by decide +kernel
theorem dX9_heap_18 : decode cX9_heap 18 = .ok (.aload_n 0, 1) := by decide +kernel
theorem dX9_heap_19 : decode cX9_heap 19 = .ok (.getfield 12, 3) := by decide +kernel
theorem dX9_heap_22 : decode cX9_heap 22 = .ok (.iload_n 1, 1) := by decide +kernel
theorem dX9_heap_23 : decode cX9_heap 23 = .ok (.putfield 114, 3) := by decide +kernel
theorem dX9_heap_26 : decode cX9_heap 26 = .ok (.iload_n 2, 1) := by decide +kernel
theorem dX9_heap_27 : decode cX9_heap 27 = .ok (.ireturn, 1) := by decide +kernel
theorem dX9_feed_0 : decode cX9_feed 0 = .ok (.iload_n 1, 1) := by decide +kernel
theorem dX9_feed_1 : decode cX9_feed 1 = .ok (.ifCond .lt 9, 3) := by decide +kernel
theorem dX9_feed_4 : decode cX9_feed 4 = .ok (.iload_n 1, 1) := by decide +kernel
theorem dX9_feed_5 : decode cX9_feed 5 = .ok (.bipush 127, 2) := by decide +kernel
theorem dX9_feed_7 : decode cX9_feed 7 = .ok (.if_icmp .le 6, 3) := by decide +kernel
theorem dX9_feed_10 : decode cX9_feed 10 = .ok (.bipush (-2), 2) := by decide +kernel
theorem dX9_feed_12 : decode cX9_feed 12 = .ok (.ireturn, 1) := by decide +kernel
theorem dX9_feed_13 : decode cX9_feed 13 = .ok (.aload_n 0, 1) := by decide +kernel
theorem dX9_feed_14 : decode cX9_feed 14 = .ok (.getfield 28, 3) := by decide +kernel
theorem dX9_feed_17 : decode cX9_feed 17 = .ok (.iload_n 1, 1) := by decide +kernel
theorem dX9_feed_18 : decode cX9_feed 18 = .ok (.invokevirtual 131, 3) := by decide +kernel
theorem dX9_feed_21 : decode cX9_feed 21 = .ok (.ifCond .eq 13, 3) := by decide +kernel
theorem dX9_feed_24 : decode cX9_feed 24 = .ok (.aload_n 0, 1) := by decide +kernel
theorem dX9_feed_25 : decode cX9_feed 25 = .ok (.getfield 28, 3) := by decide +kernel
theorem dX9_feed_28 : decode cX9_feed 28 = .ok (.invokevirtual 134, 3) := by decide +kernel
theorem dX9_feed_31 : decode cX9_feed 31 = .ok (.goto 5, 3) := by decide +kernel
theorem dX9_feed_34 : decode cX9_feed 34 = .ok (.bipush (-4), 2) := by decide +kernel
theorem dX9_feed_36 : decode cX9_feed 36 = .ok (.ireturn, 1) := by decide +kernel
theorem dX9_village_0 : decode cX9_village 0 = .ok (.aload_n 0, 1) := by decide +kernel
theorem dX9_village_1 : decode cX9_village 1 = .ok (.getfield 43, 3) := by decide +kernel
theorem dX9_village_4 : decode cX9_village 4 = .ok (.istore_n 1, 1) := by decide +kernel
theorem dX9_village_5 : decode cX9_village 5 = .ok (.iload_n 1, 1) := by decide +kernel
theorem dX9_village_6 : decode cX9_village 6 = .ok (.ifCond .lt 9, 3) := by decide +kernel
theorem dX9_village_9 : decode cX9_village 9 = .ok (.iload_n 1, 1) := by decide +kernel
theorem dX9_village_10 : decode cX9_village 10 = .ok (.bipush 6, 2) := by decide +kernel
theorem dX9_village_12 : decode cX9_village 12 = .ok (.if_icmp .lt 6, 3) := by decide +kernel
theorem dX9_village_15 : decode cX9_village 15 = .ok (.bipush (-4), 2) := by decide +kernel
theorem dX9_village_17 : decode cX9_village 17 = .ok (.ireturn, 1) := by decide +kernel
theorem dX9_village_18 : decode cX9_village 18 = .ok (.aload_n 0, 1) := by decide +kernel
theorem dX9_village_19 : decode cX9_village 19 = .ok (.getfield 39, 3) := by decide +kernel
theorem dX9_village_22 : decode cX9_village 22 = .ok (.iload_n 1, 1) := by decide +kernel
theorem dX9_village_23 : decode cX9_village 23 = .ok (.aaload, 1) := by decide +kernel
theorem dX9_village_24 : decode cX9_village 24 = .ok (.astore_n 2, 1) := by decide +kernel
theorem dX9_village_25 : decode cX9_village 25 = .ok (.aload_n 2, 1) := by decide +kernel
theorem dX9_village_26 : decode cX9_village 26 = .ok (.ifnonnull 6, 3) := by decide +kernel
theorem dX9_village_29 : decode cX9_village 29 = .ok (.bipush (-4), 2) := by decide +kernel
theorem dX9_village_31 : decode cX9_village 31 = .ok (.ireturn, 1) := by decide +kernel
theorem dX9_village_32 : decode cX9_village 32 = .ok (.aload_n 0, 1) := by decide +kernel
theorem dX9_village_33 : decode cX9_village 33 = .ok (.getfield 28, 3) := by decide +kernel
theorem dX9_village_36 : decode cX9_village 36 = .ok (.aload_n 2, 1) := by decide +kernel
theorem dX9_village_37 : decode cX9_village 37 = .ok (.invokevirtual 138, 3) := by decide +kernel
theorem dX9_village_40 : decode cX9_village 40 = .ok (.istore_n 3, 1) := by decide +kernel
theorem dX9_village_41 : decode cX9_village 41 = .ok (.aload_n 0, 1) := by decide +kernel
theorem dX9_village_42 : decode cX9_village 42 = .ok (.getfield 28, 3) := by decide +kernel
theorem dX9_village_45 : decode cX9_village 45 = .ok (.invokevirtual 142, 3) := by decide +kernel
theorem dX9_village_48 : decode cX9_village 48 = .ok (.iload_n 3, 1) := by decide +kernel
theorem dX9_village_49 : decode cX9_village 49 = .ok (.ifCond .lt 8, 3) := by decide +kernel
theorem dX9_village_52 : decode cX9_village 52 = .ok (.bipush (-10), 2) := by decide +kernel
theorem dX9_village_54 : decode cX9_village 54 = .ok (.iload_n 3, 1) := by decide +kernel
theorem dX9_village_55 : decode cX9_village 55 = .ok (.isub, 1) := by decide +kernel
theorem dX9_village_56 : decode cX9_village 56 = .ok (.ireturn, 1) := by decide +kernel
theorem dX9_village_57 : decode cX9_village 57 = .ok (.aload_n 0, 1) := by decide +kernel
theorem dX9_village_58 : decode cX9_village 58 = .ok (.getfield 12, 3) := by decide +kernel
theorem dX9_village_61 : decode cX9_village 61 = .ok (.iload_n 1, 1) := by decide +kernel
theorem dX9_village_62 : decode cX9_village 62 = .ok (.putfield 145, 3) := by decide +kernel
theorem dX9_village_65 : decode cX9_village 65 = .ok (.aload_n 0, 1) := by decide +kernel
theorem dX9_village_66 : decode cX9_village 66 = .ok (.iload_n 1, 1) := by decide +kernel
theorem dX9_village_67 : decode cX9_village 67 = .ok (.iconst 1, 1) := by decide +kernel
theorem dX9_village_68 : decode cX9_village 68 = .ok (.iadd, 1) := by decide +kernel
theorem dX9_village_69 : decode cX9_village 69 = .ok (.putfield 43, 3) := by decide +kernel
theorem dX9_village_72 : decode cX9_village 72 = .ok (.iload_n 1, 1) := by decide +kernel
theorem dX9_village_73 : decode cX9_village 73 = .ok (.ireturn, 1) := by decide +kernel
theorem dX9_told_0 : decode cX9_told 0 = .ok (.iload_n 1, 1) := by decide +kernel
theorem dX9_told_1 : decode cX9_told 1 = .ok (.tableswitch 75 0 4 #[35, 43, 51, 59, 67], 35) := by decide +kernel
theorem dX9_told_36 : decode cX9_told 36 = .ok (.aload_n 0, 1) := by decide +kernel
theorem dX9_told_37 : decode cX9_told 37 = .ok (.invokevirtual 148, 3) := by decide +kernel
theorem dX9_told_40 : decode cX9_told 40 = .ok (.getfield 152, 3) := by decide +kernel
theorem dX9_told_43 : decode cX9_told 43 = .ok (.ireturn, 1) := by decide +kernel
theorem dX9_told_44 : decode cX9_told 44 = .ok (.aload_n 0, 1) := by decide +kernel
theorem dX9_told_45 : decode cX9_told 45 = .ok (.invokevirtual 148, 3) := by decide +kernel
theorem dX9_told_48 : decode cX9_told 48 = .ok (.getfield 155, 3) := by decide +kernel
theorem dX9_told_51 : decode cX9_told 51 = .ok (.ireturn, 1) := by decide +kernel
theorem dX9_told_52 : decode cX9_told 52 = .ok (.aload_n 0, 1) := by decide +kernel
theorem dX9_told_53 : decode cX9_told 53 = .ok (.getfield 12, 3) := by decide +kernel
theorem dX9_told_56 : decode cX9_told 56 = .ok (.getfield 114, 3) := by decide +kernel
theorem dX9_told_59 : decode cX9_told 59 = .ok (.ireturn, 1) := by decide +kernel
theorem dX9_told_60 : decode cX9_told 60 = .ok (.aload_n 0, 1) := by decide +kernel
theorem dX9_told_61 : decode cX9_told 61 = .ok (.getfield 12, 3) := by decide +kernel
theorem dX9_told_64 : decode cX9_told 64 = .ok (.getfield 158, 3) := by decide +kernel
theorem dX9_told_67 : decode cX9_told 67 = .ok (.ireturn, 1) := by decide +kernel
theorem dX9_told_68 : decode cX9_told 68 = .ok (.aload_n 0, 1) := by decide +kernel
theorem dX9_told_69 : decode cX9_told 69 = .ok (.getfield 12, 3) := by decide +kernel
theorem dX9_told_72 : decode cX9_told 72 = .ok (.getfield 161, 3) := by decide +kernel
theorem dX9_told_75 : decode cX9_told 75 = .ok (.ireturn, 1) := by decide +kernel
theorem dX9_told_76 : decode cX9_told 76 = .ok (.iconst (-1), 1) := by decide +kernel
theorem dX9_told_77 : decode cX9_told 77 = .ok (.ireturn, 1) := by decide +kernel
theorem dX9_wake_0 : decode cX9_wake 0 = .ok (.aload_n 0, 1) := by decide +kernel
theorem dX9_wake_1 : decode cX9_wake 1 = .ok (.iload_n 1, 1) := by decide +kernel
theorem dX9_wake_2 : decode cX9_wake 2 = .ok (.invokevirtual 102, 3) := by decide +kernel
theorem dX9_wake_5 : decode cX9_wake 5 = .ok (.ifCond .ne 5, 3) := by decide +kernel
theorem dX9_wake_8 : decode cX9_wake 8 = .ok (.iconst (-1), 1) := by decide +kernel
theorem dX9_wake_9 : decode cX9_wake 9 = .ok (.ireturn, 1) := by decide +kernel
theorem dX9_wake_10 : decode cX9_wake 10 = .ok (.aload_n 0, 1) := by decide +kernel
theorem dX9_wake_11 : decode cX9_wake 11 = .ok (.getfield 12, 3) := by decide +kernel
theorem dX9_wake_14 : decode cX9_wake 14 = .ok (.getfield 161, 3) := by decide +kernel
theorem dX9_wake_17 : decode cX9_wake 17 = .ok (.sipush 9999, 3) := by decide +kernel
theorem dX9_wake_20 : decode cX9_wake 20 = .ok (.if_icmp .lt 6, 3) := by decide +kernel
theorem dX9_wake_23 : decode cX9_wake 23 = .ok (.bipush (-3), 2) := by decide +kernel
theorem dX9_wake_25 : decode cX9_wake 25 = .ok (.ireturn, 1) := by decide +kernel
theorem dX9_wake_26 : decode cX9_wake 26 = .ok (.aload_n 0, 1) := by decide +kernel
theorem dX9_wake_27 : decode cX9_wake 27 = .ok (.iload_n 1, 1) := by decide +kernel
theorem dX9_wake_28 : decode cX9_wake 28 = .ok (.invokevirtual 106, 3) := by decide +kernel
theorem dX9_wake_31 : decode cX9_wake 31 = .ok (.astore_n 2, 1) := by decide +kernel
theorem dX9_wake_32 : decode cX9_wake 32 = .ok (.aload_n 2, 1) := by decide +kernel
theorem dX9_wake_33 : decode cX9_wake 33 = .ok (.iload_n 1, 1) := by decide +kernel
theorem dX9_wake_34 : decode cX9_wake 34 = .ok (.iconst 0, 1) := by decide +kernel
theorem dX9_wake_35 : decode cX9_wake 35 = .ok (.aload_n 0, 1) := by decide +kernel
theorem dX9_wake_36 : decode cX9_wake 36 = .ok (.getfield 12, 3) := by decide +kernel
theorem dX9_wake_39 : decode cX9_wake 39 = .ok (.getfield 114, 3) := by decide +kernel
theorem dX9_wake_42 : decode cX9_wake 42 = .ok (.invokevirtual 124, 3) := by decide +kernel
theorem dX9_wake_45 : decode cX9_wake 45 = .ok (.ifCond .ne 6, 3) := by decide +kernel
theorem dX9_wake_48 : decode cX9_wake 48 = .ok (.bipush (-3), 2) := by decide +kernel
theorem dX9_wake_50 : decode cX9_wake 50 = .ok (.ireturn, 1) := by decide +kernel
theorem dX9_wake_51 : decode cX9_wake 51 = .ok (.aload_n 0, 1) := by decide +kernel
theorem dX9_wake_52 : decode cX9_wake 52 = .ok (.getfield 12, 3) := by decide +kernel
theorem dX9_wake_55 : decode cX9_wake 55 = .ok (.aload_n 2, 1) := by decide +kernel
theorem dX9_wake_56 : decode cX9_wake 56 = .ok (.getfield 164, 3) := by decide +kernel
theorem dX9_wake_59 : decode cX9_wake 59 = .ok (.putfield 114, 3) := by decide +kernel
theorem dX9_wake_62 : decode cX9_wake 62 = .ok (.aload_n 0, 1) := by decide +kernel
theorem dX9_wake_63 : decode cX9_wake 63 = .ok (.getfield 12, 3) := by decide +kernel
theorem dX9_wake_66 : decode cX9_wake 66 = .ok (.dup, 1) := by decide +kernel
theorem dX9_wake_67 : decode cX9_wake 67 = .ok (.getfield 158, 3) := by decide +kernel
theorem dX9_wake_70 : decode cX9_wake 70 = .ok (.aload_n 2, 1) := by decide +kernel
theorem dX9_wake_71 : decode cX9_wake 71 = .ok (.getfield 167, 3) := by decide +kernel
theorem dX9_wake_74 : decode cX9_wake 74 = .ok (.iadd, 1) := by decide +kernel
theorem dX9_wake_75 : decode cX9_wake 75 = .ok (.putfield 158, 3) := by decide +kernel
theorem dX9_wake_78 : decode cX9_wake 78 = .ok (.aload_n 0, 1) := by decide +kernel
theorem dX9_wake_79 : decode cX9_wake 79 = .ok (.getfield 12, 3) := by decide +kernel
theorem dX9_wake_82 : decode cX9_wake 82 = .ok (.getfield 99, 3) := by decide +kernel
theorem dX9_wake_85 : decode cX9_wake 85 = .ok (.iload_n 1, 1) := by decide +kernel
theorem dX9_wake_86 : decode cX9_wake 86 = .ok (.dup2, 1) := by decide +kernel
theorem dX9_wake_87 : decode cX9_wake 87 = .ok (.iaload, 1) := by decide +kernel
theorem dX9_wake_88 : decode cX9_wake 88 = .ok (.aload_n 2, 1) := by decide +kernel
theorem dX9_wake_89 : decode cX9_wake 89 = .ok (.getfield 168, 3) := by decide +kernel
theorem dX9_wake_92 : decode cX9_wake 92 = .ok (.iadd, 1) := by decide +kernel
theorem dX9_wake_93 : decode cX9_wake 93 = .ok (.iastore, 1) := by decide +kernel
theorem dX9_wake_94 : decode cX9_wake 94 = .ok (.aload_n 0, 1) := by decide +kernel
theorem dX9_wake_95 : decode cX9_wake 95 = .ok (.getfield 12, 3) := by decide +kernel
theorem dX9_wake_98 : decode cX9_wake 98 = .ok (.dup, 1) := by decide +kernel
theorem dX9_wake_99 : decode cX9_wake 99 = .ok (.getfield 161, 3) := by decide +kernel
theorem dX9_wake_102 : decode cX9_wake 102 = .ok (.iconst 1, 1) := by decide +kernel
theorem dX9_wake_103 : decode cX9_wake 103 = .ok (.iadd, 1) := by decide +kernel
theorem dX9_wake_104 : decode cX9_wake 104 = .ok (.putfield 161, 3) := by decide +kernel
theorem dX9_wake_107 : decode cX9_wake 107 = .ok (.aload_n 2, 1) := by decide +kernel
theorem dX9_wake_108 : decode cX9_wake 108 = .ok (.getfield 168, 3) := by decide +kernel
theorem dX9_wake_111 : decode cX9_wake 111 = .ok (.ireturn, 1) := by decide +kernel
theorem dX9_row_0 : decode cX9_row 0 = .ok (.iload_n 1, 1) := by decide +kernel
theorem dX9_row_1 : decode cX9_row 1 = .ok (.iconst (-1), 1) := by decide +kernel
theorem dX9_row_2 : decode cX9_row 2 = .ok (.if_icmp .ne 13, 3) := by decide +kernel
theorem dX9_row_5 : decode cX9_row 5 = .ok (.aload_n 0, 1) := by decide +kernel
theorem dX9_row_6 : decode cX9_row 6 = .ok (.getfield 12, 3) := by decide +kernel
theorem dX9_row_9 : decode cX9_row 9 = .ok (.iconst 0, 1) := by decide +kernel
theorem dX9_row_10 : decode cX9_row 10 = .ok (.putfield 171, 3) := by decide +kernel
theorem dX9_row_13 : decode cX9_row 13 = .ok (.iconst 0, 1) := by decide +kernel
theorem dX9_row_14 : decode cX9_row 14 = .ok (.ireturn, 1) := by decide +kernel
theorem dX9_row_15 : decode cX9_row 15 = .ok (.aload_n 0, 1) := by decide +kernel
theorem dX9_row_16 : decode cX9_row 16 = .ok (.iload_n 1, 1) := by decide +kernel
theorem dX9_row_17 : decode cX9_row 17 = .ok (.invokevirtual 102, 3) := by decide +kernel
theorem dX9_row_20 : decode cX9_row 20 = .ok (.ifCond .ne 5, 3) := by decide +kernel
theorem dX9_row_23 : decode cX9_row 23 = .ok (.iconst (-1), 1) := by decide +kernel
theorem dX9_row_24 : decode cX9_row 24 = .ok (.ireturn, 1) := by decide +kernel
theorem dX9_row_25 : decode cX9_row 25 = .ok (.aload_n 0, 1) := by decide +kernel
theorem dX9_row_26 : decode cX9_row 26 = .ok (.getfield 12, 3) := by decide +kernel
theorem dX9_row_29 : decode cX9_row 29 = .ok (.getfield 171, 3) := by decide +kernel
theorem dX9_row_32 : decode cX9_row 32 = .ok (.istore_n 2, 1) := by decide +kernel
theorem dX9_row_33 : decode cX9_row 33 = .ok (.iload_n 2, 1) := by decide +kernel
theorem dX9_row_34 : decode cX9_row 34 = .ok (.ifCond .lt 9, 3) := by decide +kernel
theorem dX9_row_37 : decode cX9_row 37 = .ok (.iload_n 2, 1) := by decide +kernel
theorem dX9_row_38 : decode cX9_row 38 = .ok (.bipush 8, 2) := by decide +kernel
theorem dX9_row_40 : decode cX9_row 40 = .ok (.if_icmp .lt 6, 3) := by decide +kernel
theorem dX9_row_43 : decode cX9_row 43 = .ok (.bipush (-4), 2) := by decide +kernel
theorem dX9_row_45 : decode cX9_row 45 = .ok (.ireturn, 1) := by decide +kernel
theorem dX9_row_46 : decode cX9_row 46 = .ok (.aload_n 0, 1) := by decide +kernel
theorem dX9_row_47 : decode cX9_row 47 = .ok (.getfield 12, 3) := by decide +kernel
theorem dX9_row_50 : decode cX9_row 50 = .ok (.getfield 174, 3) := by decide +kernel
theorem dX9_row_53 : decode cX9_row 53 = .ok (.iload_n 2, 1) := by decide +kernel
theorem dX9_row_54 : decode cX9_row 54 = .ok (.iload_n 1, 1) := by decide +kernel
theorem dX9_row_55 : decode cX9_row 55 = .ok (.iastore, 1) := by decide +kernel
theorem dX9_row_56 : decode cX9_row 56 = .ok (.aload_n 0, 1) := by decide +kernel
theorem dX9_row_57 : decode cX9_row 57 = .ok (.getfield 12, 3) := by decide +kernel
theorem dX9_row_60 : decode cX9_row 60 = .ok (.iload_n 2, 1) := by decide +kernel
theorem dX9_row_61 : decode cX9_row 61 = .ok (.iconst 1, 1) := by decide +kernel
theorem dX9_row_62 : decode cX9_row 62 = .ok (.iadd, 1) := by decide +kernel
theorem dX9_row_63 : decode cX9_row 63 = .ok (.putfield 171, 3) := by decide +kernel
theorem dX9_row_66 : decode cX9_row 66 = .ok (.iload_n 2, 1) := by decide +kernel
theorem dX9_row_67 : decode cX9_row 67 = .ok (.iconst 1, 1) := by decide +kernel
theorem dX9_row_68 : decode cX9_row 68 = .ok (.iadd, 1) := by decide +kernel
theorem dX9_row_69 : decode cX9_row 69 = .ok (.ireturn, 1) := by decide +kernel
theorem dX9_night_0 : decode cX9_night 0 = .ok (.iload_n 1, 1) := by decide +kernel
theorem dX9_night_1 : decode cX9_night 1 = .ok (.invokestatic 128, 3) := by decide +kernel
theorem dX9_night_4 : decode cX9_night 4 = .ok (.ifCond .ne 6, 3) := by decide +kernel
theorem dX9_night_7 : decode cX9_night 7 = .ok (.bipush (-2), 2) := by decide +kernel
theorem dX9_night_9 : decode cX9_night 9 = .ok (.ireturn, 1) := by decide +kernel
theorem dX9_night_10 : decode cX9_night 10 = .ok (.aload_n 0, 1) := by decide +kernel
theorem dX9_night_11 : decode cX9_night 11 = .ok (.invokevirtual 177, 3) := by decide +kernel
theorem dX9_night_14 : decode cX9_night 14 = .ok (.iload_n 1, 1) := by decide +kernel
theorem dX9_night_15 : decode cX9_night 15 = .ok (.invokevirtual 181, 3) := by decide +kernel
theorem dX9_night_18 : decode cX9_night 18 = .ok (.ifCond .eq 7, 3) := by decide +kernel
theorem dX9_night_21 : decode cX9_night 21 = .ok (.iconst 1, 1) := by decide +kernel
theorem dX9_night_22 : decode cX9_night 22 = .ok (.goto 4, 3) := by decide +kernel
theorem dX9_night_25 : decode cX9_night 25 = .ok (.iconst 0, 1) := by decide +kernel
theorem dX9_night_26 : decode cX9_night 26 = .ok (.ireturn, 1) := by decide +kernel
theorem dX9_least_0 : decode cX9_least 0 = .ok (.iload_n 1, 1) := by decide +kernel
theorem dX9_least_1 : decode cX9_least 1 = .ok (.ifCond .lt 10, 3) := by decide +kernel
theorem dX9_least_4 : decode cX9_least 4 = .ok (.iload_n 1, 1) := by decide +kernel
theorem dX9_least_5 : decode cX9_least 5 = .ok (.sipush 9999, 3) := by decide +kernel
theorem dX9_least_8 : decode cX9_least 8 = .ok (.if_icmp .le 6, 3) := by decide +kernel
theorem dX9_least_11 : decode cX9_least 11 = .ok (.bipush (-2), 2) := by decide +kernel
theorem dX9_least_13 : decode cX9_least 13 = .ok (.ireturn, 1) := by decide +kernel
theorem dX9_least_14 : decode cX9_least 14 = .ok (.aload_n 0, 1) := by decide +kernel
theorem dX9_least_15 : decode cX9_least 15 = .ok (.invokevirtual 177, 3) := by decide +kernel
theorem dX9_least_18 : decode cX9_least 18 = .ok (.iload_n 1, 1) := by decide +kernel
theorem dX9_least_19 : decode cX9_least 19 = .ok (.iload_n 1, 1) := by decide +kernel
theorem dX9_least_20 : decode cX9_least 20 = .ok (.sipush 9999, 3) := by decide +kernel
theorem dX9_least_23 : decode cX9_least 23 = .ok (.iadd, 1) := by decide +kernel
theorem dX9_least_24 : decode cX9_least 24 = .ok (.invokevirtual 183, 3) := by decide +kernel
theorem dX9_least_27 : decode cX9_least 27 = .ok (.ireturn, 1) := by decide +kernel
theorem dX9_all_0 : decode cX9_all 0 = .ok (.iload_n 1, 1) := by decide +kernel
theorem dX9_all_1 : decode cX9_all 1 = .ok (.invokestatic 187, 3) := by decide +kernel
theorem dX9_all_4 : decode cX9_all 4 = .ok (.ifCond .ne 6, 3) := by decide +kernel
theorem dX9_all_7 : decode cX9_all 7 = .ok (.bipush (-2), 2) := by decide +kernel
theorem dX9_all_9 : decode cX9_all 9 = .ok (.ireturn, 1) := by decide +kernel
theorem dX9_all_10 : decode cX9_all 10 = .ok (.aload_n 0, 1) := by decide +kernel
theorem dX9_all_11 : decode cX9_all 11 = .ok (.invokevirtual 177, 3) := by decide +kernel
theorem dX9_all_14 : decode cX9_all 14 = .ok (.iconst 0, 1) := by decide +kernel
theorem dX9_all_15 : decode cX9_all 15 = .ok (.iload_n 1, 1) := by decide +kernel
theorem dX9_all_16 : decode cX9_all 16 = .ok (.iconst 1, 1) := by decide +kernel
theorem dX9_all_17 : decode cX9_all 17 = .ok (.isub, 1) := by decide +kernel
theorem dX9_all_18 : decode cX9_all 18 = .ok (.invokevirtual 190, 3) := by decide +kernel
theorem dX9_all_21 : decode cX9_all 21 = .ok (.ireturn, 1) := by decide +kernel
theorem dX9_greatest_0 : decode cX9_greatest 0 = .ok (.iload_n 1, 1) := by decide +kernel
theorem dX9_greatest_1 : decode cX9_greatest 1 = .ok (.invokestatic 187, 3) := by decide +kernel
theorem dX9_greatest_4 : decode cX9_greatest 4 = .ok (.ifCond .ne 6, 3) := by decide +kernel
theorem dX9_greatest_7 : decode cX9_greatest 7 = .ok (.bipush (-2), 2) := by decide +kernel
theorem dX9_greatest_9 : decode cX9_greatest 9 = .ok (.ireturn, 1) := by decide +kernel
theorem dX9_greatest_10 : decode cX9_greatest 10 = .ok (.aload_n 0, 1) := by decide +kernel
theorem dX9_greatest_11 : decode cX9_greatest 11 = .ok (.invokevirtual 177, 3) := by decide +kernel
theorem dX9_greatest_14 : decode cX9_greatest 14 = .ok (.iload_n 1, 1) := by decide +kernel
theorem dX9_greatest_15 : decode cX9_greatest 15 = .ok (.iconst 1, 1) := by decide +kernel
theorem dX9_greatest_16 : decode cX9_greatest 16 = .ok (.isub, 1) := by decide +kernel
theorem dX9_greatest_17 : decode cX9_greatest 17 = .ok (.invokevirtual 193, 3) := by decide +kernel
theorem dX9_greatest_20 : decode cX9_greatest 20 = .ok (.ireturn, 1) := by decide +kernel
theorem dX9_left_0 : decode cX9_left 0 = .ok (.iload_n 2, 1) := by decide +kernel
theorem dX9_left_1 : decode cX9_left 1 = .ok (.iconst (-1), 1) := by decide +kernel
theorem dX9_left_2 : decode cX9_left 2 = .ok (.if_icmp .eq 21, 3) := by decide +kernel
theorem dX9_left_5 : decode cX9_left 5 = .ok (.iload_n 2, 1) := by decide +kernel
theorem dX9_left_6 : decode cX9_left 6 = .ok (.bipush (-2), 2) := by decide +kernel
theorem dX9_left_8 : decode cX9_left 8 = .ok (.if_icmp .eq 15, 3) := by decide +kernel
theorem dX9_left_11 : decode cX9_left 11 = .ok (.aload_n 0, 1) := by decide +kernel
theorem dX9_left_12 : decode cX9_left 12 = .ok (.iload_n 2, 1) := by decide +kernel
theorem dX9_left_13 : decode cX9_left 13 = .ok (.invokevirtual 102, 3) := by decide +kernel
theorem dX9_left_16 : decode cX9_left 16 = .ok (.ifCond .ne 7, 3) := by decide +kernel
theorem dX9_left_19 : decode cX9_left 19 = .ok (.sipush (-10001), 3) := by decide +kernel
theorem dX9_left_22 : decode cX9_left 22 = .ok (.ireturn, 1) := by decide +kernel
theorem dX9_left_23 : decode cX9_left 23 = .ok (.iload_n 1, 1) := by decide +kernel
theorem dX9_left_24 : decode cX9_left 24 = .ok (.invokestatic 128, 3) := by decide +kernel
theorem dX9_left_27 : decode cX9_left 27 = .ok (.ifCond .ne 7, 3) := by decide +kernel
theorem dX9_left_30 : decode cX9_left 30 = .ok (.sipush (-10002), 3) := by decide +kernel
theorem dX9_left_33 : decode cX9_left 33 = .ok (.ireturn, 1) := by decide +kernel
theorem dX9_left_34 : decode cX9_left 34 = .ok (.aload_n 0, 1) := by decide +kernel
theorem dX9_left_35 : decode cX9_left 35 = .ok (.invokevirtual 177, 3) := by decide +kernel
theorem dX9_left_38 : decode cX9_left 38 = .ok (.astore_n 3, 1) := by decide +kernel
theorem dX9_left_39 : decode cX9_left 39 = .ok (.aload_n 3, 1) := by decide +kernel
theorem dX9_left_40 : decode cX9_left 40 = .ok (.iload_n 1, 1) := by decide +kernel
theorem dX9_left_41 : decode cX9_left 41 = .ok (.iload_n 2, 1) := by decide +kernel
theorem dX9_left_42 : decode cX9_left 42 = .ok (.invokevirtual 196, 3) := by decide +kernel
theorem dX9_left_45 : decode cX9_left 45 = .ok (.ifCond .ne 6, 3) := by decide +kernel
theorem dX9_left_48 : decode cX9_left 48 = .ok (.bipush (-5), 2) := by decide +kernel
theorem dX9_left_50 : decode cX9_left 50 = .ok (.ireturn, 1) := by decide +kernel
theorem dX9_left_51 : decode cX9_left 51 = .ok (.iload_n 2, 1) := by decide +kernel
theorem dX9_left_52 : decode cX9_left 52 = .ok (.iconst (-1), 1) := by decide +kernel
theorem dX9_left_53 : decode cX9_left 53 = .ok (.if_icmp .ne 8, 3) := by decide +kernel
theorem dX9_left_56 : decode cX9_left 56 = .ok (.aload_n 3, 1) := by decide +kernel
theorem dX9_left_57 : decode cX9_left 57 = .ok (.getfield 200, 3) := by decide +kernel
theorem dX9_left_60 : decode cX9_left 60 = .ok (.ireturn, 1) := by decide +kernel
theorem dX9_left_61 : decode cX9_left 61 = .ok (.iload_n 2, 1) := by decide +kernel
theorem dX9_left_62 : decode cX9_left 62 = .ok (.bipush (-2), 2) := by decide +kernel
theorem dX9_left_64 : decode cX9_left 64 = .ok (.if_icmp .ne 10, 3) := by decide +kernel
theorem dX9_left_67 : decode cX9_left 67 = .ok (.aload_n 3, 1) := by decide +kernel
theorem dX9_left_68 : decode cX9_left 68 = .ok (.getfield 201, 3) := by decide +kernel
theorem dX9_left_71 : decode cX9_left 71 = .ok (.goto 7, 3) := by decide +kernel
theorem dX9_left_74 : decode cX9_left 74 = .ok (.aload_n 3, 1) := by decide +kernel
theorem dX9_left_75 : decode cX9_left 75 = .ok (.getfield 202, 3) := by decide +kernel
theorem dX9_left_78 : decode cX9_left 78 = .ok (.ireturn, 1) := by decide +kernel
theorem dX9_was_0 : decode cX9_was 0 = .ok (.iload_n 1, 1) := by decide +kernel
theorem dX9_was_1 : decode cX9_was 1 = .ok (.ifCond .lt 10, 3) := by decide +kernel
theorem dX9_was_4 : decode cX9_was 4 = .ok (.iload_n 1, 1) := by decide +kernel
theorem dX9_was_5 : decode cX9_was 5 = .ok (.sipush 9999, 3) := by decide +kernel
theorem dX9_was_8 : decode cX9_was 8 = .ok (.if_icmp .le 6, 3) := by decide +kernel
theorem dX9_was_11 : decode cX9_was 11 = .ok (.bipush (-2), 2) := by decide +kernel
theorem dX9_was_13 : decode cX9_was 13 = .ok (.ireturn, 1) := by decide +kernel
theorem dX9_was_14 : decode cX9_was 14 = .ok (.aload_n 0, 1) := by decide +kernel
theorem dX9_was_15 : decode cX9_was 15 = .ok (.invokevirtual 177, 3) := by decide +kernel
theorem dX9_was_18 : decode cX9_was 18 = .ok (.iload_n 1, 1) := by decide +kernel
theorem dX9_was_19 : decode cX9_was 19 = .ok (.sipush 9999, 3) := by decide +kernel
theorem dX9_was_22 : decode cX9_was 22 = .ok (.invokevirtual 203, 3) := by decide +kernel
theorem dX9_was_25 : decode cX9_was 25 = .ok (.ireturn, 1) := by decide +kernel
theorem dX9_up_0 : decode cX9_up 0 = .ok (.iload_n 3, 1) := by decide +kernel
theorem dX9_up_1 : decode cX9_up 1 = .ok (.iconst (-1), 1) := by decide +kernel
theorem dX9_up_2 : decode cX9_up 2 = .ok (.if_icmp .lt 9, 3) := by decide +kernel
theorem dX9_up_5 : decode cX9_up 5 = .ok (.iload_n 3, 1) := by decide +kernel
theorem dX9_up_6 : decode cX9_up 6 = .ok (.bipush 6, 2) := by decide +kernel
theorem dX9_up_8 : decode cX9_up 8 = .ok (.if_icmp .lt 5, 3) := by decide +kernel
theorem dX9_up_11 : decode cX9_up 11 = .ok (.iconst (-1), 1) := by decide +kernel
theorem dX9_up_12 : decode cX9_up 12 = .ok (.ireturn, 1) := by decide +kernel
theorem dX9_up_13 : decode cX9_up 13 = .ok (.iload_n 1, 1) := by decide +kernel
theorem dX9_up_14 : decode cX9_up 14 = .ok (.ifCond .lt 21, 3) := by decide +kernel
theorem dX9_up_17 : decode cX9_up 17 = .ok (.iload_n 1, 1) := by decide +kernel
theorem dX9_up_18 : decode cX9_up 18 = .ok (.sipush 9999, 3) := by decide +kernel
theorem dX9_up_21 : decode cX9_up 21 = .ok (.if_icmp .gt 14, 3) := by decide +kernel
theorem dX9_up_24 : decode cX9_up 24 = .ok (.iload_n 2, 1) := by decide +kernel
theorem dX9_up_25 : decode cX9_up 25 = .ok (.ifCond .lt 10, 3) := by decide +kernel
theorem dX9_up_28 : decode cX9_up 28 = .ok (.iload_n 2, 1) := by decide +kernel
theorem dX9_up_29 : decode cX9_up 29 = .ok (.sipush 9999, 3) := by decide +kernel
theorem dX9_up_32 : decode cX9_up 32 = .ok (.if_icmp .le 6, 3) := by decide +kernel
theorem dX9_up_35 : decode cX9_up 35 = .ok (.bipush (-2), 2) := by decide +kernel
theorem dX9_up_37 : decode cX9_up 37 = .ok (.ireturn, 1) := by decide +kernel
theorem dX9_up_38 : decode cX9_up 38 = .ok (.aload_n 0, 1) := by decide +kernel
theorem dX9_up_39 : decode cX9_up 39 = .ok (.getfield 64, 3) := by decide +kernel
theorem dX9_up_42 : decode cX9_up 42 = .ok (.aload_n 0, 1) := by decide +kernel
theorem dX9_up_43 : decode cX9_up 43 = .ok (.getfield 12, 3) := by decide +kernel
theorem dX9_up_46 : decode cX9_up 46 = .ok (.aload_n 0, 1) := by decide +kernel
theorem dX9_up_47 : decode cX9_up 47 = .ok (.invokevirtual 148, 3) := by decide +kernel
theorem dX9_up_50 : decode cX9_up 50 = .ok (.iload_n 1, 1) := by decide +kernel
theorem dX9_up_51 : decode cX9_up 51 = .ok (.iload_n 2, 1) := by decide +kernel
theorem dX9_up_52 : decode cX9_up 52 = .ok (.invokevirtual 206, 3) := by decide +kernel
theorem dX9_up_55 : decode cX9_up 55 = .ok (.iload_n 3, 1) := by decide +kernel
theorem dX9_up_56 : decode cX9_up 56 = .ok (.iconst (-1), 1) := by decide +kernel
theorem dX9_up_57 : decode cX9_up 57 = .ok (.if_icmp .ne 13, 3) := by decide +kernel
theorem dX9_up_60 : decode cX9_up 60 = .ok (.aload_n 0, 1) := by decide +kernel
theorem dX9_up_61 : decode cX9_up 61 = .ok (.getfield 64, 3) := by decide +kernel
theorem dX9_up_64 : decode cX9_up 64 = .ok (.getfield 210, 3) := by decide +kernel
theorem dX9_up_67 : decode cX9_up 67 = .ok (.goto 11, 3) := by decide +kernel
theorem dX9_up_70 : decode cX9_up 70 = .ok (.aload_n 0, 1) := by decide +kernel
theorem dX9_up_71 : decode cX9_up 71 = .ok (.getfield 64, 3) := by decide +kernel
theorem dX9_up_74 : decode cX9_up 74 = .ok (.iload_n 3, 1) := by decide +kernel
theorem dX9_up_75 : decode cX9_up 75 = .ok (.invokevirtual 213, 3) := by decide +kernel
theorem dX9_up_78 : decode cX9_up 78 = .ok (.ireturn, 1) := by decide +kernel
theorem dX9_fair_0 : decode cX9_fair 0 = .ok (.aload_n 0, 1) := by decide +kernel
theorem dX9_fair_1 : decode cX9_fair 1 = .ok (.iload_n 2, 1) := by decide +kernel
theorem dX9_fair_2 : decode cX9_fair 2 = .ok (.invokevirtual 102, 3) := by decide +kernel
theorem dX9_fair_5 : decode cX9_fair 5 = .ok (.ifCond .eq 10, 3) := by decide +kernel
theorem dX9_fair_8 : decode cX9_fair 8 = .ok (.iload_n 1, 1) := by decide +kernel
theorem dX9_fair_9 : decode cX9_fair 9 = .ok (.invokestatic 128, 3) := by decide +kernel
theorem dX9_fair_12 : decode cX9_fair 12 = .ok (.ifCond .ne 7, 3) := by decide +kernel
theorem dX9_fair_15 : decode cX9_fair 15 = .ok (.ldc2_w 216, 3) := by decide +kernel
theorem dX9_fair_18 : decode cX9_fair 18 = .ok (.lreturn, 1) := by decide +kernel
theorem dX9_fair_19 : decode cX9_fair 19 = .ok (.aload_n 0, 1) := by decide +kernel
theorem dX9_fair_20 : decode cX9_fair 20 = .ok (.invokevirtual 177, 3) := by decide +kernel
theorem dX9_fair_23 : decode cX9_fair 23 = .ok (.astore 4, 2) := by decide +kernel
theorem dX9_fair_25 : decode cX9_fair 25 = .ok (.aload 4, 2) := by decide +kernel
theorem dX9_fair_27 : decode cX9_fair 27 = .ok (.iload_n 1, 1) := by decide +kernel
theorem dX9_fair_28 : decode cX9_fair 28 = .ok (.iload_n 2, 1) := by decide +kernel
theorem dX9_fair_29 : decode cX9_fair 29 = .ok (.invokevirtual 196, 3) := by decide +kernel
theorem dX9_fair_32 : decode cX9_fair 32 = .ok (.ifCond .ne 7, 3) := by decide +kernel
theorem dX9_fair_35 : decode cX9_fair 35 = .ok (.ldc2_w 216, 3) := by decide +kernel
theorem dX9_fair_38 : decode cX9_fair 38 = .ok (.lreturn, 1) := by decide +kernel
theorem dX9_fair_39 : decode cX9_fair 39 = .ok (.aload 4, 2) := by decide +kernel
theorem dX9_fair_41 : decode cX9_fair 41 = .ok (.getfield 202, 3) := by decide +kernel
theorem dX9_fair_44 : decode cX9_fair 44 = .ok (.i2l, 1) := by decide +kernel
theorem dX9_fair_45 : decode cX9_fair 45 = .ok (.aload_n 0, 1) := by decide +kernel
theorem dX9_fair_46 : decode cX9_fair 46 = .ok (.getfield 12, 3) := by decide +kernel
theorem dX9_fair_49 : decode cX9_fair 49 = .ok (.getfield 89, 3) := by decide +kernel
theorem dX9_fair_52 : decode cX9_fair 52 = .ok (.i2l, 1) := by decide +kernel
theorem dX9_fair_53 : decode cX9_fair 53 = .ok (.lmul, 1) := by decide +kernel
theorem dX9_fair_54 : decode cX9_fair 54 = .ok (.aload 4, 2) := by decide +kernel
theorem dX9_fair_56 : decode cX9_fair 56 = .ok (.getfield 200, 3) := by decide +kernel
theorem dX9_fair_59 : decode cX9_fair 59 = .ok (.i2l, 1) := by decide +kernel
theorem dX9_fair_60 : decode cX9_fair 60 = .ok (.ladd, 1) := by decide +kernel
theorem dX9_fair_61 : decode cX9_fair 61 = .ok (.iload_n 1, 1) := by decide +kernel
theorem dX9_fair_62 : decode cX9_fair 62 = .ok (.aload 4, 2) := by decide +kernel
theorem dX9_fair_64 : decode cX9_fair 64 = .ok (.getfield 201, 3) := by decide +kernel
theorem dX9_fair_67 : decode cX9_fair 67 = .ok (.isub, 1) := by decide +kernel
theorem dX9_fair_68 : decode cX9_fair 68 = .ok (.i2l, 1) := by decide +kernel
theorem dX9_fair_69 : decode cX9_fair 69 = .ok (.lsub, 1) := by decide +kernel
theorem dX9_fair_70 : decode cX9_fair 70 = .ok (.lstore 5, 2) := by decide +kernel
theorem dX9_fair_72 : decode cX9_fair 72 = .ok (.lload 5, 2) := by decide +kernel
theorem dX9_fair_74 : decode cX9_fair 74 = .ok (.aload_n 0, 1) := by decide +kernel
theorem dX9_fair_75 : decode cX9_fair 75 = .ok (.getfield 12, 3) := by decide +kernel
theorem dX9_fair_78 : decode cX9_fair 78 = .ok (.getfield 89, 3) := by decide +kernel
theorem dX9_fair_81 : decode cX9_fair 81 = .ok (.i2l, 1) := by decide +kernel
theorem dX9_fair_82 : decode cX9_fair 82 = .ok (.iload_n 3, 1) := by decide +kernel
theorem dX9_fair_83 : decode cX9_fair 83 = .ok (.invokestatic 218, 3) := by decide +kernel
theorem dX9_fair_86 : decode cX9_fair 86 = .ok (.lreturn, 1) := by decide +kernel
theorem dX9_chance_0 : decode cX9_chance 0 = .ok (.iload_n 1, 1) := by decide +kernel
theorem dX9_chance_1 : decode cX9_chance 1 = .ok (.invokestatic 187, 3) := by decide +kernel
theorem dX9_chance_4 : decode cX9_chance 4 = .ok (.ifCond .ne 7, 3) := by decide +kernel
theorem dX9_chance_7 : decode cX9_chance 7 = .ok (.ldc2_w 216, 3) := by decide +kernel
theorem dX9_chance_10 : decode cX9_chance 10 = .ok (.lreturn, 1) := by decide +kernel
theorem dX9_chance_11 : decode cX9_chance 11 = .ok (.aload_n 0, 1) := by decide +kernel
theorem dX9_chance_12 : decode cX9_chance 12 = .ok (.invokevirtual 177, 3) := by decide +kernel
theorem dX9_chance_15 : decode cX9_chance 15 = .ok (.iconst 1, 1) := by decide +kernel
theorem dX9_chance_16 : decode cX9_chance 16 = .ok (.iload_n 1, 1) := by decide +kernel
theorem dX9_chance_17 : decode cX9_chance 17 = .ok (.invokevirtual 190, 3) := by decide +kernel
theorem dX9_chance_20 : decode cX9_chance 20 = .ok (.i2l, 1) := by decide +kernel
theorem dX9_chance_21 : decode cX9_chance 21 = .ok (.iload_n 1, 1) := by decide +kernel
theorem dX9_chance_22 : decode cX9_chance 22 = .ok (.i2l, 1) := by decide +kernel
theorem dX9_chance_23 : decode cX9_chance 23 = .ok (.iload_n 2, 1) := by decide +kernel
theorem dX9_chance_24 : decode cX9_chance 24 = .ok (.invokestatic 218, 3) := by decide +kernel
theorem dX9_chance_27 : decode cX9_chance 27 = .ok (.lreturn, 1) := by decide +kernel
theorem dX9_big_0 : decode cX9_big 0 = .ok (.iload 4, 2) := by decide +kernel
theorem dX9_big_2 : decode cX9_big 2 = .ok (.iconst (-1), 1) := by decide +kernel
theorem dX9_big_3 : decode cX9_big 3 = .ok (.if_icmp .lt 14, 3) := by decide +kernel
theorem dX9_big_6 : decode cX9_big 6 = .ok (.iload 4, 2) := by decide +kernel
theorem dX9_big_8 : decode cX9_big 8 = .ok (.bipush 40, 2) := by decide +kernel
theorem dX9_big_10 : decode cX9_big 10 = .ok (.if_icmp .ge 7, 3) := by decide +kernel
theorem dX9_big_13 : decode cX9_big 13 = .ok (.iconst 1, 1) := by decide +kernel
theorem dX9_big_14 : decode cX9_big 14 = .ok (.goto 4, 3) := by decide +kernel
theorem dX9_big_17 : decode cX9_big 17 = .ok (.iconst 0, 1) := by decide +kernel
theorem dX9_big_18 : decode cX9_big 18 = .ok (.istore 5, 2) := by decide +kernel
theorem dX9_big_20 : decode cX9_big 20 = .ok (.iload 4, 2) := by decide +kernel
theorem dX9_big_22 : decode cX9_big 22 = .ok (.bipush 102, 2) := by decide +kernel
theorem dX9_big_24 : decode cX9_big 24 = .ok (.if_icmp .lt 15, 3) := by decide +kernel
theorem dX9_big_27 : decode cX9_big 27 = .ok (.iload 4, 2) := by decide +kernel
theorem dX9_big_29 : decode cX9_big 29 = .ok (.sipush 199, 3) := by decide +kernel
theorem dX9_big_32 : decode cX9_big 32 = .ok (.if_icmp .gt 7, 3) := by decide +kernel
theorem dX9_big_35 : decode cX9_big 35 = .ok (.iconst 1, 1) := by decide +kernel
theorem dX9_big_36 : decode cX9_big 36 = .ok (.goto 4, 3) := by decide +kernel
theorem dX9_big_39 : decode cX9_big 39 = .ok (.iconst 0, 1) := by decide +kernel
theorem dX9_big_40 : decode cX9_big 40 = .ok (.istore 6, 2) := by decide +kernel
theorem dX9_big_42 : decode cX9_big 42 = .ok (.iload 5, 2) := by decide +kernel
theorem dX9_big_44 : decode cX9_big 44 = .ok (.ifCond .ne 10, 3) := by decide +kernel
theorem dX9_big_47 : decode cX9_big 47 = .ok (.iload 6, 2) := by decide +kernel
theorem dX9_big_49 : decode cX9_big 49 = .ok (.ifCond .ne 5, 3) := by decide +kernel
theorem dX9_big_52 : decode cX9_big 52 = .ok (.iconst (-1), 1) := by decide +kernel
theorem dX9_big_53 : decode cX9_big 53 = .ok (.ireturn, 1) := by decide +kernel
theorem dX9_big_54 : decode cX9_big 54 = .ok (.iload_n 1, 1) := by decide +kernel
theorem dX9_big_55 : decode cX9_big 55 = .ok (.iconst 2, 1) := by decide +kernel
theorem dX9_big_56 : decode cX9_big 56 = .ok (.if_icmp .lt 30, 3) := by decide +kernel
theorem dX9_big_59 : decode cX9_big 59 = .ok (.iload_n 1, 1) := by decide +kernel
theorem dX9_big_60 : decode cX9_big 60 = .ok (.bipush 12, 2) := by decide +kernel
theorem dX9_big_62 : decode cX9_big 62 = .ok (.if_icmp .gt 24, 3) := by decide +kernel
theorem dX9_big_65 : decode cX9_big 65 = .ok (.iload_n 2, 1) := by decide +kernel
theorem dX9_big_66 : decode cX9_big 66 = .ok (.iconst 1, 1) := by decide +kernel
theorem dX9_big_67 : decode cX9_big 67 = .ok (.if_icmp .lt 19, 3) := by decide +kernel
theorem dX9_big_70 : decode cX9_big 70 = .ok (.iload_n 2, 1) := by decide +kernel
theorem dX9_big_71 : decode cX9_big 71 = .ok (.bipush 30, 2) := by decide +kernel
theorem dX9_big_73 : decode cX9_big 73 = .ok (.if_icmp .gt 13, 3) := by decide +kernel
theorem dX9_big_76 : decode cX9_big 76 = .ok (.iload_n 3, 1) := by decide +kernel
theorem dX9_big_77 : decode cX9_big 77 = .ok (.ifCond .lt 9, 3) := by decide +kernel
theorem dX9_big_80 : decode cX9_big 80 = .ok (.iload_n 3, 1) := by decide +kernel
theorem dX9_big_81 : decode cX9_big 81 = .ok (.bipush 9, 2) := by decide +kernel
theorem dX9_big_83 : decode cX9_big 83 = .ok (.if_icmp .le 6, 3) := by decide +kernel
theorem dX9_big_86 : decode cX9_big 86 = .ok (.bipush (-2), 2) := by decide +kernel
theorem dX9_big_88 : decode cX9_big 88 = .ok (.ireturn, 1) := by decide +kernel
theorem dX9_big_89 : decode cX9_big 89 = .ok (.aload_n 0, 1) := by decide +kernel
theorem dX9_big_90 : decode cX9_big 90 = .ok (.getfield 71, 3) := by decide +kernel
theorem dX9_big_93 : decode cX9_big 93 = .ok (.iload_n 1, 1) := by decide +kernel
theorem dX9_big_94 : decode cX9_big 94 = .ok (.iload_n 2, 1) := by decide +kernel
theorem dX9_big_95 : decode cX9_big 95 = .ok (.iload_n 3, 1) := by decide +kernel
theorem dX9_big_96 : decode cX9_big 96 = .ok (.invokevirtual 222, 3) := by decide +kernel
theorem dX9_big_99 : decode cX9_big 99 = .ok (.iload 6, 2) := by decide +kernel
theorem dX9_big_101 : decode cX9_big 101 = .ok (.ifCond .eq 16, 3) := by decide +kernel
theorem dX9_big_104 : decode cX9_big 104 = .ok (.aload_n 0, 1) := by decide +kernel
theorem dX9_big_105 : decode cX9_big 105 = .ok (.getfield 71, 3) := by decide +kernel
theorem dX9_big_108 : decode cX9_big 108 = .ok (.iload 4, 2) := by decide +kernel
theorem dX9_big_110 : decode cX9_big 110 = .ok (.bipush 100, 2) := by decide +kernel
theorem dX9_big_112 : decode cX9_big 112 = .ok (.isub, 1) := by decide +kernel
theorem dX9_big_113 : decode cX9_big 113 = .ok (.invokevirtual 226, 3) := by decide +kernel
theorem dX9_big_116 : decode cX9_big 116 = .ok (.ireturn, 1) := by decide +kernel
theorem dX9_big_117 : decode cX9_big 117 = .ok (.iload 4, 2) := by decide +kernel
theorem dX9_big_119 : decode cX9_big 119 = .ok (.iconst (-1), 1) := by decide +kernel
theorem dX9_big_120 : decode cX9_big 120 = .ok (.if_icmp .ne 13, 3) := by decide +kernel
theorem dX9_big_123 : decode cX9_big 123 = .ok (.aload_n 0, 1) := by decide +kernel
theorem dX9_big_124 : decode cX9_big 124 = .ok (.getfield 71, 3) := by decide +kernel
theorem dX9_big_127 : decode cX9_big 127 = .ok (.invokevirtual 229, 3) := by decide +kernel
theorem dX9_big_130 : decode cX9_big 130 = .ok (.goto 12, 3) := by decide +kernel
theorem dX9_big_133 : decode cX9_big 133 = .ok (.aload_n 0, 1) := by decide +kernel
theorem dX9_big_134 : decode cX9_big 134 = .ok (.getfield 71, 3) := by decide +kernel
theorem dX9_big_137 : decode cX9_big 137 = .ok (.iload 4, 2) := by decide +kernel
theorem dX9_big_139 : decode cX9_big 139 = .ok (.invokevirtual 230, 3) := by decide +kernel
theorem dX9_big_142 : decode cX9_big 142 = .ok (.ireturn, 1) := by decide +kernel
theorem dX9_book_0 : decode cX9_book 0 = .ok (.iload_n 1, 1) := by decide +kernel
theorem dX9_book_1 : decode cX9_book 1 = .ok (.iconst (-1), 1) := by decide +kernel
theorem dX9_book_2 : decode cX9_book 2 = .ok (.if_icmp .ne 13, 3) := by decide +kernel
theorem dX9_book_5 : decode cX9_book 5 = .ok (.aload_n 0, 1) := by decide +kernel
theorem dX9_book_6 : decode cX9_book 6 = .ok (.getfield 12, 3) := by decide +kernel
theorem dX9_book_9 : decode cX9_book 9 = .ok (.iconst 0, 1) := by decide +kernel
theorem dX9_book_10 : decode cX9_book 10 = .ok (.putfield 233, 3) := by decide +kernel
theorem dX9_book_13 : decode cX9_book 13 = .ok (.iconst 0, 1) := by decide +kernel
theorem dX9_book_14 : decode cX9_book 14 = .ok (.ireturn, 1) := by decide +kernel
theorem dX9_book_15 : decode cX9_book 15 = .ok (.iload_n 1, 1) := by decide +kernel
theorem dX9_book_16 : decode cX9_book 16 = .ok (.invokestatic 128, 3) := by decide +kernel
theorem dX9_book_19 : decode cX9_book 19 = .ok (.ifCond .ne 6, 3) := by decide +kernel
theorem dX9_book_22 : decode cX9_book 22 = .ok (.bipush (-2), 2) := by decide +kernel
theorem dX9_book_24 : decode cX9_book 24 = .ok (.ireturn, 1) := by decide +kernel
theorem dX9_book_25 : decode cX9_book 25 = .ok (.aload_n 0, 1) := by decide +kernel
theorem dX9_book_26 : decode cX9_book 26 = .ok (.getfield 12, 3) := by decide +kernel
theorem dX9_book_29 : decode cX9_book 29 = .ok (.getfield 233, 3) := by decide +kernel
theorem dX9_book_32 : decode cX9_book 32 = .ok (.istore_n 2, 1) := by decide +kernel
theorem dX9_book_33 : decode cX9_book 33 = .ok (.iload_n 2, 1) := by decide +kernel
theorem dX9_book_34 : decode cX9_book 34 = .ok (.ifCond .lt 9, 3) := by decide +kernel
theorem dX9_book_37 : decode cX9_book 37 = .ok (.iload_n 2, 1) := by decide +kernel
theorem dX9_book_38 : decode cX9_book 38 = .ok (.bipush 12, 2) := by decide +kernel
theorem dX9_book_40 : decode cX9_book 40 = .ok (.if_icmp .lt 6, 3) := by decide +kernel
theorem dX9_book_43 : decode cX9_book 43 = .ok (.bipush (-4), 2) := by decide +kernel
theorem dX9_book_45 : decode cX9_book 45 = .ok (.ireturn, 1) := by decide +kernel
theorem dX9_book_46 : decode cX9_book 46 = .ok (.aload_n 0, 1) := by decide +kernel
theorem dX9_book_47 : decode cX9_book 47 = .ok (.getfield 12, 3) := by decide +kernel
theorem dX9_book_50 : decode cX9_book 50 = .ok (.getfield 236, 3) := by decide +kernel
theorem dX9_book_53 : decode cX9_book 53 = .ok (.iload_n 2, 1) := by decide +kernel
theorem dX9_book_54 : decode cX9_book 54 = .ok (.iload_n 1, 1) := by decide +kernel
theorem dX9_book_55 : decode cX9_book 55 = .ok (.iastore, 1) := by decide +kernel
theorem dX9_book_56 : decode cX9_book 56 = .ok (.aload_n 0, 1) := by decide +kernel
theorem dX9_book_57 : decode cX9_book 57 = .ok (.getfield 12, 3) := by decide +kernel
theorem dX9_book_60 : decode cX9_book 60 = .ok (.iload_n 2, 1) := by decide +kernel
theorem dX9_book_61 : decode cX9_book 61 = .ok (.iconst 1, 1) := by decide +kernel
theorem dX9_book_62 : decode cX9_book 62 = .ok (.iadd, 1) := by decide +kernel
theorem dX9_book_63 : decode cX9_book 63 = .ok (.putfield 233, 3) := by decide +kernel
theorem dX9_book_66 : decode cX9_book 66 = .ok (.iload_n 2, 1) := by decide +kernel
theorem dX9_book_67 : decode cX9_book 67 = .ok (.iconst 1, 1) := by decide +kernel
theorem dX9_book_68 : decode cX9_book 68 = .ok (.iadd, 1) := by decide +kernel
theorem dX9_book_69 : decode cX9_book 69 = .ok (.ireturn, 1) := by decide +kernel
theorem dX9_looked_0 : decode cX9_looked 0 = .ok (.aload_n 0, 1) := by decide +kernel
theorem dX9_looked_1 : decode cX9_looked 1 = .ok (.invokevirtual 177, 3) := by decide +kernel
theorem dX9_looked_4 : decode cX9_looked 4 = .ok (.aload_n 0, 1) := by decide +kernel
theorem dX9_looked_5 : decode cX9_looked 5 = .ok (.getfield 12, 3) := by decide +kernel
theorem dX9_looked_8 : decode cX9_looked 8 = .ok (.getfield 236, 3) := by decide +kernel
theorem dX9_looked_11 : decode cX9_looked 11 = .ok (.aload_n 0, 1) := by decide +kernel
theorem dX9_looked_12 : decode cX9_looked 12 = .ok (.getfield 12, 3) := by decide +kernel
theorem dX9_looked_15 : decode cX9_looked 15 = .ok (.getfield 233, 3) := by decide +kernel
theorem dX9_looked_18 : decode cX9_looked 18 = .ok (.invokevirtual 239, 3) := by decide +kernel
theorem dX9_looked_21 : decode cX9_looked 21 = .ok (.ireturn, 1) := by decide +kernel
theorem dX9_judge_0 : decode cX9_judge 0 = .ok (.aload_n 0, 1) := by decide +kernel
theorem dX9_judge_1 : decode cX9_judge 1 = .ok (.iload_n 1, 1) := by decide +kernel
theorem dX9_judge_2 : decode cX9_judge 2 = .ok (.invokevirtual 243, 3) := by decide +kernel
theorem dX9_judge_5 : decode cX9_judge 5 = .ok (.astore_n 3, 1) := by decide +kernel
theorem dX9_judge_6 : decode cX9_judge 6 = .ok (.aload_n 3, 1) := by decide +kernel
theorem dX9_judge_7 : decode cX9_judge 7 = .ok (.ifnonnull 5, 3) := by decide +kernel
theorem dX9_judge_10 : decode cX9_judge 10 = .ok (.iconst (-1), 1) := by decide +kernel
theorem dX9_judge_11 : decode cX9_judge 11 = .ok (.ireturn, 1) := by decide +kernel
theorem dX9_judge_12 : decode cX9_judge 12 = .ok (.aload_n 3, 1) := by decide +kernel
theorem dX9_judge_13 : decode cX9_judge 13 = .ok (.invokevirtual 247, 3) := by decide +kernel
theorem dX9_judge_16 : decode cX9_judge 16 = .ok (.ifCond .eq 14, 3) := by decide +kernel
theorem dX9_judge_19 : decode cX9_judge 19 = .ok (.aload_n 3, 1) := by decide +kernel
theorem dX9_judge_20 : decode cX9_judge 20 = .ok (.getfield 251, 3) := by decide +kernel
theorem dX9_judge_23 : decode cX9_judge 23 = .ok (.iconst 3, 1) := by decide +kernel
theorem dX9_judge_24 : decode cX9_judge 24 = .ok (.if_icmp .eq 6, 3) := by decide +kernel
theorem dX9_judge_27 : decode cX9_judge 27 = .ok (.bipush (-12), 2) := by decide +kernel
theorem dX9_judge_29 : decode cX9_judge 29 = .ok (.ireturn, 1) := by decide +kernel
theorem dX9_judge_30 : decode cX9_judge 30 = .ok (.iconst 0, 1) := by decide +kernel
theorem dX9_judge_31 : decode cX9_judge 31 = .ok (.istore 4, 2) := by decide +kernel
theorem dX9_judge_33 : decode cX9_judge 33 = .ok (.iload 4, 2) := by decide +kernel
theorem dX9_judge_35 : decode cX9_judge 35 = .ok (.aload_n 0, 1) := by decide +kernel
theorem dX9_judge_36 : decode cX9_judge 36 = .ok (.getfield 12, 3) := by decide +kernel
theorem dX9_judge_39 : decode cX9_judge 39 = .ok (.getfield 89, 3) := by decide +kernel
theorem dX9_judge_42 : decode cX9_judge 42 = .ok (.if_icmp .ge 68, 3) := by decide +kernel
theorem dX9_judge_45 : decode cX9_judge 45 = .ok (.iload 4, 2) := by decide +kernel
theorem dX9_judge_47 : decode cX9_judge 47 = .ok (.bipush 6, 2) := by decide +kernel
theorem dX9_judge_49 : decode cX9_judge 49 = .ok (.if_icmp .ge 61, 3) := by decide +kernel
theorem dX9_judge_52 : decode cX9_judge 52 = .ok (.iload_n 2, 1) := by decide +kernel
theorem dX9_judge_53 : decode cX9_judge 53 = .ok (.i2l, 1) := by decide +kernel
theorem dX9_judge_54 : decode cX9_judge 54 = .ok (.iload 4, 2) := by decide +kernel
theorem dX9_judge_56 : decode cX9_judge 56 = .ok (.i2l, 1) := by decide +kernel
theorem dX9_judge_57 : decode cX9_judge 57 = .ok (.ladd, 1) := by decide +kernel
theorem dX9_judge_58 : decode cX9_judge 58 = .ok (.lstore 5, 2) := by decide +kernel
theorem dX9_judge_60 : decode cX9_judge 60 = .ok (.iload_n 2, 1) := by decide +kernel
theorem dX9_judge_61 : decode cX9_judge 61 = .ok (.ifCond .lt 12, 3) := by decide +kernel
theorem dX9_judge_64 : decode cX9_judge 64 = .ok (.aload_n 3, 1) := by decide +kernel
theorem dX9_judge_65 : decode cX9_judge 65 = .ok (.lload 5, 2) := by decide +kernel
theorem dX9_judge_67 : decode cX9_judge 67 = .ok (.invokevirtual 254, 3) := by decide +kernel
theorem dX9_judge_70 : decode cX9_judge 70 = .ok (.ifCond .ne 9, 3) := by decide +kernel
theorem dX9_judge_73 : decode cX9_judge 73 = .ok (.bipush 100, 2) := by decide +kernel
theorem dX9_judge_75 : decode cX9_judge 75 = .ok (.iload 4, 2) := by decide +kernel
theorem dX9_judge_77 : decode cX9_judge 77 = .ok (.iadd, 1) := by decide +kernel
theorem dX9_judge_78 : decode cX9_judge 78 = .ok (.ireturn, 1) := by decide +kernel
theorem dX9_judge_79 : decode cX9_judge 79 = .ok (.aload_n 3, 1) := by decide +kernel
theorem dX9_judge_80 : decode cX9_judge 80 = .ok (.lload 5, 2) := by decide +kernel
theorem dX9_judge_82 : decode cX9_judge 82 = .ok (.l2i, 1) := by decide +kernel
theorem dX9_judge_83 : decode cX9_judge 83 = .ok (.invokevirtual 258, 3) := by decide +kernel
theorem dX9_judge_86 : decode cX9_judge 86 = .ok (.aload_n 0, 1) := by decide +kernel
theorem dX9_judge_87 : decode cX9_judge 87 = .ok (.getfield 12, 3) := by decide +kernel
theorem dX9_judge_90 : decode cX9_judge 90 = .ok (.getfield 99, 3) := by decide +kernel
theorem dX9_judge_93 : decode cX9_judge 93 = .ok (.iload 4, 2) := by decide +kernel
theorem dX9_judge_95 : decode cX9_judge 95 = .ok (.iaload, 1) := by decide +kernel
theorem dX9_judge_96 : decode cX9_judge 96 = .ok (.i2l, 1) := by decide +kernel
theorem dX9_judge_97 : decode cX9_judge 97 = .ok (.lcmp, 1) := by decide +kernel
theorem dX9_judge_98 : decode cX9_judge 98 = .ok (.ifCond .eq 6, 3) := by decide +kernel
theorem dX9_judge_101 : decode cX9_judge 101 = .ok (.iload 4, 2) := by decide +kernel
theorem dX9_judge_103 : decode cX9_judge 103 = .ok (.ireturn, 1) := by decide +kernel
theorem dX9_judge_104 : decode cX9_judge 104 = .ok (.iinc 4 1, 3) := by decide +kernel
theorem dX9_judge_107 : decode cX9_judge 107 = .ok (.goto (-74), 3) := by decide +kernel
theorem dX9_judge_110 : decode cX9_judge 110 = .ok (.bipush (-5), 2) := by decide +kernel
theorem dX9_judge_112 : decode cX9_judge 112 = .ok (.ireturn, 1) := by decide +kernel
theorem dX9_image_0 : decode cX9_image 0 = .ok (.aload_n 0, 1) := by decide +kernel
theorem dX9_image_1 : decode cX9_image 1 = .ok (.getfield 18, 3) := by decide +kernel
theorem dX9_image_4 : decode cX9_image 4 = .ok (.aload_n 0, 1) := by decide +kernel
theorem dX9_image_5 : decode cX9_image 5 = .ok (.getfield 12, 3) := by decide +kernel
theorem dX9_image_8 : decode cX9_image 8 = .ok (.invokevirtual 262, 3) := by decide +kernel
theorem dX9_image_11 : decode cX9_image 11 = .ok (.aload_n 0, 1) := by decide +kernel
theorem dX9_image_12 : decode cX9_image 12 = .ok (.iconst 1, 1) := by decide +kernel
theorem dX9_image_13 : decode cX9_image 13 = .ok (.putfield 21, 3) := by decide +kernel
theorem dX9_image_16 : decode cX9_image 16 = .ok (.aload_n 0, 1) := by decide +kernel
theorem dX9_image_17 : decode cX9_image 17 = .ok (.getfield 12, 3) := by decide +kernel
theorem dX9_image_20 : decode cX9_image 20 = .ok (.getfield 89, 3) := by decide +kernel
theorem dX9_image_23 : decode cX9_image 23 = .ok (.ireturn, 1) := by decide +kernel
theorem dX9_undo_0 : decode cX9_undo 0 = .ok (.aload_n 0, 1) := by decide +kernel
theorem dX9_undo_1 : decode cX9_undo 1 = .ok (.getfield 21, 3) := by decide +kernel
theorem dX9_undo_4 : decode cX9_undo 4 = .ok (.ifCond .ne 6, 3) := by decide +kernel
theorem dX9_undo_7 : decode cX9_undo 7 = .ok (.bipush (-3), 2) := by decide +kernel
theorem dX9_undo_9 : decode cX9_undo 9 = .ok (.ireturn, 1) := by decide +kernel
theorem dX9_undo_10 : decode cX9_undo 10 = .ok (.aload_n 0, 1) := by decide +kernel
theorem dX9_undo_11 : decode cX9_undo 11 = .ok (.getfield 12, 3) := by decide +kernel
theorem dX9_undo_14 : decode cX9_undo 14 = .ok (.aload_n 0, 1) := by decide +kernel
theorem dX9_undo_15 : decode cX9_undo 15 = .ok (.getfield 18, 3) := by decide +kernel
theorem dX9_undo_18 : decode cX9_undo 18 = .ok (.invokevirtual 262, 3) := by decide +kernel
theorem dX9_undo_21 : decode cX9_undo 21 = .ok (.aload_n 0, 1) := by decide +kernel
theorem dX9_undo_22 : decode cX9_undo 22 = .ok (.getfield 12, 3) := by decide +kernel
theorem dX9_undo_25 : decode cX9_undo 25 = .ok (.getfield 89, 3) := by decide +kernel
theorem dX9_undo_28 : decode cX9_undo 28 = .ok (.ireturn, 1) := by decide +kernel
theorem dX9_act_0 : decode cX9_act 0 = .ok (.aload_n 0, 1) := by decide +kernel
theorem dX9_act_1 : decode cX9_act 1 = .ok (.getfield 78, 3) := by decide +kernel
theorem dX9_act_4 : decode cX9_act 4 = .ok (.invokevirtual 265, 3) := by decide +kernel
theorem dX9_act_7 : decode cX9_act 7 = .ok (.aload_n 0, 1) := by decide +kernel
theorem dX9_act_8 : decode cX9_act 8 = .ok (.iload_n 1, 1) := by decide +kernel
theorem dX9_act_9 : decode cX9_act 9 = .ok (.invokevirtual 102, 3) := by decide +kernel
theorem dX9_act_12 : decode cX9_act 12 = .ok (.ifCond .eq 12, 3) := by decide +kernel
theorem dX9_act_15 : decode cX9_act 15 = .ok (.iload_n 2, 1) := by decide +kernel
theorem dX9_act_16 : decode cX9_act 16 = .ok (.ifCond .lt 8, 3) := by decide +kernel
theorem dX9_act_19 : decode cX9_act 19 = .ok (.iload_n 2, 1) := by decide +kernel
theorem dX9_act_20 : decode cX9_act 20 = .ok (.iconst 3, 1) := by decide +kernel
theorem dX9_act_21 : decode cX9_act 21 = .ok (.if_icmp .lt 5, 3) := by decide +kernel
theorem dX9_act_24 : decode cX9_act 24 = .ok (.iconst 0, 1) := by decide +kernel
theorem dX9_act_25 : decode cX9_act 25 = .ok (.ireturn, 1) := by decide +kernel
theorem dX9_act_26 : decode cX9_act 26 = .ok (.aload_n 0, 1) := by decide +kernel
theorem dX9_act_27 : decode cX9_act 27 = .ok (.getfield 78, 3) := by decide +kernel
theorem dX9_act_30 : decode cX9_act 30 = .ok (.iload_n 1, 1) := by decide +kernel
theorem dX9_act_31 : decode cX9_act 31 = .ok (.aload_n 0, 1) := by decide +kernel
theorem dX9_act_32 : decode cX9_act 32 = .ok (.getfield 12, 3) := by decide +kernel
theorem dX9_act_35 : decode cX9_act 35 = .ok (.getfield 92, 3) := by decide +kernel
theorem dX9_act_38 : decode cX9_act 38 = .ok (.iload_n 1, 1) := by decide +kernel
theorem dX9_act_39 : decode cX9_act 39 = .ok (.iaload, 1) := by decide +kernel
theorem dX9_act_40 : decode cX9_act 40 = .ok (.aload_n 0, 1) := by decide +kernel
theorem dX9_act_41 : decode cX9_act 41 = .ok (.getfield 12, 3) := by decide +kernel
theorem dX9_act_44 : decode cX9_act 44 = .ok (.getfield 96, 3) := by decide +kernel
theorem dX9_act_47 : decode cX9_act 47 = .ok (.iload_n 1, 1) := by decide +kernel
theorem dX9_act_48 : decode cX9_act 48 = .ok (.iaload, 1) := by decide +kernel
theorem dX9_act_49 : decode cX9_act 49 = .ok (.iload_n 2, 1) := by decide +kernel
theorem dX9_act_50 : decode cX9_act 50 = .ok (.iload_n 3, 1) := by decide +kernel
theorem dX9_act_51 : decode cX9_act 51 = .ok (.invokevirtual 268, 3) := by decide +kernel
theorem dX9_act_54 : decode cX9_act 54 = .ok (.ireturn, 1) := by decide +kernel
theorem dX9_trace_0 : decode cX9_trace 0 = .ok (.aload_n 0, 1) := by decide +kernel
theorem dX9_trace_1 : decode cX9_trace 1 = .ok (.getfield 78, 3) := by decide +kernel
theorem dX9_trace_4 : decode cX9_trace 4 = .ok (.iload_n 1, 1) := by decide +kernel
theorem dX9_trace_5 : decode cX9_trace 5 = .ok (.invokevirtual 272, 3) := by decide +kernel
theorem dX9_trace_8 : decode cX9_trace 8 = .ok (.ifCond .eq 14, 3) := by decide +kernel
theorem dX9_trace_11 : decode cX9_trace 11 = .ok (.aload_n 0, 1) := by decide +kernel
theorem dX9_trace_12 : decode cX9_trace 12 = .ok (.getfield 78, 3) := by decide +kernel
theorem dX9_trace_15 : decode cX9_trace 15 = .ok (.iload_n 1, 1) := by decide +kernel
theorem dX9_trace_16 : decode cX9_trace 16 = .ok (.invokevirtual 275, 3) := by decide +kernel
theorem dX9_trace_19 : decode cX9_trace 19 = .ok (.goto 4, 3) := by decide +kernel
theorem dX9_trace_22 : decode cX9_trace 22 = .ok (.iconst (-1), 1) := by decide +kernel
theorem dX9_trace_23 : decode cX9_trace 23 = .ok (.ireturn, 1) := by decide +kernel
theorem dX9_taken_0 : decode cX9_taken 0 = .ok (.iload_n 2, 1) := by decide +kernel
theorem dX9_taken_1 : decode cX9_taken 1 = .ok (.ifCond .lt 9, 3) := by decide +kernel
theorem dX9_taken_4 : decode cX9_taken 4 = .ok (.iload_n 2, 1) := by decide +kernel
theorem dX9_taken_5 : decode cX9_taken 5 = .ok (.bipush 7, 2) := by decide +kernel
theorem dX9_taken_7 : decode cX9_taken 7 = .ok (.if_icmp .lt 6, 3) := by decide +kernel
theorem dX9_taken_10 : decode cX9_taken 10 = .ok (.bipush (-2), 2) := by decide +kernel
theorem dX9_taken_12 : decode cX9_taken 12 = .ok (.ireturn, 1) := by decide +kernel
theorem dX9_taken_13 : decode cX9_taken 13 = .ok (.aload_n 0, 1) := by decide +kernel
theorem dX9_taken_14 : decode cX9_taken 14 = .ok (.iload_n 1, 1) := by decide +kernel
theorem dX9_taken_15 : decode cX9_taken 15 = .ok (.invokevirtual 102, 3) := by decide +kernel
theorem dX9_taken_18 : decode cX9_taken 18 = .ok (.ifCond .ne 6, 3) := by decide +kernel
theorem dX9_taken_21 : decode cX9_taken 21 = .ok (.bipush (-11), 2) := by decide +kernel
theorem dX9_taken_23 : decode cX9_taken 23 = .ok (.ireturn, 1) := by decide +kernel
theorem dX9_taken_24 : decode cX9_taken 24 = .ok (.aload_n 0, 1) := by decide +kernel
theorem dX9_taken_25 : decode cX9_taken 25 = .ok (.getfield 12, 3) := by decide +kernel
theorem dX9_taken_28 : decode cX9_taken 28 = .ok (.getfield 92, 3) := by decide +kernel
theorem dX9_taken_31 : decode cX9_taken 31 = .ok (.iload_n 1, 1) := by decide +kernel
theorem dX9_taken_32 : decode cX9_taken 32 = .ok (.iaload, 1) := by decide +kernel
theorem dX9_taken_33 : decode cX9_taken 33 = .ok (.istore_n 3, 1) := by decide +kernel
theorem dX9_taken_34 : decode cX9_taken 34 = .ok (.iload_n 3, 1) := by decide +kernel
theorem dX9_taken_35 : decode cX9_taken 35 = .ok (.iload_n 2, 1) := by decide +kernel
theorem dX9_taken_36 : decode cX9_taken 36 = .ok (.invokestatic 278, 3) := by decide +kernel
theorem dX9_taken_39 : decode cX9_taken 39 = .ok (.ifCond .eq 7, 3) := by decide +kernel
theorem dX9_taken_42 : decode cX9_taken 42 = .ok (.iload_n 3, 1) := by decide +kernel
theorem dX9_taken_43 : decode cX9_taken 43 = .ok (.goto 5, 3) := by decide +kernel
theorem dX9_taken_46 : decode cX9_taken 46 = .ok (.bipush (-12), 2) := by decide +kernel
theorem dX9_taken_48 : decode cX9_taken 48 = .ok (.ireturn, 1) := by decide +kernel
theorem dX9_count_0 : decode cX9_count 0 = .ok (.iload_n 1, 1) := by decide +kernel
theorem dX9_count_1 : decode cX9_count 1 = .ok (.tableswitch 84 0 5 #[39, 47, 52, 60, 68, 76], 39) := by decide +kernel
theorem dX9_count_40 : decode cX9_count 40 = .ok (.aload_n 0, 1) := by decide +kernel
theorem dX9_count_41 : decode cX9_count 41 = .ok (.getfield 12, 3) := by decide +kernel
theorem dX9_count_44 : decode cX9_count 44 = .ok (.getfield 89, 3) := by decide +kernel
theorem dX9_count_47 : decode cX9_count 47 = .ok (.ireturn, 1) := by decide +kernel
theorem dX9_count_48 : decode cX9_count 48 = .ok (.aload_n 0, 1) := by decide +kernel
theorem dX9_count_49 : decode cX9_count 49 = .ok (.getfield 43, 3) := by decide +kernel
theorem dX9_count_52 : decode cX9_count 52 = .ok (.ireturn, 1) := by decide +kernel
theorem dX9_count_53 : decode cX9_count 53 = .ok (.aload_n 0, 1) := by decide +kernel
theorem dX9_count_54 : decode cX9_count 54 = .ok (.getfield 12, 3) := by decide +kernel
theorem dX9_count_57 : decode cX9_count 57 = .ok (.getfield 171, 3) := by decide +kernel
theorem dX9_count_60 : decode cX9_count 60 = .ok (.ireturn, 1) := by decide +kernel
theorem dX9_count_61 : decode cX9_count 61 = .ok (.aload_n 0, 1) := by decide +kernel
theorem dX9_count_62 : decode cX9_count 62 = .ok (.getfield 12, 3) := by decide +kernel
theorem dX9_count_65 : decode cX9_count 65 = .ok (.getfield 233, 3) := by decide +kernel
theorem dX9_count_68 : decode cX9_count 68 = .ok (.ireturn, 1) := by decide +kernel
theorem dX9_count_69 : decode cX9_count 69 = .ok (.aload_n 0, 1) := by decide +kernel
theorem dX9_count_70 : decode cX9_count 70 = .ok (.getfield 28, 3) := by decide +kernel
theorem dX9_count_73 : decode cX9_count 73 = .ok (.invokevirtual 134, 3) := by decide +kernel
theorem dX9_count_76 : decode cX9_count 76 = .ok (.ireturn, 1) := by decide +kernel
theorem dX9_count_77 : decode cX9_count 77 = .ok (.aload_n 0, 1) := by decide +kernel
theorem dX9_count_78 : decode cX9_count 78 = .ok (.getfield 78, 3) := by decide +kernel
theorem dX9_count_81 : decode cX9_count 81 = .ok (.getfield 281, 3) := by decide +kernel
theorem dX9_count_84 : decode cX9_count 84 = .ok (.ireturn, 1) := by decide +kernel
theorem dX9_count_85 : decode cX9_count 85 = .ok (.bipush (-2), 2) := by decide +kernel
theorem dX9_count_87 : decode cX9_count 87 = .ok (.ireturn, 1) := by decide +kernel
theorem dX9_tape_0 : decode cX9_tape 0 = .ok (.aload_n 0, 1) := by decide +kernel
theorem dX9_tape_1 : decode cX9_tape 1 = .ok (.iload_n 1, 1) := by decide +kernel
theorem dX9_tape_2 : decode cX9_tape 2 = .ok (.invokevirtual 243, 3) := by decide +kernel
theorem dX9_tape_5 : decode cX9_tape 5 = .ok (.astore 4, 2) := by decide +kernel
theorem dX9_tape_7 : decode cX9_tape 7 = .ok (.aload 4, 2) := by decide +kernel
theorem dX9_tape_9 : decode cX9_tape 9 = .ok (.ifnonnull 5, 3) := by decide +kernel
theorem dX9_tape_12 : decode cX9_tape 12 = .ok (.iconst (-1), 1) := by decide +kernel
theorem dX9_tape_13 : decode cX9_tape 13 = .ok (.ireturn, 1) := by decide +kernel
theorem dX9_tape_14 : decode cX9_tape 14 = .ok (.iload_n 2, 1) := by decide +kernel
theorem dX9_tape_15 : decode cX9_tape 15 = .ok (.iconst (-1), 1) := by decide +kernel
theorem dX9_tape_16 : decode cX9_tape 16 = .ok (.if_icmp .ne 12, 3) := by decide +kernel
theorem dX9_tape_19 : decode cX9_tape 19 = .ok (.aload 4, 2) := by decide +kernel
theorem dX9_tape_21 : decode cX9_tape 21 = .ok (.iconst (-1), 1) := by decide +kernel
theorem dX9_tape_22 : decode cX9_tape 22 = .ok (.iconst 0, 1) := by decide +kernel
theorem dX9_tape_23 : decode cX9_tape 23 = .ok (.invokevirtual 284, 3) := by decide +kernel
theorem dX9_tape_26 : decode cX9_tape 26 = .ok (.iconst 1, 1) := by decide +kernel
theorem dX9_tape_27 : decode cX9_tape 27 = .ok (.ireturn, 1) := by decide +kernel
theorem dX9_tape_28 : decode cX9_tape 28 = .ok (.iload_n 2, 1) := by decide +kernel
theorem dX9_tape_29 : decode cX9_tape 29 = .ok (.ifCond .lt 14, 3) := by decide +kernel
theorem dX9_tape_32 : decode cX9_tape 32 = .ok (.iload_n 2, 1) := by decide +kernel
theorem dX9_tape_33 : decode cX9_tape 33 = .ok (.iconst 5, 1) := by decide +kernel
theorem dX9_tape_34 : decode cX9_tape 34 = .ok (.if_icmp .ge 9, 3) := by decide +kernel
theorem dX9_tape_37 : decode cX9_tape 37 = .ok (.iload_n 3, 1) := by decide +kernel
theorem dX9_tape_38 : decode cX9_tape 38 = .ok (.bipush 60, 2) := by decide +kernel
theorem dX9_tape_40 : decode cX9_tape 40 = .ok (.if_icmp .le 6, 3) := by decide +kernel
theorem dX9_tape_43 : decode cX9_tape 43 = .ok (.bipush (-2), 2) := by decide +kernel
theorem dX9_tape_45 : decode cX9_tape 45 = .ok (.ireturn, 1) := by decide +kernel
theorem dX9_tape_46 : decode cX9_tape 46 = .ok (.iload_n 3, 1) := by decide +kernel
theorem dX9_tape_47 : decode cX9_tape 47 = .ok (.ifCond .ge 6, 3) := by decide +kernel
theorem dX9_tape_50 : decode cX9_tape 50 = .ok (.bipush (-14), 2) := by decide +kernel
theorem dX9_tape_52 : decode cX9_tape 52 = .ok (.ireturn, 1) := by decide +kernel
theorem dX9_tape_53 : decode cX9_tape 53 = .ok (.aload 4, 2) := by decide +kernel
theorem dX9_tape_55 : decode cX9_tape 55 = .ok (.iload_n 2, 1) := by decide +kernel
theorem dX9_tape_56 : decode cX9_tape 56 = .ok (.iload_n 3, 1) := by decide +kernel
theorem dX9_tape_57 : decode cX9_tape 57 = .ok (.invokevirtual 284, 3) := by decide +kernel
theorem dX9_tape_60 : decode cX9_tape 60 = .ok (.iconst 1, 1) := by decide +kernel
theorem dX9_tape_61 : decode cX9_tape 61 = .ok (.ireturn, 1) := by decide +kernel
theorem dX9_item_0 : decode cX9_item 0 = .ok (.aload_n 0, 1) := by decide +kernel
theorem dX9_item_1 : decode cX9_item 1 = .ok (.iload_n 1, 1) := by decide +kernel
theorem dX9_item_2 : decode cX9_item 2 = .ok (.invokevirtual 243, 3) := by decide +kernel
theorem dX9_item_5 : decode cX9_item 5 = .ok (.astore 5, 2) := by decide +kernel
theorem dX9_item_7 : decode cX9_item 7 = .ok (.aload 5, 2) := by decide +kernel
theorem dX9_item_9 : decode cX9_item 9 = .ok (.ifnonnull 5, 3) := by decide +kernel
theorem dX9_item_12 : decode cX9_item 12 = .ok (.iconst (-1), 1) := by decide +kernel
theorem dX9_item_13 : decode cX9_item 13 = .ok (.ireturn, 1) := by decide +kernel
theorem dX9_item_14 : decode cX9_item 14 = .ok (.aload 5, 2) := by decide +kernel
theorem dX9_item_16 : decode cX9_item 16 = .ok (.invokevirtual 247, 3) := by decide +kernel
theorem dX9_item_19 : decode cX9_item 19 = .ok (.ifCond .ne 6, 3) := by decide +kernel
theorem dX9_item_22 : decode cX9_item 22 = .ok (.bipush (-11), 2) := by decide +kernel
theorem dX9_item_24 : decode cX9_item 24 = .ok (.ireturn, 1) := by decide +kernel
theorem dX9_item_25 : decode cX9_item 25 = .ok (.aload 5, 2) := by decide +kernel
theorem dX9_item_27 : decode cX9_item 27 = .ok (.iload_n 2, 1) := by decide +kernel
theorem dX9_item_28 : decode cX9_item 28 = .ok (.i2l, 1) := by decide +kernel
theorem dX9_item_29 : decode cX9_item 29 = .ok (.invokevirtual 254, 3) := by decide +kernel
theorem dX9_item_32 : decode cX9_item 32 = .ok (.ifCond .ne 6, 3) := by decide +kernel
theorem dX9_item_35 : decode cX9_item 35 = .ok (.bipush (-13), 2) := by decide +kernel
theorem dX9_item_37 : decode cX9_item 37 = .ok (.ireturn, 1) := by decide +kernel
theorem dX9_item_38 : decode cX9_item 38 = .ok (.aload 5, 2) := by decide +kernel
theorem dX9_item_40 : decode cX9_item 40 = .ok (.iload_n 2, 1) := by decide +kernel
theorem dX9_item_41 : decode cX9_item 41 = .ok (.lload_n 3, 1) := by decide +kernel
theorem dX9_item_42 : decode cX9_item 42 = .ok (.invokevirtual 287, 3) := by decide +kernel
theorem dX9_item_45 : decode cX9_item 45 = .ok (.iconst 1, 1) := by decide +kernel
theorem dX9_item_46 : decode cX9_item 46 = .ok (.ireturn, 1) := by decide +kernel
theorem dX9_read_0 : decode cX9_read 0 = .ok (.aload_n 0, 1) := by decide +kernel
theorem dX9_read_1 : decode cX9_read 1 = .ok (.iload_n 1, 1) := by decide +kernel
theorem dX9_read_2 : decode cX9_read 2 = .ok (.invokevirtual 243, 3) := by decide +kernel
theorem dX9_read_5 : decode cX9_read 5 = .ok (.astore_n 3, 1) := by decide +kernel
theorem dX9_read_6 : decode cX9_read 6 = .ok (.aload_n 3, 1) := by decide +kernel
theorem dX9_read_7 : decode cX9_read 7 = .ok (.ifnull 12, 3) := by decide +kernel
theorem dX9_read_10 : decode cX9_read 10 = .ok (.aload_n 3, 1) := by decide +kernel
theorem dX9_read_11 : decode cX9_read 11 = .ok (.iload_n 2, 1) := by decide +kernel
theorem dX9_read_12 : decode cX9_read 12 = .ok (.i2l, 1) := by decide +kernel
theorem dX9_read_13 : decode cX9_read 13 = .ok (.invokevirtual 254, 3) := by decide +kernel
theorem dX9_read_16 : decode cX9_read 16 = .ok (.ifCond .ne 7, 3) := by decide +kernel
theorem dX9_read_19 : decode cX9_read 19 = .ok (.ldc2_w 216, 3) := by decide +kernel
theorem dX9_read_22 : decode cX9_read 22 = .ok (.lreturn, 1) := by decide +kernel
theorem dX9_read_23 : decode cX9_read 23 = .ok (.aload_n 3, 1) := by decide +kernel
theorem dX9_read_24 : decode cX9_read 24 = .ok (.iload_n 2, 1) := by decide +kernel
theorem dX9_read_25 : decode cX9_read 25 = .ok (.invokevirtual 258, 3) := by decide +kernel
theorem dX9_read_28 : decode cX9_read 28 = .ok (.lreturn, 1) := by decide +kernel
theorem dX9_shift_0 : decode cX9_shift 0 = .ok (.aload_n 0, 1) := by decide +kernel
theorem dX9_shift_1 : decode cX9_shift 1 = .ok (.iload_n 1, 1) := by decide +kernel
theorem dX9_shift_2 : decode cX9_shift 2 = .ok (.invokevirtual 243, 3) := by decide +kernel
theorem dX9_shift_5 : decode cX9_shift 5 = .ok (.astore 6, 2) := by decide +kernel
theorem dX9_shift_7 : decode cX9_shift 7 = .ok (.aload_n 0, 1) := by decide +kernel
theorem dX9_shift_8 : decode cX9_shift 8 = .ok (.iload_n 3, 1) := by decide +kernel
theorem dX9_shift_9 : decode cX9_shift 9 = .ok (.invokevirtual 243, 3) := by decide +kernel
theorem dX9_shift_12 : decode cX9_shift 12 = .ok (.astore 7, 2) := by decide +kernel
theorem dX9_shift_14 : decode cX9_shift 14 = .ok (.aload 6, 2) := by decide +kernel
theorem dX9_shift_16 : decode cX9_shift 16 = .ok (.ifnull 8, 3) := by decide +kernel
theorem dX9_shift_19 : decode cX9_shift 19 = .ok (.aload 7, 2) := by decide +kernel
theorem dX9_shift_21 : decode cX9_shift 21 = .ok (.ifnonnull 5, 3) := by decide +kernel
theorem dX9_shift_24 : decode cX9_shift 24 = .ok (.iconst (-1), 1) := by decide +kernel
theorem dX9_shift_25 : decode cX9_shift 25 = .ok (.ireturn, 1) := by decide +kernel
theorem dX9_shift_26 : decode cX9_shift 26 = .ok (.aload 6, 2) := by decide +kernel
theorem dX9_shift_28 : decode cX9_shift 28 = .ok (.invokevirtual 247, 3) := by decide +kernel
theorem dX9_shift_31 : decode cX9_shift 31 = .ok (.ifCond .eq 11, 3) := by decide +kernel
theorem dX9_shift_34 : decode cX9_shift 34 = .ok (.aload 7, 2) := by decide +kernel
theorem dX9_shift_36 : decode cX9_shift 36 = .ok (.invokevirtual 247, 3) := by decide +kernel
theorem dX9_shift_39 : decode cX9_shift 39 = .ok (.ifCond .ne 6, 3) := by decide +kernel
theorem dX9_shift_42 : decode cX9_shift 42 = .ok (.bipush (-11), 2) := by decide +kernel
theorem dX9_shift_44 : decode cX9_shift 44 = .ok (.ireturn, 1) := by decide +kernel
theorem dX9_shift_45 : decode cX9_shift 45 = .ok (.aload 6, 2) := by decide +kernel
theorem dX9_shift_47 : decode cX9_shift 47 = .ok (.getfield 251, 3) := by decide +kernel
theorem dX9_shift_50 : decode cX9_shift 50 = .ok (.aload 7, 2) := by decide +kernel
theorem dX9_shift_52 : decode cX9_shift 52 = .ok (.getfield 251, 3) := by decide +kernel
theorem dX9_shift_55 : decode cX9_shift 55 = .ok (.if_icmp .eq 6, 3) := by decide +kernel
theorem dX9_shift_58 : decode cX9_shift 58 = .ok (.bipush (-12), 2) := by decide +kernel
theorem dX9_shift_60 : decode cX9_shift 60 = .ok (.ireturn, 1) := by decide +kernel
theorem dX9_shift_61 : decode cX9_shift 61 = .ok (.aload 6, 2) := by decide +kernel
theorem dX9_shift_63 : decode cX9_shift 63 = .ok (.iload_n 2, 1) := by decide +kernel
theorem dX9_shift_64 : decode cX9_shift 64 = .ok (.iload 5, 2) := by decide +kernel
theorem dX9_shift_66 : decode cX9_shift 66 = .ok (.invokevirtual 291, 3) := by decide +kernel
theorem dX9_shift_69 : decode cX9_shift 69 = .ok (.ifCond .eq 15, 3) := by decide +kernel
theorem dX9_shift_72 : decode cX9_shift 72 = .ok (.aload 7, 2) := by decide +kernel
theorem dX9_shift_74 : decode cX9_shift 74 = .ok (.iload 4, 2) := by decide +kernel
theorem dX9_shift_76 : decode cX9_shift 76 = .ok (.iload 5, 2) := by decide +kernel
theorem dX9_shift_78 : decode cX9_shift 78 = .ok (.invokevirtual 291, 3) := by decide +kernel
theorem dX9_shift_81 : decode cX9_shift 81 = .ok (.ifCond .ne 6, 3) := by decide +kernel
theorem dX9_shift_84 : decode cX9_shift 84 = .ok (.bipush (-13), 2) := by decide +kernel
theorem dX9_shift_86 : decode cX9_shift 86 = .ok (.ireturn, 1) := by decide +kernel
theorem dX9_shift_87 : decode cX9_shift 87 = .ok (.aload 6, 2) := by decide +kernel
theorem dX9_shift_89 : decode cX9_shift 89 = .ok (.getfield 294, 3) := by decide +kernel
theorem dX9_shift_92 : decode cX9_shift 92 = .ok (.iload_n 2, 1) := by decide +kernel
theorem dX9_shift_93 : decode cX9_shift 93 = .ok (.aload 7, 2) := by decide +kernel
theorem dX9_shift_95 : decode cX9_shift 95 = .ok (.getfield 294, 3) := by decide +kernel
theorem dX9_shift_98 : decode cX9_shift 98 = .ok (.iload 4, 2) := by decide +kernel
theorem dX9_shift_100 : decode cX9_shift 100 = .ok (.iload 5, 2) := by decide +kernel
theorem dX9_shift_102 : decode cX9_shift 102 = .ok (.invokestatic 298, 3) := by decide +kernel
theorem dX9_shift_105 : decode cX9_shift 105 = .ok (.iload 5, 2) := by decide +kernel
theorem dX9_shift_107 : decode cX9_shift 107 = .ok (.ireturn, 1) := by decide +kernel
theorem dX9_isMan_0 : decode cX9_isMan 0 = .ok (.iload_n 1, 1) := by decide +kernel
theorem dX9_isMan_1 : decode cX9_isMan 1 = .ok (.ifCond .lt 24, 3) := by decide +kernel
theorem dX9_isMan_4 : decode cX9_isMan 4 = .ok (.iload_n 1, 1) := by decide +kernel
theorem dX9_isMan_5 : decode cX9_isMan 5 = .ok (.aload_n 0, 1) := by decide +kernel
theorem dX9_isMan_6 : decode cX9_isMan 6 = .ok (.getfield 12, 3) := by decide +kernel
theorem dX9_isMan_9 : decode cX9_isMan 9 = .ok (.getfield 89, 3) := by decide +kernel
theorem dX9_isMan_12 : decode cX9_isMan 12 = .ok (.if_icmp .ge 13, 3) := by decide +kernel
theorem dX9_isMan_15 : decode cX9_isMan 15 = .ok (.iload_n 1, 1) := by decide +kernel
theorem dX9_isMan_16 : decode cX9_isMan 16 = .ok (.bipush 6, 2) := by decide +kernel
theorem dX9_isMan_18 : decode cX9_isMan 18 = .ok (.if_icmp .ge 7, 3) := by decide +kernel
theorem dX9_isMan_21 : decode cX9_isMan 21 = .ok (.iconst 1, 1) := by decide +kernel
theorem dX9_isMan_22 : decode cX9_isMan 22 = .ok (.goto 4, 3) := by decide +kernel
theorem dX9_isMan_25 : decode cX9_isMan 25 = .ok (.iconst 0, 1) := by decide +kernel
theorem dX9_isMan_26 : decode cX9_isMan 26 = .ok (.ireturn, 1) := by decide +kernel
theorem dX9_isHeap_0 : decode cX9_isHeap 0 = .ok (.iload_n 0, 1) := by decide +kernel
theorem dX9_isHeap_1 : decode cX9_isHeap 1 = .ok (.ifCond .lt 14, 3) := by decide +kernel
theorem dX9_isHeap_4 : decode cX9_isHeap 4 = .ok (.iload_n 0, 1) := by decide +kernel
theorem dX9_isHeap_5 : decode cX9_isHeap 5 = .ok (.ldc_w 304, 3) := by decide +kernel
theorem dX9_isHeap_8 : decode cX9_isHeap 8 = .ok (.if_icmp .gt 7, 3) := by decide +kernel
theorem dX9_isHeap_11 : decode cX9_isHeap 11 = .ok (.iconst 1, 1) := by decide +kernel
theorem dX9_isHeap_12 : decode cX9_isHeap 12 = .ok (.goto 4, 3) := by decide +kernel
theorem dX9_isHeap_15 : decode cX9_isHeap 15 = .ok (.iconst 0, 1) := by decide +kernel
theorem dX9_isHeap_16 : decode cX9_isHeap 16 = .ok (.ireturn, 1) := by decide +kernel
theorem dX9_isBound_0 : decode cX9_isBound 0 = .ok (.iload_n 0, 1) := by decide +kernel
theorem dX9_isBound_1 : decode cX9_isBound 1 = .ok (.iconst 1, 1) := by decide +kernel
theorem dX9_isBound_2 : decode cX9_isBound 2 = .ok (.if_icmp .lt 14, 3) := by decide +kernel
theorem dX9_isBound_5 : decode cX9_isBound 5 = .ok (.iload_n 0, 1) := by decide +kernel
theorem dX9_isBound_6 : decode cX9_isBound 6 = .ok (.sipush 9999, 3) := by decide +kernel
theorem dX9_isBound_9 : decode cX9_isBound 9 = .ok (.if_icmp .gt 7, 3) := by decide +kernel
theorem dX9_isBound_12 : decode cX9_isBound 12 = .ok (.iconst 1, 1) := by decide +kernel
theorem dX9_isBound_13 : decode cX9_isBound 13 = .ok (.goto 4, 3) := by decide +kernel
theorem dX9_isBound_16 : decode cX9_isBound 16 = .ok (.iconst 0, 1) := by decide +kernel
theorem dX9_isBound_17 : decode cX9_isBound 17 = .ok (.ireturn, 1) := by decide +kernel
theorem dX9_isUnder_0 : decode cX9_isUnder 0 = .ok (.iload_n 0, 1) := by decide +kernel
theorem dX9_isUnder_1 : decode cX9_isUnder 1 = .ok (.istore_n 2, 1) := by decide +kernel
theorem dX9_isUnder_2 : decode cX9_isUnder 2 = .ok (.iconst 0, 1) := by decide +kernel
theorem dX9_isUnder_3 : decode cX9_isUnder 3 = .ok (.istore_n 3, 1) := by decide +kernel
theorem dX9_isUnder_4 : decode cX9_isUnder 4 = .ok (.iload_n 3, 1) := by decide +kernel
theorem dX9_isUnder_5 : decode cX9_isUnder 5 = .ok (.iconst 3, 1) := by decide +kernel
theorem dX9_isUnder_6 : decode cX9_isUnder 6 = .ok (.if_icmp .ge 21, 3) := by decide +kernel
theorem dX9_isUnder_9 : decode cX9_isUnder 9 = .ok (.iload_n 2, 1) := by decide +kernel
theorem dX9_isUnder_10 : decode cX9_isUnder 10 = .ok (.iload_n 1, 1) := by decide +kernel
theorem dX9_isUnder_11 : decode cX9_isUnder 11 = .ok (.if_icmp .ne 5, 3) := by decide +kernel
theorem dX9_isUnder_14 : decode cX9_isUnder 14 = .ok (.iconst 1, 1) := by decide +kernel
theorem dX9_isUnder_15 : decode cX9_isUnder 15 = .ok (.ireturn, 1) := by decide +kernel
theorem dX9_isUnder_16 : decode cX9_isUnder 16 = .ok (.iload_n 2, 1) := by decide +kernel
theorem dX9_isUnder_17 : decode cX9_isUnder 17 = .ok (.invokestatic 305, 3) := by decide +kernel
theorem dX9_isUnder_20 : decode cX9_isUnder 20 = .ok (.istore_n 2, 1) := by decide +kernel
theorem dX9_isUnder_21 : decode cX9_isUnder 21 = .ok (.iinc 3 1, 3) := by decide +kernel
theorem dX9_isUnder_24 : decode cX9_isUnder 24 = .ok (.goto (-20), 3) := by decide +kernel
theorem dX9_isUnder_27 : decode cX9_isUnder 27 = .ok (.iconst 0, 1) := by decide +kernel
theorem dX9_isUnder_28 : decode cX9_isUnder 28 = .ok (.ireturn, 1) := by decide +kernel
theorem dX9_aboveOf_0 : decode cX9_aboveOf 0 = .ok (.iload_n 0, 1) := by decide +kernel
theorem dX9_aboveOf_1 : decode cX9_aboveOf 1 = .ok (.ifCond .lt 19, 3) := by decide +kernel
theorem dX9_aboveOf_4 : decode cX9_aboveOf 4 = .ok (.iload_n 0, 1) := by decide +kernel
theorem dX9_aboveOf_5 : decode cX9_aboveOf 5 = .ok (.getstatic 308, 3) := by decide +kernel
theorem dX9_aboveOf_8 : decode cX9_aboveOf 8 = .ok (.arraylength, 1) := by decide +kernel
theorem dX9_aboveOf_9 : decode cX9_aboveOf 9 = .ok (.if_icmp .ge 11, 3) := by decide +kernel
theorem dX9_aboveOf_12 : decode cX9_aboveOf 12 = .ok (.getstatic 308, 3) := by decide +kernel
theorem dX9_aboveOf_15 : decode cX9_aboveOf 15 = .ok (.iload_n 0, 1) := by decide +kernel
theorem dX9_aboveOf_16 : decode cX9_aboveOf 16 = .ok (.iaload, 1) := by decide +kernel
theorem dX9_aboveOf_17 : decode cX9_aboveOf 17 = .ok (.goto 4, 3) := by decide +kernel
theorem dX9_aboveOf_20 : decode cX9_aboveOf 20 = .ok (.iconst (-1), 1) := by decide +kernel
theorem dX9_aboveOf_21 : decode cX9_aboveOf 21 = .ok (.ireturn, 1) := by decide +kernel
theorem dX9_heldVillage_0 : decode cX9_heldVillage 0 = .ok (.aload_n 0, 1) := by decide +kernel
theorem dX9_heldVillage_1 : decode cX9_heldVillage 1 = .ok (.getfield 12, 3) := by decide +kernel
theorem dX9_heldVillage_4 : decode cX9_heldVillage 4 = .ok (.getfield 145, 3) := by decide +kernel
theorem dX9_heldVillage_7 : decode cX9_heldVillage 7 = .ok (.istore_n 1, 1) := by decide +kernel
theorem dX9_heldVillage_8 : decode cX9_heldVillage 8 = .ok (.iload_n 1, 1) := by decide +kernel
theorem dX9_heldVillage_9 : decode cX9_heldVillage 9 = .ok (.ifCond .lt 12, 3) := by decide +kernel
theorem dX9_heldVillage_12 : decode cX9_heldVillage 12 = .ok (.iload_n 1, 1) := by decide +kernel
theorem dX9_heldVillage_13 : decode cX9_heldVillage 13 = .ok (.aload_n 0, 1) := by decide +kernel
theorem dX9_heldVillage_14 : decode cX9_heldVillage 14 = .ok (.getfield 39, 3) := by decide +kernel
theorem dX9_heldVillage_17 : decode cX9_heldVillage 17 = .ok (.arraylength, 1) := by decide +kernel
theorem dX9_heldVillage_18 : decode cX9_heldVillage 18 = .ok (.if_icmp .lt 8, 3) := by decide +kernel
theorem dX9_heldVillage_21 : decode cX9_heldVillage 21 = .ok (.aload_n 0, 1) := by decide +kernel
theorem dX9_heldVillage_22 : decode cX9_heldVillage 22 = .ok (.getfield 35, 3) := by decide +kernel
theorem dX9_heldVillage_25 : decode cX9_heldVillage 25 = .ok (.areturn, 1) := by decide +kernel
theorem dX9_heldVillage_26 : decode cX9_heldVillage 26 = .ok (.aload_n 0, 1) := by decide +kernel
theorem dX9_heldVillage_27 : decode cX9_heldVillage 27 = .ok (.getfield 39, 3) := by decide +kernel
theorem dX9_heldVillage_30 : decode cX9_heldVillage 30 = .ok (.iload_n 1, 1) := by decide +kernel
theorem dX9_heldVillage_31 : decode cX9_heldVillage 31 = .ok (.aaload, 1) := by decide +kernel
theorem dX9_heldVillage_32 : decode cX9_heldVillage 32 = .ok (.astore_n 2, 1) := by decide +kernel
theorem dX9_heldVillage_33 : decode cX9_heldVillage 33 = .ok (.aload_n 2, 1) := by decide +kernel
theorem dX9_heldVillage_34 : decode cX9_heldVillage 34 = .ok (.ifnonnull 10, 3) := by decide +kernel
theorem dX9_heldVillage_37 : decode cX9_heldVillage 37 = .ok (.aload_n 0, 1) := by decide +kernel
theorem dX9_heldVillage_38 : decode cX9_heldVillage 38 = .ok (.getfield 35, 3) := by decide +kernel
theorem dX9_heldVillage_41 : decode cX9_heldVillage 41 = .ok (.goto 4, 3) := by decide +kernel
theorem dX9_heldVillage_44 : decode cX9_heldVillage 44 = .ok (.aload_n 2, 1) := by decide +kernel
theorem dX9_heldVillage_45 : decode cX9_heldVillage 45 = .ok (.areturn, 1) := by decide +kernel
theorem dX9_readyWaking_0 : decode cX9_readyWaking 0 = .ok (.aload_n 0, 1) := by decide +kernel
theorem dX9_readyWaking_1 : decode cX9_readyWaking 1 = .ok (.invokevirtual 148, 3) := by decide +kernel
theorem dX9_readyWaking_4 : decode cX9_readyWaking 4 = .ok (.astore_n 2, 1) := by decide +kernel
theorem dX9_readyWaking_5 : decode cX9_readyWaking 5 = .ok (.aload_n 0, 1) := by decide +kernel
theorem dX9_readyWaking_6 : decode cX9_readyWaking 6 = .ok (.getfield 50, 3) := by decide +kernel
theorem dX9_readyWaking_9 : decode cX9_readyWaking 9 = .ok (.aload_n 0, 1) := by decide +kernel
theorem dX9_readyWaking_10 : decode cX9_readyWaking 10 = .ok (.getfield 12, 3) := by decide +kernel
theorem dX9_readyWaking_13 : decode cX9_readyWaking 13 = .ok (.aload_n 2, 1) := by decide +kernel
theorem dX9_readyWaking_14 : decode cX9_readyWaking 14 = .ok (.invokevirtual 311, 3) := by decide +kernel
theorem dX9_readyWaking_17 : decode cX9_readyWaking 17 = .ok (.aload_n 0, 1) := by decide +kernel
theorem dX9_readyWaking_18 : decode cX9_readyWaking 18 = .ok (.getfield 50, 3) := by decide +kernel
theorem dX9_readyWaking_21 : decode cX9_readyWaking 21 = .ok (.aload_n 2, 1) := by decide +kernel
theorem dX9_readyWaking_22 : decode cX9_readyWaking 22 = .ok (.iload_n 1, 1) := by decide +kernel
theorem dX9_readyWaking_23 : decode cX9_readyWaking 23 = .ok (.iconst 0, 1) := by decide +kernel
theorem dX9_readyWaking_24 : decode cX9_readyWaking 24 = .ok (.invokevirtual 315, 3) := by decide +kernel
theorem dX9_readyWaking_27 : decode cX9_readyWaking 27 = .ok (.aload_n 0, 1) := by decide +kernel
theorem dX9_readyWaking_28 : decode cX9_readyWaking 28 = .ok (.getfield 50, 3) := by decide +kernel
theorem dX9_readyWaking_31 : decode cX9_readyWaking 31 = .ok (.areturn, 1) := by decide +kernel
theorem dX9_readyNight_0 : decode cX9_readyNight 0 = .ok (.aload_n 0, 1) := by decide +kernel
theorem dX9_readyNight_1 : decode cX9_readyNight 1 = .ok (.getfield 57, 3) := by decide +kernel
theorem dX9_readyNight_4 : decode cX9_readyNight 4 = .ok (.aload_n 0, 1) := by decide +kernel
theorem dX9_readyNight_5 : decode cX9_readyNight 5 = .ok (.getfield 12, 3) := by decide +kernel
theorem dX9_readyNight_8 : decode cX9_readyNight 8 = .ok (.aload_n 0, 1) := by decide +kernel
theorem dX9_readyNight_9 : decode cX9_readyNight 9 = .ok (.invokevirtual 148, 3) := by decide +kernel
theorem dX9_readyNight_12 : decode cX9_readyNight 12 = .ok (.invokevirtual 319, 3) := by decide +kernel
theorem dX9_readyNight_15 : decode cX9_readyNight 15 = .ok (.aload_n 0, 1) := by decide +kernel
theorem dX9_readyNight_16 : decode cX9_readyNight 16 = .ok (.getfield 57, 3) := by decide +kernel
theorem dX9_readyNight_19 : decode cX9_readyNight 19 = .ok (.areturn, 1) := by decide +kernel
theorem dX9_tapeAt_0 : decode cX9_tapeAt 0 = .ok (.iload_n 1, 1) := by decide +kernel
theorem dX9_tapeAt_1 : decode cX9_tapeAt 1 = .ok (.ifCond .lt 21, 3) := by decide +kernel
theorem dX9_tapeAt_4 : decode cX9_tapeAt 4 = .ok (.iload_n 1, 1) := by decide +kernel
theorem dX9_tapeAt_5 : decode cX9_tapeAt 5 = .ok (.aload_n 0, 1) := by decide +kernel
theorem dX9_tapeAt_6 : decode cX9_tapeAt 6 = .ok (.getfield 84, 3) := by decide +kernel
theorem dX9_tapeAt_9 : decode cX9_tapeAt 9 = .ok (.arraylength, 1) := by decide +kernel
theorem dX9_tapeAt_10 : decode cX9_tapeAt 10 = .ok (.if_icmp .ge 12, 3) := by decide +kernel
theorem dX9_tapeAt_13 : decode cX9_tapeAt 13 = .ok (.aload_n 0, 1) := by decide +kernel
theorem dX9_tapeAt_14 : decode cX9_tapeAt 14 = .ok (.getfield 84, 3) := by decide +kernel
theorem dX9_tapeAt_17 : decode cX9_tapeAt 17 = .ok (.iload_n 1, 1) := by decide +kernel
theorem dX9_tapeAt_18 : decode cX9_tapeAt 18 = .ok (.aaload, 1) := by decide +kernel
theorem dX9_tapeAt_19 : decode cX9_tapeAt 19 = .ok (.goto 4, 3) := by decide +kernel
theorem dX9_tapeAt_22 : decode cX9_tapeAt 22 = .ok (.aconst_null, 1) := by decide +kernel
theorem dX9_tapeAt_23 : decode cX9_tapeAt 23 = .ok (.areturn, 1) := by decide +kernel
theorem dX9_ofFraction_0 : decode cX9_ofFraction 0 = .ok (.iload 4, 2) := by decide +kernel
theorem dX9_ofFraction_2 : decode cX9_ofFraction 2 = .ok (.ifCond .lt 9, 3) := by decide +kernel
theorem dX9_ofFraction_5 : decode cX9_ofFraction 5 = .ok (.iload 4, 2) := by decide +kernel
theorem dX9_ofFraction_7 : decode cX9_ofFraction 7 = .ok (.iconst 1, 1) := by decide +kernel
theorem dX9_ofFraction_8 : decode cX9_ofFraction 8 = .ok (.if_icmp .le 7, 3) := by decide +kernel
theorem dX9_ofFraction_11 : decode cX9_ofFraction 11 = .ok (.ldc2_w 216, 3) := by decide +kernel
theorem dX9_ofFraction_14 : decode cX9_ofFraction 14 = .ok (.lreturn, 1) := by decide +kernel
theorem dX9_ofFraction_15 : decode cX9_ofFraction 15 = .ok (.lload_n 0, 1) := by decide +kernel
theorem dX9_ofFraction_16 : decode cX9_ofFraction 16 = .ok (.invokestatic 320, 3) := by decide +kernel
theorem dX9_ofFraction_19 : decode cX9_ofFraction 19 = .ok (.lload_n 2, 1) := by decide +kernel
theorem dX9_ofFraction_20 : decode cX9_ofFraction 20 = .ok (.invokestatic 326, 3) := by decide +kernel
theorem dX9_ofFraction_23 : decode cX9_ofFraction 23 = .ok (.lstore 5, 2) := by decide +kernel
theorem dX9_ofFraction_25 : decode cX9_ofFraction 25 = .ok (.lload 5, 2) := by decide +kernel
theorem dX9_ofFraction_27 : decode cX9_ofFraction 27 = .ok (.lconst 1, 1) := by decide +kernel
theorem dX9_ofFraction_28 : decode cX9_ofFraction 28 = .ok (.lcmp, 1) := by decide +kernel
theorem dX9_ofFraction_29 : decode cX9_ofFraction 29 = .ok (.ifCond .ge 7, 3) := by decide +kernel
theorem dX9_ofFraction_32 : decode cX9_ofFraction 32 = .ok (.ldc2_w 216, 3) := by decide +kernel
theorem dX9_ofFraction_35 : decode cX9_ofFraction 35 = .ok (.lreturn, 1) := by decide +kernel
theorem dX9_ofFraction_36 : decode cX9_ofFraction 36 = .ok (.iload 4, 2) := by decide +kernel
theorem dX9_ofFraction_38 : decode cX9_ofFraction 38 = .ok (.ifCond .ne 7, 3) := by decide +kernel
theorem dX9_ofFraction_41 : decode cX9_ofFraction 41 = .ok (.lload_n 0, 1) := by decide +kernel
theorem dX9_ofFraction_42 : decode cX9_ofFraction 42 = .ok (.goto 4, 3) := by decide +kernel
theorem dX9_ofFraction_45 : decode cX9_ofFraction 45 = .ok (.lload_n 2, 1) := by decide +kernel
theorem dX9_ofFraction_46 : decode cX9_ofFraction 46 = .ok (.lload 5, 2) := by decide +kernel
theorem dX9_ofFraction_48 : decode cX9_ofFraction 48 = .ok (.ldiv, 1) := by decide +kernel
theorem dX9_ofFraction_49 : decode cX9_ofFraction 49 = .ok (.lreturn, 1) := by decide +kernel
theorem dX9_commonDivisor_0 : decode cX9_commonDivisor 0 = .ok (.iconst 0, 1) := by decide +kernel
theorem dX9_commonDivisor_1 : decode cX9_commonDivisor 1 = .ok (.istore 4, 2) := by decide +kernel
theorem dX9_commonDivisor_3 : decode cX9_commonDivisor 3 = .ok (.iload 4, 2) := by decide +kernel
theorem dX9_commonDivisor_5 : decode cX9_commonDivisor 5 = .ok (.bipush 100, 2) := by decide +kernel
theorem dX9_commonDivisor_7 : decode cX9_commonDivisor 7 = .ok (.if_icmp .ge 25, 3) := by decide +kernel
theorem dX9_commonDivisor_10 : decode cX9_commonDivisor 10 = .ok (.lload_n 2, 1) := by decide +kernel
theorem dX9_commonDivisor_11 : decode cX9_commonDivisor 11 = .ok (.lconst 0, 1) := by decide +kernel
theorem dX9_commonDivisor_12 : decode cX9_commonDivisor 12 = .ok (.lcmp, 1) := by decide +kernel
theorem dX9_commonDivisor_13 : decode cX9_commonDivisor 13 = .ok (.ifCond .eq 19, 3) := by decide +kernel
theorem dX9_commonDivisor_16 : decode cX9_commonDivisor 16 = .ok (.lload_n 0, 1) := by decide +kernel
theorem dX9_commonDivisor_17 : decode cX9_commonDivisor 17 = .ok (.lload_n 2, 1) := by decide +kernel
theorem dX9_commonDivisor_18 : decode cX9_commonDivisor 18 = .ok (.lrem, 1) := by decide +kernel
theorem dX9_commonDivisor_19 : decode cX9_commonDivisor 19 = .ok (.lstore 5, 2) := by decide +kernel
theorem dX9_commonDivisor_21 : decode cX9_commonDivisor 21 = .ok (.lload_n 2, 1) := by decide +kernel
theorem dX9_commonDivisor_22 : decode cX9_commonDivisor 22 = .ok (.lstore_n 0, 1) := by decide +kernel
theorem dX9_commonDivisor_23 : decode cX9_commonDivisor 23 = .ok (.lload 5, 2) := by decide +kernel
theorem dX9_commonDivisor_25 : decode cX9_commonDivisor 25 = .ok (.lstore_n 2, 1) := by decide +kernel
theorem dX9_commonDivisor_26 : decode cX9_commonDivisor 26 = .ok (.iinc 4 1, 3) := by decide +kernel
theorem dX9_commonDivisor_29 : decode cX9_commonDivisor 29 = .ok (.goto (-26), 3) := by decide +kernel
theorem dX9_commonDivisor_32 : decode cX9_commonDivisor 32 = .ok (.lload_n 0, 1) := by decide +kernel
theorem dX9_commonDivisor_33 : decode cX9_commonDivisor 33 = .ok (.lreturn, 1) := by decide +kernel
theorem dX10_init_0 : decode cX10_init 0 = .ok (.aload_n 0, 1) := by decide +kernel
theorem dX10_init_1 : decode cX10_init 1 = .ok (.invokespecial 1, 3) := by decide +kernel
theorem dX10_init_4 : decode cX10_init 4 = .ok (.aload_n 0, 1) := by decide +kernel
theorem dX10_init_5 : decode cX10_init 5 = .ok (.iconst 0, 1) := by decide +kernel
theorem dX10_init_6 : decode cX10_init 6 = .ok (.putfield 7, 3) := by decide +kernel
theorem dX10_init_9 : decode cX10_init 9 = .ok (.aload_n 0, 1) := by decide +kernel
theorem dX10_init_10 : decode cX10_init 10 = .ok (.iconst 0, 1) := by decide +kernel
theorem dX10_init_11 : decode cX10_init 11 = .ok (.putfield 13, 3) := by decide +kernel
theorem dX10_init_14 : decode cX10_init 14 = .ok (.aload_n 0, 1) := by decide +kernel
theorem dX10_init_15 : decode cX10_init 15 = .ok (.iconst 0, 1) := by decide +kernel
theorem dX10_init_16 : decode cX10_init 16 = .ok (.putfield 16, 3) := by decide +kernel
theorem dX10_init_19 : decode cX10_init 19 = .ok (.aload_n 0, 1) := by decide +kernel
theorem dX10_init_20 : decode cX10_init 20 = .ok (.iconst 0, 1) := by decide +kernel
theorem dX10_init_21 : decode cX10_init 21 = .ok (.putfield 19, 3) := by decide +kernel
theorem dX10_init_24 : decode cX10_init 24 = .ok (.aload_n 0, 1) := by decide +kernel
theorem dX10_init_25 : decode cX10_init 25 = .ok (.bipush 6, 2) := by decide +kernel
theorem dX10_init_27 : decode cX10_init 27 = .ok (.newarray .int, 2) := by decide +kernel
theorem dX10_init_29 : decode cX10_init 29 = .ok (.putfield 22, 3) := by decide +kernel
theorem dX10_init_32 : decode cX10_init 32 = .ok (.aload_n 0, 1) := by decide +kernel
theorem dX10_init_33 : decode cX10_init 33 = .ok (.bipush 6, 2) := by decide +kernel
theorem dX10_init_35 : decode cX10_init 35 = .ok (.newarray .int, 2) := by decide +kernel
theorem dX10_init_37 : decode cX10_init 37 = .ok (.putfield 26, 3) := by decide +kernel
theorem dX10_init_40 : decode cX10_init 40 = .ok (.aload_n 0, 1) := by decide +kernel
theorem dX10_init_41 : decode cX10_init 41 = .ok (.bipush 6, 2) := by decide +kernel
theorem dX10_init_43 : decode cX10_init 43 = .ok (.newarray .int, 2) := by decide +kernel
theorem dX10_init_45 : decode cX10_init 45 = .ok (.putfield 29, 3) := by decide +kernel
theorem dX10_init_48 : decode cX10_init 48 = .ok (.aload_n 0, 1) := by decide +kernel
theorem dX10_init_49 : decode cX10_init 49 = .ok (.iconst 0, 1) := by decide +kernel
theorem dX10_init_50 : decode cX10_init 50 = .ok (.putfield 32, 3) := by decide +kernel
theorem dX10_init_53 : decode cX10_init 53 = .ok (.aload_n 0, 1) := by decide +kernel
theorem dX10_init_54 : decode cX10_init 54 = .ok (.iconst (-1), 1) := by decide +kernel
theorem dX10_init_55 : decode cX10_init 55 = .ok (.putfield 35, 3) := by decide +kernel
theorem dX10_init_58 : decode cX10_init 58 = .ok (.aload_n 0, 1) := by decide +kernel
theorem dX10_init_59 : decode cX10_init 59 = .ok (.iconst 0, 1) := by decide +kernel
theorem dX10_init_60 : decode cX10_init 60 = .ok (.putfield 38, 3) := by decide +kernel
theorem dX10_init_63 : decode cX10_init 63 = .ok (.aload_n 0, 1) := by decide +kernel
theorem dX10_init_64 : decode cX10_init 64 = .ok (.iconst 0, 1) := by decide +kernel
theorem dX10_init_65 : decode cX10_init 65 = .ok (.putfield 41, 3) := by decide +kernel
theorem dX10_init_68 : decode cX10_init 68 = .ok (.aload_n 0, 1) := by decide +kernel
theorem dX10_init_69 : decode cX10_init 69 = .ok (.iconst 0, 1) := by decide +kernel
theorem dX10_init_70 : decode cX10_init 70 = .ok (.putfield 44, 3) := by decide +kernel
theorem dX10_init_73 : decode cX10_init 73 = .ok (.aload_n 0, 1) := by decide +kernel
theorem dX10_init_74 : decode cX10_init 74 = .ok (.bipush 100, 2) := by decide +kernel
theorem dX10_init_76 : decode cX10_init 76 = .ok (.newarray .int, 2) := by decide +kernel
theorem dX10_init_78 : decode cX10_init 78 = .ok (.putfield 47, 3) := by decide +kernel
theorem dX10_init_81 : decode cX10_init 81 = .ok (.aload_n 0, 1) := by decide +kernel
theorem dX10_init_82 : decode cX10_init 82 = .ok (.bipush 6, 2) := by decide +kernel
theorem dX10_init_84 : decode cX10_init 84 = .ok (.newarray .int, 2) := by decide +kernel
theorem dX10_init_86 : decode cX10_init 86 = .ok (.putfield 50, 3) := by decide +kernel
theorem dX10_init_89 : decode cX10_init 89 = .ok (.aload_n 0, 1) := by decide +kernel
theorem dX10_init_90 : decode cX10_init 90 = .ok (.bipush 60, 2) := by decide +kernel
theorem dX10_init_92 : decode cX10_init 92 = .ok (.newarray .int, 2) := by decide +kernel
theorem dX10_init_94 : decode cX10_init 94 = .ok (.putfield 53, 3) := by decide +kernel
theorem dX10_init_97 : decode cX10_init 97 = .ok (.aload_n 0, 1) := by decide +kernel
theorem dX10_init_98 : decode cX10_init 98 = .ok (.bipush 60, 2) := by decide +kernel
theorem dX10_init_100 : decode cX10_init 100 = .ok (.newarray .int, 2) := by decide +kernel
theorem dX10_init_102 : decode cX10_init 102 = .ok (.putfield 56, 3) := by decide +kernel
theorem dX10_init_105 : decode cX10_init 105 = .ok (.aload_n 0, 1) := by decide +kernel
theorem dX10_init_106 : decode cX10_init 106 = .ok (.bipush 60, 2) := by decide +kernel
theorem dX10_init_108 : decode cX10_init 108 = .ok (.newarray .int, 2) := by decide +kernel
theorem dX10_init_110 : decode cX10_init 110 = .ok (.putfield 59, 3) := by decide +kernel
theorem dX10_init_113 : decode cX10_init 113 = .ok (.aload_n 0, 1) := by decide +kernel
theorem dX10_init_114 : decode cX10_init 114 = .ok (.bipush 60, 2) := by decide +kernel
theorem dX10_init_116 : decode cX10_init 116 = .ok (.newarray .int, 2) := by decide +kernel
theorem dX10_init_118 : decode cX10_init 118 = .ok (.putfield 62, 3) := by decide +kernel
theorem dX10_init_121 : decode cX10_init 121 = .ok (.aload_n 0, 1) := by decide +kernel
theorem dX10_init_122 : decode cX10_init 122 = .ok (.sipush 600, 3) := by decide +kernel
theorem dX10_init_125 : decode cX10_init 125 = .ok (.newarray .int, 2) := by decide +kernel
theorem dX10_init_127 : decode cX10_init 127 = .ok (.putfield 65, 3) := by decide +kernel
theorem dX10_init_130 : decode cX10_init 130 = .ok (.aload_n 0, 1) := by decide +kernel
theorem dX10_init_131 : decode cX10_init 131 = .ok (.bipush 101, 2) := by decide +kernel
theorem dX10_init_133 : decode cX10_init 133 = .ok (.newarray .int, 2) := by decide +kernel
theorem dX10_init_135 : decode cX10_init 135 = .ok (.putfield 68, 3) := by decide +kernel
theorem dX10_init_138 : decode cX10_init 138 = .ok (.aload_n 0, 1) := by decide +kernel
theorem dX10_init_139 : decode cX10_init 139 = .ok (.iconst 0, 1) := by decide +kernel
theorem dX10_init_140 : decode cX10_init 140 = .ok (.putfield 71, 3) := by decide +kernel
theorem dX10_init_143 : decode cX10_init 143 = .ok (.aload_n 0, 1) := by decide +kernel
theorem dX10_init_144 : decode cX10_init 144 = .ok (.iconst 0, 1) := by decide +kernel
theorem dX10_init_145 : decode cX10_init 145 = .ok (.putfield 74, 3) := by decide +kernel
theorem dX10_init_148 : decode cX10_init 148 = .ok (.aload_n 0, 1) := by decide +kernel
theorem dX10_init_149 : decode cX10_init 149 = .ok (.iconst 0, 1) := by decide +kernel
theorem dX10_init_150 : decode cX10_init 150 = .ok (.putfield 77, 3) := by decide +kernel
theorem dX10_init_153 : decode cX10_init 153 = .ok (.aload_n 0, 1) := by decide +kernel
theorem dX10_init_154 : decode cX10_init 154 = .ok (.bipush 18, 2) := by decide +kernel
theorem dX10_init_156 : decode cX10_init 156 = .ok (.newarray .int, 2) := by decide +kernel
theorem dX10_init_158 : decode cX10_init 158 = .ok (.dup, 1) := by decide +kernel
theorem dX10_init_159 : decode cX10_init 159 = .ok (.iconst 0, 1) := by decide +kernel
theorem dX10_init_160 : decode cX10_init 160 = .ok (.bipush 109, 2) := by decide +kernel
theorem dX10_init_162 : decode cX10_init 162 = .ok (.iastore, 1) := by decide +kernel
theorem dX10_init_163 : decode cX10_init 163 = .ok (.dup, 1) := by decide +kernel
theorem dX10_init_164 : decode cX10_init 164 = .ok (.iconst 1, 1) := by decide +kernel
theorem dX10_init_165 : decode cX10_init 165 = .ok (.bipush 101, 2) := by decide +kernel
theorem dX10_init_167 : decode cX10_init 167 = .ok (.iastore, 1) := by decide +kernel
theorem dX10_init_168 : decode cX10_init 168 = .ok (.dup, 1) := by decide +kernel
theorem dX10_init_169 : decode cX10_init 169 = .ok (.iconst 2, 1) := by decide +kernel
theorem dX10_init_170 : decode cX10_init 170 = .ok (.bipush 110, 2) := by decide +kernel
theorem dX10_init_172 : decode cX10_init 172 = .ok (.iastore, 1) := by decide +kernel
theorem dX10_init_173 : decode cX10_init 173 = .ok (.dup, 1) := by decide +kernel
theorem dX10_init_174 : decode cX10_init 174 = .ok (.iconst 3, 1) := by decide +kernel
theorem dX10_init_175 : decode cX10_init 175 = .ok (.bipush 111, 2) := by decide +kernel
theorem dX10_init_177 : decode cX10_init 177 = .ok (.iastore, 1) := by decide +kernel
theorem dX10_init_178 : decode cX10_init 178 = .ok (.dup, 1) := by decide +kernel
theorem dX10_init_179 : decode cX10_init 179 = .ok (.iconst 4, 1) := by decide +kernel
theorem dX10_init_180 : decode cX10_init 180 = .ok (.bipush 118, 2) := by decide +kernel
theorem dX10_init_182 : decode cX10_init 182 = .ok (.iastore, 1) := by decide +kernel
theorem dX10_init_183 : decode cX10_init 183 = .ok (.dup, 1) := by decide +kernel
theorem dX10_init_184 : decode cX10_init 184 = .ok (.iconst 5, 1) := by decide +kernel
theorem dX10_init_185 : decode cX10_init 185 = .ok (.bipush 101, 2) := by decide +kernel
theorem dX10_init_187 : decode cX10_init 187 = .ok (.iastore, 1) := by decide +kernel
theorem dX10_init_188 : decode cX10_init 188 = .ok (.dup, 1) := by decide +kernel
theorem dX10_init_189 : decode cX10_init 189 = .ok (.bipush 6, 2) := by decide +kernel
theorem dX10_init_191 : decode cX10_init 191 = .ok (.bipush 114, 2) := by decide +kernel
theorem dX10_init_193 : decode cX10_init 193 = .ok (.iastore, 1) := by decide +kernel
theorem dX10_init_194 : decode cX10_init 194 = .ok (.dup, 1) := by decide +kernel
theorem dX10_init_195 : decode cX10_init 195 = .ok (.bipush 7, 2) := by decide +kernel
theorem dX10_init_197 : decode cX10_init 197 = .ok (.bipush 98, 2) := by decide +kernel
theorem dX10_init_199 : decode cX10_init 199 = .ok (.iastore, 1) := by decide +kernel
theorem dX10_init_200 : decode cX10_init 200 = .ok (.dup, 1) := by decide +kernel
theorem dX10_init_201 : decode cX10_init 201 = .ok (.bipush 8, 2) := by decide +kernel
theorem dX10_init_203 : decode cX10_init 203 = .ok (.bipush 97, 2) := by decide +kernel
theorem dX10_init_205 : decode cX10_init 205 = .ok (.iastore, 1) := by decide +kernel
theorem dX10_init_206 : decode cX10_init 206 = .ok (.dup, 1) := by decide +kernel
theorem dX10_init_207 : decode cX10_init 207 = .ok (.bipush 9, 2) := by decide +kernel
theorem dX10_init_209 : decode cX10_init 209 = .ok (.bipush 99, 2) := by decide +kernel
theorem dX10_init_211 : decode cX10_init 211 = .ok (.iastore, 1) := by decide +kernel
theorem dX10_init_212 : decode cX10_init 212 = .ok (.dup, 1) := by decide +kernel
theorem dX10_init_213 : decode cX10_init 213 = .ok (.bipush 10, 2) := by decide +kernel
theorem dX10_init_215 : decode cX10_init 215 = .ok (.bipush 107, 2) := by decide +kernel
theorem dX10_init_217 : decode cX10_init 217 = .ok (.iastore, 1) := by decide +kernel
theorem dX10_init_218 : decode cX10_init 218 = .ok (.dup, 1) := by decide +kernel
theorem dX10_init_219 : decode cX10_init 219 = .ok (.bipush 11, 2) := by decide +kernel
theorem dX10_init_221 : decode cX10_init 221 = .ok (.bipush 109, 2) := by decide +kernel
theorem dX10_init_223 : decode cX10_init 223 = .ok (.iastore, 1) := by decide +kernel
theorem dX10_init_224 : decode cX10_init 224 = .ok (.dup, 1) := by decide +kernel
theorem dX10_init_225 : decode cX10_init 225 = .ok (.bipush 12, 2) := by decide +kernel
theorem dX10_init_227 : decode cX10_init 227 = .ok (.bipush 111, 2) := by decide +kernel
theorem dX10_init_229 : decode cX10_init 229 = .ok (.iastore, 1) := by decide +kernel
theorem dX10_init_230 : decode cX10_init 230 = .ok (.dup, 1) := by decide +kernel
theorem dX10_init_231 : decode cX10_init 231 = .ok (.bipush 13, 2) := by decide +kernel
theorem dX10_init_233 : decode cX10_init 233 = .ok (.bipush 114, 2) := by decide +kernel
theorem dX10_init_235 : decode cX10_init 235 = .ok (.iastore, 1) := by decide +kernel
theorem dX10_init_236 : decode cX10_init 236 = .ok (.dup, 1) := by decide +kernel
theorem dX10_init_237 : decode cX10_init 237 = .ok (.bipush 14, 2) := by decide +kernel
theorem dX10_init_239 : decode cX10_init 239 = .ok (.bipush 110, 2) := by decide +kernel
theorem dX10_init_241 : decode cX10_init 241 = .ok (.iastore, 1) := by decide +kernel
theorem dX10_init_242 : decode cX10_init 242 = .ok (.dup, 1) := by decide +kernel
theorem dX10_init_243 : decode cX10_init 243 = .ok (.bipush 15, 2) := by decide +kernel
theorem dX10_init_245 : decode cX10_init 245 = .ok (.bipush 105, 2) := by decide +kernel
theorem dX10_init_247 : decode cX10_init 247 = .ok (.iastore, 1) := by decide +kernel
theorem dX10_init_248 : decode cX10_init 248 = .ok (.dup, 1) := by decide +kernel
theorem dX10_init_249 : decode cX10_init 249 = .ok (.bipush 16, 2) := by decide +kernel
theorem dX10_init_251 : decode cX10_init 251 = .ok (.bipush 110, 2) := by decide +kernel
theorem dX10_init_253 : decode cX10_init 253 = .ok (.iastore, 1) := by decide +kernel
theorem dX10_init_254 : decode cX10_init 254 = .ok (.dup, 1) := by decide +kernel
theorem dX10_init_255 : decode cX10_init 255 = .ok (.bipush 17, 2) := by decide +kernel
theorem dX10_init_257 : decode cX10_init 257 = .ok (.bipush 103, 2) := by decide +kernel
theorem dX10_init_259 : decode cX10_init 259 = .ok (.iastore, 1) := by decide +kernel
theorem dX10_init_260 : decode cX10_init 260 = .ok (.putfield 80, 3) := by decide +kernel
theorem dX10_init_263 : decode cX10_init 263 = .ok (.aload_n 0, 1) := by decide +kernel
theorem dX10_init_264 : decode cX10_init 264 = .ok (.bipush 100, 2) := by decide +kernel
theorem dX10_init_266 : decode cX10_init 266 = .ok (.newarray .boolean, 2) := by decide +kernel
theorem dX10_init_268 : decode cX10_init 268 = .ok (.putfield 83, 3) := by decide +kernel
theorem dX10_init_271 : decode cX10_init 271 = .ok (.aload_n 0, 1) := by decide +kernel
theorem dX10_init_272 : decode cX10_init 272 = .ok (.iconst 0, 1) := by decide +kernel
theorem dX10_init_273 : decode cX10_init 273 = .ok (.putfield 87, 3) := by decide +kernel
theorem dX10_init_276 : decode cX10_init 276 = .ok (.aload_n 0, 1) := by decide +kernel
theorem dX10_init_277 : decode cX10_init 277 = .ok (.iconst 0, 1) := by decide +kernel
theorem dX10_init_278 : decode cX10_init 278 = .ok (.putfield 90, 3) := by decide +kernel
theorem dX10_init_281 : decode cX10_init 281 = .ok (.aload_n 0, 1) := by decide +kernel
theorem dX10_init_282 : decode cX10_init 282 = .ok (.iconst 0, 1) := by decide +kernel
theorem dX10_init_283 : decode cX10_init 283 = .ok (.putfield 93, 3) := by decide +kernel
theorem dX10_init_286 : decode cX10_init 286 = .ok (.aload_n 0, 1) := by decide +kernel
theorem dX10_init_287 : decode cX10_init 287 = .ok (.iconst 0, 1) := by decide +kernel
theorem dX10_init_288 : decode cX10_init 288 = .ok (.putfield 96, 3) := by decide +kernel
theorem dX10_init_291 : decode cX10_init 291 = .ok (.aload_n 0, 1) := by decide +kernel
theorem dX10_init_292 : decode cX10_init 292 = .ok (.iconst 0, 1) := by decide +kernel
theorem dX10_init_293 : decode cX10_init 293 = .ok (.putfield 99, 3) := by decide +kernel
theorem dX10_init_296 : decode cX10_init 296 = .ok (.aload_n 0, 1) := by decide +kernel
theorem dX10_init_297 : decode cX10_init 297 = .ok (.bipush 8, 2) := by decide +kernel
theorem dX10_init_299 : decode cX10_init 299 = .ok (.newarray .int, 2) := by decide +kernel
theorem dX10_init_301 : decode cX10_init 301 = .ok (.putfield 102, 3) := by decide +kernel
theorem dX10_init_304 : decode cX10_init 304 = .ok (.aload_n 0, 1) := by decide +kernel
theorem dX10_init_305 : decode cX10_init 305 = .ok (.bipush 6, 2) := by decide +kernel
theorem dX10_init_307 : decode cX10_init 307 = .ok (.newarray .int, 2) := by decide +kernel
theorem dX10_init_309 : decode cX10_init 309 = .ok (.putfield 105, 3) := by decide +kernel
theorem dX10_init_312 : decode cX10_init 312 = .ok (.aload_n 0, 1) := by decide +kernel
theorem dX10_init_313 : decode cX10_init 313 = .ok (.bipush 6, 2) := by decide +kernel
theorem dX10_init_315 : decode cX10_init 315 = .ok (.newarray .int, 2) := by decide +kernel
theorem dX10_init_317 : decode cX10_init 317 = .ok (.putfield 108, 3) := by decide +kernel
theorem dX10_init_320 : decode cX10_init 320 = .ok (.aload_n 0, 1) := by decide +kernel
theorem dX10_init_321 : decode cX10_init 321 = .ok (.bipush 42, 2) := by decide +kernel
theorem dX10_init_323 : decode cX10_init 323 = .ok (.newarray .int, 2) := by decide +kernel
theorem dX10_init_325 : decode cX10_init 325 = .ok (.putfield 111, 3) := by decide +kernel
theorem dX10_init_328 : decode cX10_init 328 = .ok (.aload_n 0, 1) := by decide +kernel
theorem dX10_init_329 : decode cX10_init 329 = .ok (.iconst 0, 1) := by decide +kernel
theorem dX10_init_330 : decode cX10_init 330 = .ok (.putfield 114, 3) := by decide +kernel
theorem dX10_init_333 : decode cX10_init 333 = .ok (.aload_n 0, 1) := by decide +kernel
theorem dX10_init_334 : decode cX10_init 334 = .ok (.bipush 12, 2) := by decide +kernel
theorem dX10_init_336 : decode cX10_init 336 = .ok (.newarray .int, 2) := by decide +kernel
theorem dX10_init_338 : decode cX10_init 338 = .ok (.putfield 117, 3) := by decide +kernel
theorem dX10_init_341 : decode cX10_init 341 = .ok (.aload_n 0, 1) := by decide +kernel
theorem dX10_init_342 : decode cX10_init 342 = .ok (.iconst 0, 1) := by decide +kernel
theorem dX10_init_343 : decode cX10_init 343 = .ok (.putfield 120, 3) := by decide +kernel
theorem dX10_init_346 : decode cX10_init 346 = .ok (.aload_n 0, 1) := by decide +kernel
theorem dX10_init_347 : decode cX10_init 347 = .ok (.iconst (-1), 1) := by decide +kernel
theorem dX10_init_348 : decode cX10_init 348 = .ok (.putfield 124, 3) := by decide +kernel
theorem dX10_init_351 : decode cX10_init 351 = .ok (.aload_n 0, 1) := by decide +kernel
theorem dX10_init_352 : decode cX10_init 352 = .ok (.iconst 0, 1) := by decide +kernel
theorem dX10_init_353 : decode cX10_init 353 = .ok (.putfield 127, 3) := by decide +kernel
theorem dX10_init_356 : decode cX10_init 356 = .ok (.aload_n 0, 1) := by decide +kernel
theorem dX10_init_357 : decode cX10_init 357 = .ok (.iconst 0, 1) := by decide +kernel
theorem dX10_init_358 : decode cX10_init 358 = .ok (.putfield 130, 3) := by decide +kernel
theorem dX10_init_361 : decode cX10_init 361 = .ok (.aload_n 0, 1) := by decide +kernel
theorem dX10_init_362 : decode cX10_init 362 = .ok (.iconst 0, 1) := by decide +kernel
theorem dX10_init_363 : decode cX10_init 363 = .ok (.putfield 133, 3) := by decide +kernel
theorem dX10_init_366 : decode cX10_init 366 = .ok (.aload_n 0, 1) := by decide +kernel
theorem dX10_init_367 : decode cX10_init 367 = .ok (.iconst 0, 1) := by decide +kernel
theorem dX10_init_368 : decode cX10_init 368 = .ok (.putfield 136, 3) := by decide +kernel
theorem dX10_init_371 : decode cX10_init 371 = .ok (.aload_n 0, 1) := by decide +kernel
theorem dX10_init_372 : decode cX10_init 372 = .ok (.iconst 0, 1) := by decide +kernel
theorem dX10_init_373 : decode cX10_init 373 = .ok (.putfield 139, 3) := by decide +kernel
theorem dX10_init_376 : decode cX10_init 376 = .ok (.aload_n 0, 1) := by decide +kernel
theorem dX10_init_377 : decode cX10_init 377 = .ok (.iconst 0, 1) := by decide +kernel
theorem dX10_init_378 : decode cX10_init 378 = .ok (.putfield 142, 3) := by decide +kernel
theorem dX10_init_381 : decode cX10_init 381 = .ok (.aload_n 0, 1) := by decide +kernel
theorem dX10_init_382 : decode cX10_init 382 = .ok (.bipush 6, 2) := by decide +kernel
theorem dX10_init_384 : decode cX10_init 384 = .ok (.newarray .int, 2) := by decide +kernel
theorem dX10_init_386 : decode cX10_init 386 = .ok (.putfield 145, 3) := by decide +kernel
theorem dX10_init_389 : decode cX10_init 389 = .ok (.aload_n 0, 1) := by decide +kernel
theorem dX10_init_390 : decode cX10_init 390 = .ok (.bipush 6, 2) := by decide +kernel
theorem dX10_init_392 : decode cX10_init 392 = .ok (.newarray .int, 2) := by decide +kernel
theorem dX10_init_394 : decode cX10_init 394 = .ok (.putfield 148, 3) := by decide +kernel
theorem dX10_init_397 : decode cX10_init 397 = .ok (.aload_n 0, 1) := by decide +kernel
theorem dX10_init_398 : decode cX10_init 398 = .ok (.bipush 6, 2) := by decide +kernel
theorem dX10_init_400 : decode cX10_init 400 = .ok (.newarray .int, 2) := by decide +kernel
theorem dX10_init_402 : decode cX10_init 402 = .ok (.putfield 151, 3) := by decide +kernel
theorem dX10_init_405 : decode cX10_init 405 = .ok (.aload_n 0, 1) := by decide +kernel
theorem dX10_init_406 : decode cX10_init 406 = .ok (.bipush 8, 2) := by decide +kernel
theorem dX10_init_408 : decode cX10_init 408 = .ok (.newarray .int, 2) := by decide +kernel
theorem dX10_init_410 : decode cX10_init 410 = .ok (.putfield 154, 3) := by decide +kernel
theorem dX10_init_413 : decode cX10_init 413 = .ok (.aload_n 0, 1) := by decide +kernel
theorem dX10_init_414 : decode cX10_init 414 = .ok (.bipush 12, 2) := by decide +kernel
theorem dX10_init_416 : decode cX10_init 416 = .ok (.newarray .int, 2) := by decide +kernel
theorem dX10_init_418 : decode cX10_init 418 = .ok (.putfield 157, 3) := by decide +kernel
theorem dX10_init_421 : decode cX10_init 421 = .ok (.aload_n 0, 1) := by decide +kernel
theorem dX10_init_422 : decode cX10_init 422 = .ok (.iconst 0, 1) := by decide +kernel
theorem dX10_init_423 : decode cX10_init 423 = .ok (.putfield 160, 3) := by decide +kernel
theorem dX10_init_426 : decode cX10_init 426 = .ok (.aload_n 0, 1) := by decide +kernel
theorem dX10_init_427 : decode cX10_init 427 = .ok (.bipush 20, 2) := by decide +kernel
theorem dX10_init_429 : decode cX10_init 429 = .ok (.newarray .int, 2) := by decide +kernel
theorem dX10_init_431 : decode cX10_init 431 = .ok (.putfield 163, 3) := by decide +kernel
theorem dX10_init_434 : decode cX10_init 434 = .ok (.aload_n 0, 1) := by decide +kernel
theorem dX10_init_435 : decode cX10_init 435 = .ok (.bipush 6, 2) := by decide +kernel
theorem dX10_init_437 : decode cX10_init 437 = .ok (.newarray .int, 2) := by decide +kernel
theorem dX10_init_439 : decode cX10_init 439 = .ok (.dup, 1) := by decide +kernel
theorem dX10_init_440 : decode cX10_init 440 = .ok (.iconst 0, 1) := by decide +kernel
theorem dX10_init_441 : decode cX10_init 441 = .ok (.iconst (-1), 1) := by decide +kernel
theorem dX10_init_442 : decode cX10_init 442 = .ok (.iastore, 1) := by decide +kernel
theorem dX10_init_443 : decode cX10_init 443 = .ok (.dup, 1) := by decide +kernel
theorem dX10_init_444 : decode cX10_init 444 = .ok (.iconst 1, 1) := by decide +kernel
theorem dX10_init_445 : decode cX10_init 445 = .ok (.iconst (-1), 1) := by decide +kernel
theorem dX10_init_446 : decode cX10_init 446 = .ok (.iastore, 1) := by decide +kernel
theorem dX10_init_447 : decode cX10_init 447 = .ok (.dup, 1) := by decide +kernel
theorem dX10_init_448 : decode cX10_init 448 = .ok (.iconst 2, 1) := by decide +kernel
theorem dX10_init_449 : decode cX10_init 449 = .ok (.iconst (-1), 1) := by decide +kernel
theorem dX10_init_450 : decode cX10_init 450 = .ok (.iastore, 1) := by decide +kernel
theorem dX10_init_451 : decode cX10_init 451 = .ok (.dup, 1) := by decide +kernel
theorem dX10_init_452 : decode cX10_init 452 = .ok (.iconst 3, 1) := by decide +kernel
theorem dX10_init_453 : decode cX10_init 453 = .ok (.iconst (-1), 1) := by decide +kernel
theorem dX10_init_454 : decode cX10_init 454 = .ok (.iastore, 1) := by decide +kernel
theorem dX10_init_455 : decode cX10_init 455 = .ok (.dup, 1) := by decide +kernel
theorem dX10_init_456 : decode cX10_init 456 = .ok (.iconst 4, 1) := by decide +kernel
theorem dX10_init_457 : decode cX10_init 457 = .ok (.iconst (-1), 1) := by decide +kernel
theorem dX10_init_458 : decode cX10_init 458 = .ok (.iastore, 1) := by decide +kernel
theorem dX10_init_459 : decode cX10_init 459 = .ok (.dup, 1) := by decide +kernel
theorem dX10_init_460 : decode cX10_init 460 = .ok (.iconst 5, 1) := by decide +kernel
theorem dX10_init_461 : decode cX10_init 461 = .ok (.iconst (-1), 1) := by decide +kernel
theorem dX10_init_462 : decode cX10_init 462 = .ok (.iastore, 1) := by decide +kernel
theorem dX10_init_463 : decode cX10_init 463 = .ok (.putfield 166, 3) := by decide +kernel
theorem dX10_init_466 : decode cX10_init 466 = .ok (.aload_n 0, 1) := by decide +kernel
theorem dX10_init_467 : decode cX10_init 467 = .ok (.bipush 6, 2) := by decide +kernel
theorem dX10_init_469 : decode cX10_init 469 = .ok (.newarray .int, 2) := by decide +kernel
theorem dX10_init_471 : decode cX10_init 471 = .ok (.putfield 169, 3) := by decide +kernel
theorem dX10_init_474 : decode cX10_init 474 = .ok (.aload_n 0, 1) := by decide +kernel
theorem dX10_init_475 : decode cX10_init 475 = .ok (.sipush 360, 3) := by decide +kernel
theorem dX10_init_478 : decode cX10_init 478 = .ok (.newarray .long, 2) := by decide +kernel
theorem dX10_init_480 : decode cX10_init 480 = .ok (.putfield 172, 3) := by decide +kernel
theorem dX10_init_483 : decode cX10_init 483 = .ok (.aload_n 0, 1) := by decide +kernel
theorem dX10_init_484 : decode cX10_init 484 = .ok (.bipush 60, 2) := by decide +kernel
theorem dX10_init_486 : decode cX10_init 486 = .ok (.newarray .long, 2) := by decide +kernel
theorem dX10_init_488 : decode cX10_init 488 = .ok (.putfield 176, 3) := by decide +kernel
theorem dX10_init_491 : decode cX10_init 491 = .ok (.return_, 1) := by decide +kernel
theorem dX10_in_0 : decode cX10_in 0 = .ok (.iload_n 1, 1) := by decide +kernel
theorem dX10_in_1 : decode cX10_in 1 = .ok (.iload_n 2, 1) := by decide +kernel
theorem dX10_in_2 : decode cX10_in 2 = .ok (.if_icmp .lt 12, 3) := by decide +kernel
theorem dX10_in_5 : decode cX10_in 5 = .ok (.iload_n 1, 1) := by decide +kernel
theorem dX10_in_6 : decode cX10_in 6 = .ok (.iload_n 3, 1) := by decide +kernel
theorem dX10_in_7 : decode cX10_in 7 = .ok (.if_icmp .gt 7, 3) := by decide +kernel
theorem dX10_in_10 : decode cX10_in 10 = .ok (.iconst 1, 1) := by decide +kernel
theorem dX10_in_11 : decode cX10_in 11 = .ok (.goto 4, 3) := by decide +kernel
theorem dX10_in_14 : decode cX10_in 14 = .ok (.iconst 0, 1) := by decide +kernel
theorem dX10_in_15 : decode cX10_in 15 = .ok (.ireturn, 1) := by decide +kernel
theorem dX10_isMan_0 : decode cX10_isMan 0 = .ok (.aload_n 0, 1) := by decide +kernel
theorem dX10_isMan_1 : decode cX10_isMan 1 = .ok (.iload_n 1, 1) := by decide +kernel
theorem dX10_isMan_2 : decode cX10_isMan 2 = .ok (.iconst 0, 1) := by decide +kernel
theorem dX10_isMan_3 : decode cX10_isMan 3 = .ok (.aload_n 0, 1) := by decide +kernel
theorem dX10_isMan_4 : decode cX10_isMan 4 = .ok (.getfield 7, 3) := by decide +kernel
theorem dX10_isMan_7 : decode cX10_isMan 7 = .ok (.iconst 1, 1) := by decide +kernel
theorem dX10_isMan_8 : decode cX10_isMan 8 = .ok (.isub, 1) := by decide +kernel
theorem dX10_isMan_9 : decode cX10_isMan 9 = .ok (.invokevirtual 179, 3) := by decide +kernel
theorem dX10_isMan_12 : decode cX10_isMan 12 = .ok (.ireturn, 1) := by decide +kernel
theorem dX10_isHeap_0 : decode cX10_isHeap 0 = .ok (.aload_n 0, 1) := by decide +kernel
theorem dX10_isHeap_1 : decode cX10_isHeap 1 = .ok (.iload_n 1, 1) := by decide +kernel
theorem dX10_isHeap_2 : decode cX10_isHeap 2 = .ok (.iconst 0, 1) := by decide +kernel
theorem dX10_isHeap_3 : decode cX10_isHeap 3 = .ok (.ldc 183, 2) := by decide +kernel
theorem dX10_isHeap_5 : decode cX10_isHeap 5 = .ok (.invokevirtual 179, 3) := by decide +kernel
theorem dX10_isHeap_8 : decode cX10_isHeap 8 = .ok (.ireturn, 1) := by decide +kernel
theorem dX10_man_0 : decode cX10_man 0 = .ok (.aload_n 0, 1) := by decide +kernel
theorem dX10_man_1 : decode cX10_man 1 = .ok (.iload_n 1, 1) := by decide +kernel
theorem dX10_man_2 : decode cX10_man 2 = .ok (.iconst 0, 1) := by decide +kernel
theorem dX10_man_3 : decode cX10_man 3 = .ok (.bipush 6, 2) := by decide +kernel
theorem dX10_man_5 : decode cX10_man 5 = .ok (.invokevirtual 179, 3) := by decide +kernel
theorem dX10_man_8 : decode cX10_man 8 = .ok (.ifCond .ne 5, 3) := by decide +kernel
theorem dX10_man_11 : decode cX10_man 11 = .ok (.iconst (-1), 1) := by decide +kernel
theorem dX10_man_12 : decode cX10_man 12 = .ok (.ireturn, 1) := by decide +kernel
theorem dX10_man_13 : decode cX10_man 13 = .ok (.aload_n 0, 1) := by decide +kernel
theorem dX10_man_14 : decode cX10_man 14 = .ok (.iload_n 2, 1) := by decide +kernel
theorem dX10_man_15 : decode cX10_man 15 = .ok (.iconst 0, 1) := by decide +kernel
theorem dX10_man_16 : decode cX10_man 16 = .ok (.bipush 9, 2) := by decide +kernel
theorem dX10_man_18 : decode cX10_man 18 = .ok (.invokevirtual 179, 3) := by decide +kernel
theorem dX10_man_21 : decode cX10_man 21 = .ok (.ifCond .ne 6, 3) := by decide +kernel
theorem dX10_man_24 : decode cX10_man 24 = .ok (.bipush (-2), 2) := by decide +kernel
theorem dX10_man_26 : decode cX10_man 26 = .ok (.ireturn, 1) := by decide +kernel
theorem dX10_man_27 : decode cX10_man 27 = .ok (.aload_n 0, 1) := by decide +kernel
theorem dX10_man_28 : decode cX10_man 28 = .ok (.getfield 7, 3) := by decide +kernel
theorem dX10_man_31 : decode cX10_man 31 = .ok (.bipush 6, 2) := by decide +kernel
theorem dX10_man_33 : decode cX10_man 33 = .ok (.if_icmp .ne 6, 3) := by decide +kernel
theorem dX10_man_36 : decode cX10_man 36 = .ok (.bipush (-4), 2) := by decide +kernel
theorem dX10_man_38 : decode cX10_man 38 = .ok (.ireturn, 1) := by decide +kernel
theorem dX10_man_39 : decode cX10_man 39 = .ok (.aload_n 0, 1) := by decide +kernel
theorem dX10_man_40 : decode cX10_man 40 = .ok (.getfield 22, 3) := by decide +kernel
theorem dX10_man_43 : decode cX10_man 43 = .ok (.aload_n 0, 1) := by decide +kernel
theorem dX10_man_44 : decode cX10_man 44 = .ok (.getfield 7, 3) := by decide +kernel
theorem dX10_man_47 : decode cX10_man 47 = .ok (.iload_n 1, 1) := by decide +kernel
theorem dX10_man_48 : decode cX10_man 48 = .ok (.iastore, 1) := by decide +kernel
theorem dX10_man_49 : decode cX10_man 49 = .ok (.aload_n 0, 1) := by decide +kernel
theorem dX10_man_50 : decode cX10_man 50 = .ok (.getfield 26, 3) := by decide +kernel
theorem dX10_man_53 : decode cX10_man 53 = .ok (.aload_n 0, 1) := by decide +kernel
theorem dX10_man_54 : decode cX10_man 54 = .ok (.getfield 7, 3) := by decide +kernel
theorem dX10_man_57 : decode cX10_man 57 = .ok (.iload_n 2, 1) := by decide +kernel
theorem dX10_man_58 : decode cX10_man 58 = .ok (.iastore, 1) := by decide +kernel
theorem dX10_man_59 : decode cX10_man 59 = .ok (.aload_n 0, 1) := by decide +kernel
theorem dX10_man_60 : decode cX10_man 60 = .ok (.getfield 29, 3) := by decide +kernel
theorem dX10_man_63 : decode cX10_man 63 = .ok (.aload_n 0, 1) := by decide +kernel
theorem dX10_man_64 : decode cX10_man 64 = .ok (.getfield 7, 3) := by decide +kernel
theorem dX10_man_67 : decode cX10_man 67 = .ok (.iconst 0, 1) := by decide +kernel
theorem dX10_man_68 : decode cX10_man 68 = .ok (.iastore, 1) := by decide +kernel
theorem dX10_man_69 : decode cX10_man 69 = .ok (.aload_n 0, 1) := by decide +kernel
theorem dX10_man_70 : decode cX10_man 70 = .ok (.dup, 1) := by decide +kernel
theorem dX10_man_71 : decode cX10_man 71 = .ok (.getfield 7, 3) := by decide +kernel
theorem dX10_man_74 : decode cX10_man 74 = .ok (.iconst 1, 1) := by decide +kernel
theorem dX10_man_75 : decode cX10_man 75 = .ok (.iadd, 1) := by decide +kernel
theorem dX10_man_76 : decode cX10_man 76 = .ok (.putfield 7, 3) := by decide +kernel
theorem dX10_man_79 : decode cX10_man 79 = .ok (.aload_n 0, 1) := by decide +kernel
theorem dX10_man_80 : decode cX10_man 80 = .ok (.getfield 7, 3) := by decide +kernel
theorem dX10_man_83 : decode cX10_man 83 = .ok (.iconst 1, 1) := by decide +kernel
theorem dX10_man_84 : decode cX10_man 84 = .ok (.isub, 1) := by decide +kernel
theorem dX10_man_85 : decode cX10_man 85 = .ok (.ireturn, 1) := by decide +kernel
theorem dX10_heap_0 : decode cX10_heap 0 = .ok (.aload_n 0, 1) := by decide +kernel
theorem dX10_heap_1 : decode cX10_heap 1 = .ok (.iload_n 1, 1) := by decide +kernel
theorem dX10_heap_2 : decode cX10_heap 2 = .ok (.invokevirtual 184, 3) := by decide +kernel
