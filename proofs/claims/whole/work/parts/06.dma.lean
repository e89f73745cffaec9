theorem dX10_init_0 : decode cX10_init 0 = .ok (.aload_n 0, 1) := by decide +kernel
theorem dX10_init_1 : decode cX10_init 1 = .ok (.invokespecial 1, 3) := by decide +kernel
theorem dX10_init_4 : decode cX10_init 4 = .ok (.aload_n 0, 1) := by decide +kernel
theorem dX10_init_5 : decode cX10_init 5 = .ok (.sipush 620, 3) := by decide +kernel
theorem dX10_init_8 : decode cX10_init 8 = .ok (.newarray .int, 2) := by decide +kernel
theorem dX10_init_10 : decode cX10_init 10 = .ok (.putfield 7, 3) := by decide +kernel
theorem dX10_init_13 : decode cX10_init 13 = .ok (.aload_n 0, 1) := by decide +kernel
theorem dX10_init_14 : decode cX10_init 14 = .ok (.sipush 4960, 3) := by decide +kernel
theorem dX10_init_17 : decode cX10_init 17 = .ok (.newarray .int, 2) := by decide +kernel
theorem dX10_init_19 : decode cX10_init 19 = .ok (.putfield 13, 3) := by decide +kernel
theorem dX10_init_22 : decode cX10_init 22 = .ok (.aload_n 0, 1) := by decide +kernel
theorem dX10_init_23 : decode cX10_init 23 = .ok (.sipush 200, 3) := by decide +kernel
theorem dX10_init_26 : decode cX10_init 26 = .ok (.newarray .int, 2) := by decide +kernel
theorem dX10_init_28 : decode cX10_init 28 = .ok (.putfield 16, 3) := by decide +kernel
theorem dX10_init_31 : decode cX10_init 31 = .ok (.aload_n 0, 1) := by decide +kernel
theorem dX10_init_32 : decode cX10_init 32 = .ok (.iconst 1, 1) := by decide +kernel
theorem dX10_init_33 : decode cX10_init 33 = .ok (.putfield 19, 3) := by decide +kernel
theorem dX10_init_36 : decode cX10_init 36 = .ok (.aload_n 0, 1) := by decide +kernel
theorem dX10_init_37 : decode cX10_init 37 = .ok (.sipush 200, 3) := by decide +kernel
theorem dX10_init_40 : decode cX10_init 40 = .ok (.putfield 23, 3) := by decide +kernel
theorem dX10_init_43 : decode cX10_init 43 = .ok (.aload_n 0, 1) := by decide +kernel
theorem dX10_init_44 : decode cX10_init 44 = .ok (.bipush 7, 2) := by decide +kernel
theorem dX10_init_46 : decode cX10_init 46 = .ok (.newarray .char, 2) := by decide +kernel
theorem dX10_init_48 : decode cX10_init 48 = .ok (.dup, 1) := by decide +kernel
theorem dX10_init_49 : decode cX10_init 49 = .ok (.iconst 0, 1) := by decide +kernel
theorem dX10_init_50 : decode cX10_init 50 = .ok (.bipush 70, 2) := by decide +kernel
theorem dX10_init_52 : decode cX10_init 52 = .ok (.castore, 1) := by decide +kernel
theorem dX10_init_53 : decode cX10_init 53 = .ok (.dup, 1) := by decide +kernel
theorem dX10_init_54 : decode cX10_init 54 = .ok (.iconst 1, 1) := by decide +kernel
theorem dX10_init_55 : decode cX10_init 55 = .ok (.bipush 67, 2) := by decide +kernel
theorem dX10_init_57 : decode cX10_init 57 = .ok (.castore, 1) := by decide +kernel
theorem dX10_init_58 : decode cX10_init 58 = .ok (.dup, 1) := by decide +kernel
theorem dX10_init_59 : decode cX10_init 59 = .ok (.iconst 2, 1) := by decide +kernel
theorem dX10_init_60 : decode cX10_init 60 = .ok (.bipush 71, 2) := by decide +kernel
theorem dX10_init_62 : decode cX10_init 62 = .ok (.castore, 1) := by decide +kernel
theorem dX10_init_63 : decode cX10_init 63 = .ok (.dup, 1) := by decide +kernel
theorem dX10_init_64 : decode cX10_init 64 = .ok (.iconst 3, 1) := by decide +kernel
theorem dX10_init_65 : decode cX10_init 65 = .ok (.bipush 68, 2) := by decide +kernel
theorem dX10_init_67 : decode cX10_init 67 = .ok (.castore, 1) := by decide +kernel
theorem dX10_init_68 : decode cX10_init 68 = .ok (.dup, 1) := by decide +kernel
theorem dX10_init_69 : decode cX10_init 69 = .ok (.iconst 4, 1) := by decide +kernel
theorem dX10_init_70 : decode cX10_init 70 = .ok (.bipush 65, 2) := by decide +kernel
theorem dX10_init_72 : decode cX10_init 72 = .ok (.castore, 1) := by decide +kernel
theorem dX10_init_73 : decode cX10_init 73 = .ok (.dup, 1) := by decide +kernel
theorem dX10_init_74 : decode cX10_init 74 = .ok (.iconst 5, 1) := by decide +kernel
theorem dX10_init_75 : decode cX10_init 75 = .ok (.bipush 69, 2) := by decide +kernel
theorem dX10_init_77 : decode cX10_init 77 = .ok (.castore, 1) := by decide +kernel
theorem dX10_init_78 : decode cX10_init 78 = .ok (.dup, 1) := by decide +kernel
theorem dX10_init_79 : decode cX10_init 79 = .ok (.bipush 6, 2) := by decide +kernel
theorem dX10_init_81 : decode cX10_init 81 = .ok (.bipush 66, 2) := by decide +kernel
theorem dX10_init_83 : decode cX10_init 83 = .ok (.castore, 1) := by decide +kernel
theorem dX10_init_84 : decode cX10_init 84 = .ok (.putfield 27, 3) := by decide +kernel
theorem dX10_init_87 : decode cX10_init 87 = .ok (.aload_n 0, 1) := by decide +kernel
theorem dX10_init_88 : decode cX10_init 88 = .ok (.bipush 30, 2) := by decide +kernel
theorem dX10_init_90 : decode cX10_init 90 = .ok (.newarray .char, 2) := by decide +kernel
theorem dX10_init_92 : decode cX10_init 92 = .ok (.dup, 1) := by decide +kernel
theorem dX10_init_93 : decode cX10_init 93 = .ok (.iconst 0, 1) := by decide +kernel
theorem dX10_init_94 : decode cX10_init 94 = .ok (.bipush 59, 2) := by decide +kernel
theorem dX10_init_96 : decode cX10_init 96 = .ok (.castore, 1) := by decide +kernel
theorem dX10_init_97 : decode cX10_init 97 = .ok (.dup, 1) := by decide +kernel
theorem dX10_init_98 : decode cX10_init 98 = .ok (.iconst 1, 1) := by decide +kernel
theorem dX10_init_99 : decode cX10_init 99 = .ok (.bipush 109, 2) := by decide +kernel
theorem dX10_init_101 : decode cX10_init 101 = .ok (.castore, 1) := by decide +kernel
theorem dX10_init_102 : decode cX10_init 102 = .ok (.dup, 1) := by decide +kernel
theorem dX10_init_103 : decode cX10_init 103 = .ok (.iconst 2, 1) := by decide +kernel
theorem dX10_init_104 : decode cX10_init 104 = .ok (.bipush 59, 2) := by decide +kernel
theorem dX10_init_106 : decode cX10_init 106 = .ok (.castore, 1) := by decide +kernel
theorem dX10_init_107 : decode cX10_init 107 = .ok (.dup, 1) := by decide +kernel
theorem dX10_init_108 : decode cX10_init 108 = .ok (.iconst 3, 1) := by decide +kernel
theorem dX10_init_109 : decode cX10_init 109 = .ok (.bipush 55, 2) := by decide +kernel
theorem dX10_init_111 : decode cX10_init 111 = .ok (.castore, 1) := by decide +kernel
theorem dX10_init_112 : decode cX10_init 112 = .ok (.dup, 1) := by decide +kernel
theorem dX10_init_113 : decode cX10_init 113 = .ok (.iconst 4, 1) := by decide +kernel
theorem dX10_init_114 : decode cX10_init 114 = .ok (.bipush 59, 2) := by decide +kernel
theorem dX10_init_116 : decode cX10_init 116 = .ok (.castore, 1) := by decide +kernel
theorem dX10_init_117 : decode cX10_init 117 = .ok (.dup, 1) := by decide +kernel
theorem dX10_init_118 : decode cX10_init 118 = .ok (.iconst 5, 1) := by decide +kernel
theorem dX10_init_119 : decode cX10_init 119 = .ok (.bipush 109, 2) := by decide +kernel
theorem dX10_init_121 : decode cX10_init 121 = .ok (.castore, 1) := by decide +kernel
theorem dX10_init_122 : decode cX10_init 122 = .ok (.dup, 1) := by decide +kernel
theorem dX10_init_123 : decode cX10_init 123 = .ok (.bipush 6, 2) := by decide +kernel
theorem dX10_init_125 : decode cX10_init 125 = .ok (.bipush 55, 2) := by decide +kernel
theorem dX10_init_127 : decode cX10_init 127 = .ok (.castore, 1) := by decide +kernel
theorem dX10_init_128 : decode cX10_init 128 = .ok (.dup, 1) := by decide +kernel
theorem dX10_init_129 : decode cX10_init 129 = .ok (.bipush 7, 2) := by decide +kernel
theorem dX10_init_131 : decode cX10_init 131 = .ok (.bipush 59, 2) := by decide +kernel
theorem dX10_init_133 : decode cX10_init 133 = .ok (.castore, 1) := by decide +kernel
theorem dX10_init_134 : decode cX10_init 134 = .ok (.dup, 1) := by decide +kernel
theorem dX10_init_135 : decode cX10_init 135 = .ok (.bipush 8, 2) := by decide +kernel
theorem dX10_init_137 : decode cX10_init 137 = .ok (.bipush 109, 2) := by decide +kernel
theorem dX10_init_139 : decode cX10_init 139 = .ok (.castore, 1) := by decide +kernel
theorem dX10_init_140 : decode cX10_init 140 = .ok (.dup, 1) := by decide +kernel
theorem dX10_init_141 : decode cX10_init 141 = .ok (.bipush 9, 2) := by decide +kernel
theorem dX10_init_143 : decode cX10_init 143 = .ok (.bipush 97, 2) := by decide +kernel
theorem dX10_init_145 : decode cX10_init 145 = .ok (.castore, 1) := by decide +kernel
theorem dX10_init_146 : decode cX10_init 146 = .ok (.dup, 1) := by decide +kernel
theorem dX10_init_147 : decode cX10_init 147 = .ok (.bipush 10, 2) := by decide +kernel
theorem dX10_init_149 : decode cX10_init 149 = .ok (.bipush 106, 2) := by decide +kernel
theorem dX10_init_151 : decode cX10_init 151 = .ok (.castore, 1) := by decide +kernel
theorem dX10_init_152 : decode cX10_init 152 = .ok (.dup, 1) := by decide +kernel
theorem dX10_init_153 : decode cX10_init 153 = .ok (.bipush 11, 2) := by decide +kernel
theorem dX10_init_155 : decode cX10_init 155 = .ok (.bipush 55, 2) := by decide +kernel
theorem dX10_init_157 : decode cX10_init 157 = .ok (.castore, 1) := by decide +kernel
theorem dX10_init_158 : decode cX10_init 158 = .ok (.dup, 1) := by decide +kernel
theorem dX10_init_159 : decode cX10_init 159 = .ok (.bipush 12, 2) := by decide +kernel
theorem dX10_init_161 : decode cX10_init 161 = .ok (.bipush 59, 2) := by decide +kernel
theorem dX10_init_163 : decode cX10_init 163 = .ok (.castore, 1) := by decide +kernel
theorem dX10_init_164 : decode cX10_init 164 = .ok (.dup, 1) := by decide +kernel
theorem dX10_init_165 : decode cX10_init 165 = .ok (.bipush 13, 2) := by decide +kernel
theorem dX10_init_167 : decode cX10_init 167 = .ok (.bipush 100, 2) := by decide +kernel
theorem dX10_init_169 : decode cX10_init 169 = .ok (.castore, 1) := by decide +kernel
theorem dX10_init_170 : decode cX10_init 170 = .ok (.dup, 1) := by decide +kernel
theorem dX10_init_171 : decode cX10_init 171 = .ok (.bipush 14, 2) := by decide +kernel
theorem dX10_init_173 : decode cX10_init 173 = .ok (.bipush 105, 2) := by decide +kernel
theorem dX10_init_175 : decode cX10_init 175 = .ok (.castore, 1) := by decide +kernel
theorem dX10_init_176 : decode cX10_init 176 = .ok (.dup, 1) := by decide +kernel
theorem dX10_init_177 : decode cX10_init 177 = .ok (.bipush 15, 2) := by decide +kernel
theorem dX10_init_179 : decode cX10_init 179 = .ok (.bipush 109, 2) := by decide +kernel
theorem dX10_init_181 : decode cX10_init 181 = .ok (.castore, 1) := by decide +kernel
theorem dX10_init_182 : decode cX10_init 182 = .ok (.dup, 1) := by decide +kernel
theorem dX10_init_183 : decode cX10_init 183 = .ok (.bipush 16, 2) := by decide +kernel
theorem dX10_init_185 : decode cX10_init 185 = .ok (.bipush 59, 2) := by decide +kernel
theorem dX10_init_187 : decode cX10_init 187 = .ok (.castore, 1) := by decide +kernel
theorem dX10_init_188 : decode cX10_init 188 = .ok (.dup, 1) := by decide +kernel
theorem dX10_init_189 : decode cX10_init 189 = .ok (.bipush 17, 2) := by decide +kernel
theorem dX10_init_191 : decode cX10_init 191 = .ok (.bipush 97, 2) := by decide +kernel
theorem dX10_init_193 : decode cX10_init 193 = .ok (.castore, 1) := by decide +kernel
theorem dX10_init_194 : decode cX10_init 194 = .ok (.dup, 1) := by decide +kernel
theorem dX10_init_195 : decode cX10_init 195 = .ok (.bipush 18, 2) := by decide +kernel
theorem dX10_init_197 : decode cX10_init 197 = .ok (.bipush 117, 2) := by decide +kernel
theorem dX10_init_199 : decode cX10_init 199 = .ok (.castore, 1) := by decide +kernel
theorem dX10_init_200 : decode cX10_init 200 = .ok (.dup, 1) := by decide +kernel
theorem dX10_init_201 : decode cX10_init 201 = .ok (.bipush 19, 2) := by decide +kernel
theorem dX10_init_203 : decode cX10_init 203 = .ok (.bipush 103, 2) := by decide +kernel
theorem dX10_init_205 : decode cX10_init 205 = .ok (.castore, 1) := by decide +kernel
theorem dX10_init_206 : decode cX10_init 206 = .ok (.dup, 1) := by decide +kernel
theorem dX10_init_207 : decode cX10_init 207 = .ok (.bipush 20, 2) := by decide +kernel
theorem dX10_init_209 : decode cX10_init 209 = .ok (.bipush 59, 2) := by decide +kernel
theorem dX10_init_211 : decode cX10_init 211 = .ok (.castore, 1) := by decide +kernel
theorem dX10_init_212 : decode cX10_init 212 = .ok (.dup, 1) := by decide +kernel
theorem dX10_init_213 : decode cX10_init 213 = .ok (.bipush 21, 2) := by decide +kernel
theorem dX10_init_215 : decode cX10_init 215 = .ok (.bipush 115, 2) := by decide +kernel
theorem dX10_init_217 : decode cX10_init 217 = .ok (.castore, 1) := by decide +kernel
theorem dX10_init_218 : decode cX10_init 218 = .ok (.dup, 1) := by decide +kernel
theorem dX10_init_219 : decode cX10_init 219 = .ok (.bipush 22, 2) := by decide +kernel
theorem dX10_init_221 : decode cX10_init 221 = .ok (.bipush 117, 2) := by decide +kernel
theorem dX10_init_223 : decode cX10_init 223 = .ok (.castore, 1) := by decide +kernel
theorem dX10_init_224 : decode cX10_init 224 = .ok (.dup, 1) := by decide +kernel
theorem dX10_init_225 : decode cX10_init 225 = .ok (.bipush 23, 2) := by decide +kernel
theorem dX10_init_227 : decode cX10_init 227 = .ok (.bipush 115, 2) := by decide +kernel
theorem dX10_init_229 : decode cX10_init 229 = .ok (.castore, 1) := by decide +kernel
theorem dX10_init_230 : decode cX10_init 230 = .ok (.dup, 1) := by decide +kernel
theorem dX10_init_231 : decode cX10_init 231 = .ok (.bipush 24, 2) := by decide +kernel
theorem dX10_init_233 : decode cX10_init 233 = .ok (.bipush 52, 2) := by decide +kernel
theorem dX10_init_235 : decode cX10_init 235 = .ok (.castore, 1) := by decide +kernel
theorem dX10_init_236 : decode cX10_init 236 = .ok (.dup, 1) := by decide +kernel
theorem dX10_init_237 : decode cX10_init 237 = .ok (.bipush 25, 2) := by decide +kernel
theorem dX10_init_239 : decode cX10_init 239 = .ok (.bipush 59, 2) := by decide +kernel
theorem dX10_init_241 : decode cX10_init 241 = .ok (.castore, 1) := by decide +kernel
theorem dX10_init_242 : decode cX10_init 242 = .ok (.dup, 1) := by decide +kernel
theorem dX10_init_243 : decode cX10_init 243 = .ok (.bipush 26, 2) := by decide +kernel
theorem dX10_init_245 : decode cX10_init 245 = .ok (.bipush 54, 2) := by decide +kernel
theorem dX10_init_247 : decode cX10_init 247 = .ok (.castore, 1) := by decide +kernel
theorem dX10_init_248 : decode cX10_init 248 = .ok (.dup, 1) := by decide +kernel
theorem dX10_init_249 : decode cX10_init 249 = .ok (.bipush 27, 2) := by decide +kernel
theorem dX10_init_251 : decode cX10_init 251 = .ok (.bipush 59, 2) := by decide +kernel
theorem dX10_init_253 : decode cX10_init 253 = .ok (.castore, 1) := by decide +kernel
theorem dX10_init_254 : decode cX10_init 254 = .ok (.dup, 1) := by decide +kernel
theorem dX10_init_255 : decode cX10_init 255 = .ok (.bipush 28, 2) := by decide +kernel
theorem dX10_init_257 : decode cX10_init 257 = .ok (.bipush 57, 2) := by decide +kernel
theorem dX10_init_259 : decode cX10_init 259 = .ok (.castore, 1) := by decide +kernel
theorem dX10_init_260 : decode cX10_init 260 = .ok (.dup, 1) := by decide +kernel
theorem dX10_init_261 : decode cX10_init 261 = .ok (.bipush 29, 2) := by decide +kernel
theorem dX10_init_263 : decode cX10_init 263 = .ok (.bipush 59, 2) := by decide +kernel
theorem dX10_init_265 : decode cX10_init 265 = .ok (.castore, 1) := by decide +kernel
theorem dX10_init_266 : decode cX10_init 266 = .ok (.putfield 31, 3) := by decide +kernel
theorem dX10_init_269 : decode cX10_init 269 = .ok (.aload_n 0, 1) := by decide +kernel
theorem dX10_init_270 : decode cX10_init 270 = .ok (.sipush 620, 3) := by decide +kernel
theorem dX10_init_273 : decode cX10_init 273 = .ok (.newarray .int, 2) := by decide +kernel
theorem dX10_init_275 : decode cX10_init 275 = .ok (.putfield 34, 3) := by decide +kernel
theorem dX10_init_278 : decode cX10_init 278 = .ok (.aload_n 0, 1) := by decide +kernel
theorem dX10_init_279 : decode cX10_init 279 = .ok (.bipush 20, 2) := by decide +kernel
theorem dX10_init_281 : decode cX10_init 281 = .ok (.newarray .int, 2) := by decide +kernel
theorem dX10_init_283 : decode cX10_init 283 = .ok (.putfield 37, 3) := by decide +kernel
theorem dX10_init_286 : decode cX10_init 286 = .ok (.aload_n 0, 1) := by decide +kernel
theorem dX10_init_287 : decode cX10_init 287 = .ok (.sipush 1200, 3) := by decide +kernel
theorem dX10_init_290 : decode cX10_init 290 = .ok (.newarray .int, 2) := by decide +kernel
theorem dX10_init_292 : decode cX10_init 292 = .ok (.putfield 40, 3) := by decide +kernel
theorem dX10_init_295 : decode cX10_init 295 = .ok (.aload_n 0, 1) := by decide +kernel
theorem dX10_init_296 : decode cX10_init 296 = .ok (.sipush 1200, 3) := by decide +kernel
theorem dX10_init_299 : decode cX10_init 299 = .ok (.newarray .int, 2) := by decide +kernel
theorem dX10_init_301 : decode cX10_init 301 = .ok (.putfield 43, 3) := by decide +kernel
theorem dX10_init_304 : decode cX10_init 304 = .ok (.aload_n 0, 1) := by decide +kernel
theorem dX10_init_305 : decode cX10_init 305 = .ok (.getfield 7, 3) := by decide +kernel
theorem dX10_init_308 : decode cX10_init 308 = .ok (.iconst 0, 1) := by decide +kernel
theorem dX10_init_309 : decode cX10_init 309 = .ok (.iconst 1, 1) := by decide +kernel
theorem dX10_init_310 : decode cX10_init 310 = .ok (.iastore, 1) := by decide +kernel
theorem dX10_init_311 : decode cX10_init 311 = .ok (.return_, 1) := by decide +kernel
theorem dX10_thrown_0 : decode cX10_thrown 0 = .ok (.aload_n 0, 1) := by decide +kernel
theorem dX10_thrown_1 : decode cX10_thrown 1 = .ok (.getfield 46, 3) := by decide +kernel
theorem dX10_thrown_4 : decode cX10_thrown 4 = .ok (.ireturn, 1) := by decide +kernel
theorem dX10_in_0 : decode cX10_in 0 = .ok (.iload_n 0, 1) := by decide +kernel
theorem dX10_in_1 : decode cX10_in 1 = .ok (.iload_n 1, 1) := by decide +kernel
theorem dX10_in_2 : decode cX10_in 2 = .ok (.if_icmp .lt 12, 3) := by decide +kernel
theorem dX10_in_5 : decode cX10_in 5 = .ok (.iload_n 0, 1) := by decide +kernel
theorem dX10_in_6 : decode cX10_in 6 = .ok (.iload_n 2, 1) := by decide +kernel
theorem dX10_in_7 : decode cX10_in 7 = .ok (.if_icmp .gt 7, 3) := by decide +kernel
theorem dX10_in_10 : decode cX10_in 10 = .ok (.iconst 1, 1) := by decide +kernel
theorem dX10_in_11 : decode cX10_in 11 = .ok (.goto 4, 3) := by decide +kernel
theorem dX10_in_14 : decode cX10_in 14 = .ok (.iconst 0, 1) := by decide +kernel
theorem dX10_in_15 : decode cX10_in 15 = .ok (.ireturn, 1) := by decide +kernel
theorem dX10_fails_0 : decode cX10_fails 0 = .ok (.aload_n 0, 1) := by decide +kernel
theorem dX10_fails_1 : decode cX10_fails 1 = .ok (.iload_n 1, 1) := by decide +kernel
theorem dX10_fails_2 : decode cX10_fails 2 = .ok (.putfield 46, 3) := by decide +kernel
theorem dX10_fails_5 : decode cX10_fails 5 = .ok (.iconst 0, 1) := by decide +kernel
theorem dX10_fails_6 : decode cX10_fails 6 = .ok (.ireturn, 1) := by decide +kernel
theorem dX10_acts_0 : decode cX10_acts 0 = .ok (.aload_n 0, 1) := by decide +kernel
theorem dX10_acts_1 : decode cX10_acts 1 = .ok (.getfield 49, 3) := by decide +kernel
theorem dX10_acts_4 : decode cX10_acts 4 = .ok (.bipush 8, 2) := by decide +kernel
theorem dX10_acts_6 : decode cX10_acts 6 = .ok (.if_icmp .ne 44, 3) := by decide +kernel
theorem dX10_acts_9 : decode cX10_acts 9 = .ok (.iconst 0, 1) := by decide +kernel
theorem dX10_acts_10 : decode cX10_acts 10 = .ok (.istore_n 1, 1) := by decide +kernel
theorem dX10_acts_11 : decode cX10_acts 11 = .ok (.iload_n 1, 1) := by decide +kernel
theorem dX10_acts_12 : decode cX10_acts 12 = .ok (.sipush 4340, 3) := by decide +kernel
theorem dX10_acts_15 : decode cX10_acts 15 = .ok (.if_icmp .ge 25, 3) := by decide +kernel
theorem dX10_acts_18 : decode cX10_acts 18 = .ok (.aload_n 0, 1) := by decide +kernel
theorem dX10_acts_19 : decode cX10_acts 19 = .ok (.getfield 13, 3) := by decide +kernel
theorem dX10_acts_22 : decode cX10_acts 22 = .ok (.iload_n 1, 1) := by decide +kernel
theorem dX10_acts_23 : decode cX10_acts 23 = .ok (.aload_n 0, 1) := by decide +kernel
theorem dX10_acts_24 : decode cX10_acts 24 = .ok (.getfield 13, 3) := by decide +kernel
theorem dX10_acts_27 : decode cX10_acts 27 = .ok (.iload_n 1, 1) := by decide +kernel
theorem dX10_acts_28 : decode cX10_acts 28 = .ok (.sipush 620, 3) := by decide +kernel
theorem dX10_acts_31 : decode cX10_acts 31 = .ok (.iadd, 1) := by decide +kernel
theorem dX10_acts_32 : decode cX10_acts 32 = .ok (.iaload, 1) := by decide +kernel
theorem dX10_acts_33 : decode cX10_acts 33 = .ok (.iastore, 1) := by decide +kernel
theorem dX10_acts_34 : decode cX10_acts 34 = .ok (.iinc 1 1, 3) := by decide +kernel
theorem dX10_acts_37 : decode cX10_acts 37 = .ok (.goto (-26), 3) := by decide +kernel
theorem dX10_acts_40 : decode cX10_acts 40 = .ok (.aload_n 0, 1) := by decide +kernel
theorem dX10_acts_41 : decode cX10_acts 41 = .ok (.dup, 1) := by decide +kernel
theorem dX10_acts_42 : decode cX10_acts 42 = .ok (.getfield 49, 3) := by decide +kernel
theorem dX10_acts_45 : decode cX10_acts 45 = .ok (.iconst 1, 1) := by decide +kernel
theorem dX10_acts_46 : decode cX10_acts 46 = .ok (.isub, 1) := by decide +kernel
theorem dX10_acts_47 : decode cX10_acts 47 = .ok (.putfield 49, 3) := by decide +kernel
theorem dX10_acts_50 : decode cX10_acts 50 = .ok (.iconst 0, 1) := by decide +kernel
theorem dX10_acts_51 : decode cX10_acts 51 = .ok (.istore_n 1, 1) := by decide +kernel
theorem dX10_acts_52 : decode cX10_acts 52 = .ok (.iload_n 1, 1) := by decide +kernel
theorem dX10_acts_53 : decode cX10_acts 53 = .ok (.sipush 620, 3) := by decide +kernel
theorem dX10_acts_56 : decode cX10_acts 56 = .ok (.if_icmp .ge 30, 3) := by decide +kernel
theorem dX10_acts_59 : decode cX10_acts 59 = .ok (.aload_n 0, 1) := by decide +kernel
theorem dX10_acts_60 : decode cX10_acts 60 = .ok (.getfield 13, 3) := by decide +kernel
theorem dX10_acts_63 : decode cX10_acts 63 = .ok (.sipush 620, 3) := by decide +kernel
theorem dX10_acts_66 : decode cX10_acts 66 = .ok (.aload_n 0, 1) := by decide +kernel
theorem dX10_acts_67 : decode cX10_acts 67 = .ok (.getfield 49, 3) := by decide +kernel
theorem dX10_acts_70 : decode cX10_acts 70 = .ok (.imul, 1) := by decide +kernel
theorem dX10_acts_71 : decode cX10_acts 71 = .ok (.iload_n 1, 1) := by decide +kernel
theorem dX10_acts_72 : decode cX10_acts 72 = .ok (.iadd, 1) := by decide +kernel
theorem dX10_acts_73 : decode cX10_acts 73 = .ok (.aload_n 0, 1) := by decide +kernel
theorem dX10_acts_74 : decode cX10_acts 74 = .ok (.getfield 7, 3) := by decide +kernel
theorem dX10_acts_77 : decode cX10_acts 77 = .ok (.iload_n 1, 1) := by decide +kernel
theorem dX10_acts_78 : decode cX10_acts 78 = .ok (.iaload, 1) := by decide +kernel
theorem dX10_acts_79 : decode cX10_acts 79 = .ok (.iastore, 1) := by decide +kernel
theorem dX10_acts_80 : decode cX10_acts 80 = .ok (.iinc 1 1, 3) := by decide +kernel
theorem dX10_acts_83 : decode cX10_acts 83 = .ok (.goto (-31), 3) := by decide +kernel
theorem dX10_acts_86 : decode cX10_acts 86 = .ok (.aload_n 0, 1) := by decide +kernel
theorem dX10_acts_87 : decode cX10_acts 87 = .ok (.dup, 1) := by decide +kernel
theorem dX10_acts_88 : decode cX10_acts 88 = .ok (.getfield 49, 3) := by decide +kernel
theorem dX10_acts_91 : decode cX10_acts 91 = .ok (.iconst 1, 1) := by decide +kernel
theorem dX10_acts_92 : decode cX10_acts 92 = .ok (.iadd, 1) := by decide +kernel
theorem dX10_acts_93 : decode cX10_acts 93 = .ok (.putfield 49, 3) := by decide +kernel
theorem dX10_acts_96 : decode cX10_acts 96 = .ok (.return_, 1) := by decide +kernel
theorem dX10_chord_0 : decode cX10_chord 0 = .ok (.sipush 210, 3) := by decide +kernel
theorem dX10_chord_3 : decode cX10_chord 3 = .ok (.iconst 5, 1) := by decide +kernel
theorem dX10_chord_4 : decode cX10_chord 4 = .ok (.iload_n 0, 1) := by decide +kernel
theorem dX10_chord_5 : decode cX10_chord 5 = .ok (.imul, 1) := by decide +kernel
theorem dX10_chord_6 : decode cX10_chord 6 = .ok (.iadd, 1) := by decide +kernel
theorem dX10_chord_7 : decode cX10_chord 7 = .ok (.ireturn, 1) := by decide +kernel
theorem dX10_mod12_0 : decode cX10_mod12 0 = .ok (.iload_n 0, 1) := by decide +kernel
theorem dX10_mod12_1 : decode cX10_mod12 1 = .ok (.bipush 12, 2) := by decide +kernel
theorem dX10_mod12_3 : decode cX10_mod12 3 = .ok (.irem, 1) := by decide +kernel
theorem dX10_mod12_4 : decode cX10_mod12 4 = .ok (.bipush 12, 2) := by decide +kernel
theorem dX10_mod12_6 : decode cX10_mod12 6 = .ok (.iadd, 1) := by decide +kernel
theorem dX10_mod12_7 : decode cX10_mod12 7 = .ok (.bipush 12, 2) := by decide +kernel
theorem dX10_mod12_9 : decode cX10_mod12 9 = .ok (.irem, 1) := by decide +kernel
theorem dX10_mod12_10 : decode cX10_mod12 10 = .ok (.ireturn, 1) := by decide +kernel
theorem dX10_pitch_0 : decode cX10_pitch 0 = .ok (.bipush 7, 2) := by decide +kernel
theorem dX10_pitch_2 : decode cX10_pitch 2 = .ok (.iload_n 0, 1) := by decide +kernel
theorem dX10_pitch_3 : decode cX10_pitch 3 = .ok (.imul, 1) := by decide +kernel
theorem dX10_pitch_4 : decode cX10_pitch 4 = .ok (.invokestatic 52, 3) := by decide +kernel
theorem dX10_pitch_7 : decode cX10_pitch 7 = .ok (.ireturn, 1) := by decide +kernel
theorem dX10_placeOf_0 : decode cX10_placeOf 0 = .ok (.iconst 0, 1) := by decide +kernel
theorem dX10_placeOf_1 : decode cX10_placeOf 1 = .ok (.istore_n 2, 1) := by decide +kernel
theorem dX10_placeOf_2 : decode cX10_placeOf 2 = .ok (.iload_n 2, 1) := by decide +kernel
theorem dX10_placeOf_3 : decode cX10_placeOf 3 = .ok (.aload_n 0, 1) := by decide +kernel
theorem dX10_placeOf_4 : decode cX10_placeOf 4 = .ok (.getfield 27, 3) := by decide +kernel
theorem dX10_placeOf_7 : decode cX10_placeOf 7 = .ok (.arraylength, 1) := by decide +kernel
theorem dX10_placeOf_8 : decode cX10_placeOf 8 = .ok (.if_icmp .ge 23, 3) := by decide +kernel
theorem dX10_placeOf_11 : decode cX10_placeOf 11 = .ok (.aload_n 0, 1) := by decide +kernel
theorem dX10_placeOf_12 : decode cX10_placeOf 12 = .ok (.getfield 27, 3) := by decide +kernel
theorem dX10_placeOf_15 : decode cX10_placeOf 15 = .ok (.iload_n 2, 1) := by decide +kernel
theorem dX10_placeOf_16 : decode cX10_placeOf 16 = .ok (.caload, 1) := by decide +kernel
theorem dX10_placeOf_17 : decode cX10_placeOf 17 = .ok (.iload_n 1, 1) := by decide +kernel
theorem dX10_placeOf_18 : decode cX10_placeOf 18 = .ok (.if_icmp .ne 7, 3) := by decide +kernel
theorem dX10_placeOf_21 : decode cX10_placeOf 21 = .ok (.iload_n 2, 1) := by decide +kernel
theorem dX10_placeOf_22 : decode cX10_placeOf 22 = .ok (.iconst 1, 1) := by decide +kernel
theorem dX10_placeOf_23 : decode cX10_placeOf 23 = .ok (.isub, 1) := by decide +kernel
theorem dX10_placeOf_24 : decode cX10_placeOf 24 = .ok (.ireturn, 1) := by decide +kernel
theorem dX10_placeOf_25 : decode cX10_placeOf 25 = .ok (.iinc 2 1, 3) := by decide +kernel
theorem dX10_placeOf_28 : decode cX10_placeOf 28 = .ok (.goto (-26), 3) := by decide +kernel
theorem dX10_placeOf_31 : decode cX10_placeOf 31 = .ok (.bipush 100, 2) := by decide +kernel
theorem dX10_placeOf_33 : decode cX10_placeOf 33 = .ok (.ireturn, 1) := by decide +kernel
theorem dX10_sign_0 : decode cX10_sign 0 = .ok (.iload_n 1, 1) := by decide +kernel
theorem dX10_sign_1 : decode cX10_sign 1 = .ok (.aload_n 0, 1) := by decide +kernel
theorem dX10_sign_2 : decode cX10_sign 2 = .ok (.getfield 56, 3) := by decide +kernel
theorem dX10_sign_5 : decode cX10_sign 5 = .ok (.if_icmp .ge 12, 3) := by decide +kernel
theorem dX10_sign_8 : decode cX10_sign 8 = .ok (.aload_n 0, 1) := by decide +kernel
theorem dX10_sign_9 : decode cX10_sign 9 = .ok (.getfield 16, 3) := by decide +kernel
theorem dX10_sign_12 : decode cX10_sign 12 = .ok (.iload_n 1, 1) := by decide +kernel
theorem dX10_sign_13 : decode cX10_sign 13 = .ok (.iaload, 1) := by decide +kernel
theorem dX10_sign_14 : decode cX10_sign 14 = .ok (.goto 4, 3) := by decide +kernel
theorem dX10_sign_17 : decode cX10_sign 17 = .ok (.iconst (-1), 1) := by decide +kernel
theorem dX10_sign_18 : decode cX10_sign 18 = .ok (.ireturn, 1) := by decide +kernel
theorem dX10_readsNote_0 : decode cX10_readsNote 0 = .ok (.aload_n 0, 1) := by decide +kernel
theorem dX10_readsNote_1 : decode cX10_readsNote 1 = .ok (.aload_n 0, 1) := by decide +kernel
theorem dX10_readsNote_2 : decode cX10_readsNote 2 = .ok (.aload_n 0, 1) := by decide +kernel
theorem dX10_readsNote_3 : decode cX10_readsNote 3 = .ok (.aload_n 0, 1) := by decide +kernel
theorem dX10_readsNote_4 : decode cX10_readsNote 4 = .ok (.getfield 59, 3) := by decide +kernel
theorem dX10_readsNote_7 : decode cX10_readsNote 7 = .ok (.invokevirtual 62, 3) := by decide +kernel
theorem dX10_readsNote_10 : decode cX10_readsNote 10 = .ok (.invokevirtual 65, 3) := by decide +kernel
theorem dX10_readsNote_13 : decode cX10_readsNote 13 = .ok (.putfield 68, 3) := by decide +kernel
theorem dX10_readsNote_16 : decode cX10_readsNote 16 = .ok (.aload_n 0, 1) := by decide +kernel
theorem dX10_readsNote_17 : decode cX10_readsNote 17 = .ok (.getfield 68, 3) := by decide +kernel
theorem dX10_readsNote_20 : decode cX10_readsNote 20 = .ok (.bipush 100, 2) := by decide +kernel
theorem dX10_readsNote_22 : decode cX10_readsNote 22 = .ok (.if_icmp .ne 5, 3) := by decide +kernel
theorem dX10_readsNote_25 : decode cX10_readsNote 25 = .ok (.iconst 0, 1) := by decide +kernel
theorem dX10_readsNote_26 : decode cX10_readsNote 26 = .ok (.ireturn, 1) := by decide +kernel
theorem dX10_readsNote_27 : decode cX10_readsNote 27 = .ok (.aload_n 0, 1) := by decide +kernel
theorem dX10_readsNote_28 : decode cX10_readsNote 28 = .ok (.dup, 1) := by decide +kernel
theorem dX10_readsNote_29 : decode cX10_readsNote 29 = .ok (.getfield 59, 3) := by decide +kernel
theorem dX10_readsNote_32 : decode cX10_readsNote 32 = .ok (.iconst 1, 1) := by decide +kernel
theorem dX10_readsNote_33 : decode cX10_readsNote 33 = .ok (.iadd, 1) := by decide +kernel
theorem dX10_readsNote_34 : decode cX10_readsNote 34 = .ok (.putfield 59, 3) := by decide +kernel
theorem dX10_readsNote_37 : decode cX10_readsNote 37 = .ok (.aload_n 0, 1) := by decide +kernel
theorem dX10_readsNote_38 : decode cX10_readsNote 38 = .ok (.aload_n 0, 1) := by decide +kernel
theorem dX10_readsNote_39 : decode cX10_readsNote 39 = .ok (.getfield 59, 3) := by decide +kernel
theorem dX10_readsNote_42 : decode cX10_readsNote 42 = .ok (.invokevirtual 62, 3) := by decide +kernel
theorem dX10_readsNote_45 : decode cX10_readsNote 45 = .ok (.bipush 35, 2) := by decide +kernel
theorem dX10_readsNote_47 : decode cX10_readsNote 47 = .ok (.if_icmp .eq 16, 3) := by decide +kernel
theorem dX10_readsNote_50 : decode cX10_readsNote 50 = .ok (.aload_n 0, 1) := by decide +kernel
theorem dX10_readsNote_51 : decode cX10_readsNote 51 = .ok (.aload_n 0, 1) := by decide +kernel
theorem dX10_readsNote_52 : decode cX10_readsNote 52 = .ok (.getfield 59, 3) := by decide +kernel
theorem dX10_readsNote_55 : decode cX10_readsNote 55 = .ok (.invokevirtual 62, 3) := by decide +kernel
theorem dX10_readsNote_58 : decode cX10_readsNote 58 = .ok (.bipush 98, 2) := by decide +kernel
theorem dX10_readsNote_60 : decode cX10_readsNote 60 = .ok (.if_icmp .ne 42, 3) := by decide +kernel
theorem dX10_readsNote_63 : decode cX10_readsNote 63 = .ok (.aload_n 0, 1) := by decide +kernel
theorem dX10_readsNote_64 : decode cX10_readsNote 64 = .ok (.dup, 1) := by decide +kernel
theorem dX10_readsNote_65 : decode cX10_readsNote 65 = .ok (.getfield 68, 3) := by decide +kernel
theorem dX10_readsNote_68 : decode cX10_readsNote 68 = .ok (.aload_n 0, 1) := by decide +kernel
theorem dX10_readsNote_69 : decode cX10_readsNote 69 = .ok (.aload_n 0, 1) := by decide +kernel
theorem dX10_readsNote_70 : decode cX10_readsNote 70 = .ok (.getfield 59, 3) := by decide +kernel
theorem dX10_readsNote_73 : decode cX10_readsNote 73 = .ok (.invokevirtual 62, 3) := by decide +kernel
theorem dX10_readsNote_76 : decode cX10_readsNote 76 = .ok (.bipush 35, 2) := by decide +kernel
theorem dX10_readsNote_78 : decode cX10_readsNote 78 = .ok (.if_icmp .ne 8, 3) := by decide +kernel
theorem dX10_readsNote_81 : decode cX10_readsNote 81 = .ok (.bipush 7, 2) := by decide +kernel
theorem dX10_readsNote_83 : decode cX10_readsNote 83 = .ok (.goto 5, 3) := by decide +kernel
theorem dX10_readsNote_86 : decode cX10_readsNote 86 = .ok (.bipush (-7), 2) := by decide +kernel
theorem dX10_readsNote_88 : decode cX10_readsNote 88 = .ok (.iadd, 1) := by decide +kernel
theorem dX10_readsNote_89 : decode cX10_readsNote 89 = .ok (.putfield 68, 3) := by decide +kernel
theorem dX10_readsNote_92 : decode cX10_readsNote 92 = .ok (.aload_n 0, 1) := by decide +kernel
theorem dX10_readsNote_93 : decode cX10_readsNote 93 = .ok (.dup, 1) := by decide +kernel
theorem dX10_readsNote_94 : decode cX10_readsNote 94 = .ok (.getfield 59, 3) := by decide +kernel
theorem dX10_readsNote_97 : decode cX10_readsNote 97 = .ok (.iconst 1, 1) := by decide +kernel
theorem dX10_readsNote_98 : decode cX10_readsNote 98 = .ok (.iadd, 1) := by decide +kernel
theorem dX10_readsNote_99 : decode cX10_readsNote 99 = .ok (.putfield 59, 3) := by decide +kernel
theorem dX10_readsNote_102 : decode cX10_readsNote 102 = .ok (.iconst 1, 1) := by decide +kernel
theorem dX10_readsNote_103 : decode cX10_readsNote 103 = .ok (.ireturn, 1) := by decide +kernel
theorem dX10_likeQuality_0 : decode cX10_likeQuality 0 = .ok (.iconst 0, 1) := by decide +kernel
theorem dX10_likeQuality_1 : decode cX10_likeQuality 1 = .ok (.istore_n 2, 1) := by decide +kernel
theorem dX10_likeQuality_2 : decode cX10_likeQuality 2 = .ok (.iconst 0, 1) := by decide +kernel
theorem dX10_likeQuality_3 : decode cX10_likeQuality 3 = .ok (.istore_n 3, 1) := by decide +kernel
theorem dX10_likeQuality_4 : decode cX10_likeQuality 4 = .ok (.iconst 0, 1) := by decide +kernel
theorem dX10_likeQuality_5 : decode cX10_likeQuality 5 = .ok (.istore 4, 2) := by decide +kernel
theorem dX10_likeQuality_7 : decode cX10_likeQuality 7 = .ok (.iload 4, 2) := by decide +kernel
theorem dX10_likeQuality_9 : decode cX10_likeQuality 9 = .ok (.aload_n 0, 1) := by decide +kernel
theorem dX10_likeQuality_10 : decode cX10_likeQuality 10 = .ok (.getfield 31, 3) := by decide +kernel
theorem dX10_likeQuality_13 : decode cX10_likeQuality 13 = .ok (.arraylength, 1) := by decide +kernel
theorem dX10_likeQuality_14 : decode cX10_likeQuality 14 = .ok (.if_icmp .ge 39, 3) := by decide +kernel
theorem dX10_likeQuality_17 : decode cX10_likeQuality 17 = .ok (.iload_n 2, 1) := by decide +kernel
theorem dX10_likeQuality_18 : decode cX10_likeQuality 18 = .ok (.iload_n 1, 1) := by decide +kernel
theorem dX10_likeQuality_19 : decode cX10_likeQuality 19 = .ok (.if_icmp .ge 34, 3) := by decide +kernel
theorem dX10_likeQuality_22 : decode cX10_likeQuality 22 = .ok (.iload_n 2, 1) := by decide +kernel
theorem dX10_likeQuality_23 : decode cX10_likeQuality 23 = .ok (.aload_n 0, 1) := by decide +kernel
theorem dX10_likeQuality_24 : decode cX10_likeQuality 24 = .ok (.getfield 31, 3) := by decide +kernel
theorem dX10_likeQuality_27 : decode cX10_likeQuality 27 = .ok (.iload 4, 2) := by decide +kernel
theorem dX10_likeQuality_29 : decode cX10_likeQuality 29 = .ok (.caload, 1) := by decide +kernel
theorem dX10_likeQuality_30 : decode cX10_likeQuality 30 = .ok (.bipush 59, 2) := by decide +kernel
theorem dX10_likeQuality_32 : decode cX10_likeQuality 32 = .ok (.if_icmp .ne 7, 3) := by decide +kernel
theorem dX10_likeQuality_35 : decode cX10_likeQuality 35 = .ok (.iconst 1, 1) := by decide +kernel
theorem dX10_likeQuality_36 : decode cX10_likeQuality 36 = .ok (.goto 4, 3) := by decide +kernel
theorem dX10_likeQuality_39 : decode cX10_likeQuality 39 = .ok (.iconst 0, 1) := by decide +kernel
theorem dX10_likeQuality_40 : decode cX10_likeQuality 40 = .ok (.iadd, 1) := by decide +kernel
theorem dX10_likeQuality_41 : decode cX10_likeQuality 41 = .ok (.istore_n 2, 1) := by decide +kernel
theorem dX10_likeQuality_42 : decode cX10_likeQuality 42 = .ok (.iload 4, 2) := by decide +kernel
theorem dX10_likeQuality_44 : decode cX10_likeQuality 44 = .ok (.iconst 1, 1) := by decide +kernel
theorem dX10_likeQuality_45 : decode cX10_likeQuality 45 = .ok (.iadd, 1) := by decide +kernel
theorem dX10_likeQuality_46 : decode cX10_likeQuality 46 = .ok (.istore_n 3, 1) := by decide +kernel
theorem dX10_likeQuality_47 : decode cX10_likeQuality 47 = .ok (.iinc 4 1, 3) := by decide +kernel
theorem dX10_likeQuality_50 : decode cX10_likeQuality 50 = .ok (.goto (-43), 3) := by decide +kernel
theorem dX10_likeQuality_53 : decode cX10_likeQuality 53 = .ok (.iconst 0, 1) := by decide +kernel
theorem dX10_likeQuality_54 : decode cX10_likeQuality 54 = .ok (.istore 4, 2) := by decide +kernel
theorem dX10_likeQuality_56 : decode cX10_likeQuality 56 = .ok (.aload_n 0, 1) := by decide +kernel
theorem dX10_likeQuality_57 : decode cX10_likeQuality 57 = .ok (.getfield 31, 3) := by decide +kernel
theorem dX10_likeQuality_60 : decode cX10_likeQuality 60 = .ok (.iload_n 3, 1) := by decide +kernel
theorem dX10_likeQuality_61 : decode cX10_likeQuality 61 = .ok (.iload 4, 2) := by decide +kernel
theorem dX10_likeQuality_63 : decode cX10_likeQuality 63 = .ok (.iadd, 1) := by decide +kernel
theorem dX10_likeQuality_64 : decode cX10_likeQuality 64 = .ok (.caload, 1) := by decide +kernel
theorem dX10_likeQuality_65 : decode cX10_likeQuality 65 = .ok (.bipush 59, 2) := by decide +kernel
theorem dX10_likeQuality_67 : decode cX10_likeQuality 67 = .ok (.if_icmp .eq 32, 3) := by decide +kernel
theorem dX10_likeQuality_70 : decode cX10_likeQuality 70 = .ok (.aload_n 0, 1) := by decide +kernel
theorem dX10_likeQuality_71 : decode cX10_likeQuality 71 = .ok (.aload_n 0, 1) := by decide +kernel
theorem dX10_likeQuality_72 : decode cX10_likeQuality 72 = .ok (.getfield 59, 3) := by decide +kernel
theorem dX10_likeQuality_75 : decode cX10_likeQuality 75 = .ok (.iload 4, 2) := by decide +kernel
theorem dX10_likeQuality_77 : decode cX10_likeQuality 77 = .ok (.iadd, 1) := by decide +kernel
theorem dX10_likeQuality_78 : decode cX10_likeQuality 78 = .ok (.invokevirtual 62, 3) := by decide +kernel
theorem dX10_likeQuality_81 : decode cX10_likeQuality 81 = .ok (.aload_n 0, 1) := by decide +kernel
theorem dX10_likeQuality_82 : decode cX10_likeQuality 82 = .ok (.getfield 31, 3) := by decide +kernel
theorem dX10_likeQuality_85 : decode cX10_likeQuality 85 = .ok (.iload_n 3, 1) := by decide +kernel
theorem dX10_likeQuality_86 : decode cX10_likeQuality 86 = .ok (.iload 4, 2) := by decide +kernel
theorem dX10_likeQuality_88 : decode cX10_likeQuality 88 = .ok (.iadd, 1) := by decide +kernel
theorem dX10_likeQuality_89 : decode cX10_likeQuality 89 = .ok (.caload, 1) := by decide +kernel
theorem dX10_likeQuality_90 : decode cX10_likeQuality 90 = .ok (.if_icmp .ne 9, 3) := by decide +kernel
theorem dX10_likeQuality_93 : decode cX10_likeQuality 93 = .ok (.iinc 4 1, 3) := by decide +kernel
theorem dX10_likeQuality_96 : decode cX10_likeQuality 96 = .ok (.goto (-40), 3) := by decide +kernel
theorem dX10_likeQuality_99 : decode cX10_likeQuality 99 = .ok (.aload_n 0, 1) := by decide +kernel
theorem dX10_likeQuality_100 : decode cX10_likeQuality 100 = .ok (.aload_n 0, 1) := by decide +kernel
theorem dX10_likeQuality_101 : decode cX10_likeQuality 101 = .ok (.getfield 31, 3) := by decide +kernel
theorem dX10_likeQuality_104 : decode cX10_likeQuality 104 = .ok (.iload_n 3, 1) := by decide +kernel
theorem dX10_likeQuality_105 : decode cX10_likeQuality 105 = .ok (.iload 4, 2) := by decide +kernel
theorem dX10_likeQuality_107 : decode cX10_likeQuality 107 = .ok (.iadd, 1) := by decide +kernel
theorem dX10_likeQuality_108 : decode cX10_likeQuality 108 = .ok (.caload, 1) := by decide +kernel
theorem dX10_likeQuality_109 : decode cX10_likeQuality 109 = .ok (.bipush 59, 2) := by decide +kernel
theorem dX10_likeQuality_111 : decode cX10_likeQuality 111 = .ok (.if_icmp .ne 7, 3) := by decide +kernel
theorem dX10_likeQuality_114 : decode cX10_likeQuality 114 = .ok (.iconst 1, 1) := by decide +kernel
theorem dX10_likeQuality_115 : decode cX10_likeQuality 115 = .ok (.goto 4, 3) := by decide +kernel
theorem dX10_likeQuality_118 : decode cX10_likeQuality 118 = .ok (.iconst 0, 1) := by decide +kernel
theorem dX10_likeQuality_119 : decode cX10_likeQuality 119 = .ok (.putfield 71, 3) := by decide +kernel
theorem dX10_likeQuality_122 : decode cX10_likeQuality 122 = .ok (.iload 4, 2) := by decide +kernel
theorem dX10_likeQuality_124 : decode cX10_likeQuality 124 = .ok (.ireturn, 1) := by decide +kernel
theorem dX10_readsChord_0 : decode cX10_readsChord 0 = .ok (.aload_n 0, 1) := by decide +kernel
theorem dX10_readsChord_1 : decode cX10_readsChord 1 = .ok (.invokevirtual 74, 3) := by decide +kernel
theorem dX10_readsChord_4 : decode cX10_readsChord 4 = .ok (.ifCond .ne 5, 3) := by decide +kernel
theorem dX10_readsChord_7 : decode cX10_readsChord 7 = .ok (.iconst 0, 1) := by decide +kernel
theorem dX10_readsChord_8 : decode cX10_readsChord 8 = .ok (.ireturn, 1) := by decide +kernel
theorem dX10_readsChord_9 : decode cX10_readsChord 9 = .ok (.aload_n 0, 1) := by decide +kernel
theorem dX10_readsChord_10 : decode cX10_readsChord 10 = .ok (.aload_n 0, 1) := by decide +kernel
theorem dX10_readsChord_11 : decode cX10_readsChord 11 = .ok (.getfield 68, 3) := by decide +kernel
theorem dX10_readsChord_14 : decode cX10_readsChord 14 = .ok (.putfield 78, 3) := by decide +kernel
theorem dX10_readsChord_17 : decode cX10_readsChord 17 = .ok (.aload_n 0, 1) := by decide +kernel
theorem dX10_readsChord_18 : decode cX10_readsChord 18 = .ok (.bipush 100, 2) := by decide +kernel
theorem dX10_readsChord_20 : decode cX10_readsChord 20 = .ok (.putfield 81, 3) := by decide +kernel
theorem dX10_readsChord_23 : decode cX10_readsChord 23 = .ok (.iconst 0, 1) := by decide +kernel
theorem dX10_readsChord_24 : decode cX10_readsChord 24 = .ok (.istore_n 2, 1) := by decide +kernel
theorem dX10_readsChord_25 : decode cX10_readsChord 25 = .ok (.iconst 0, 1) := by decide +kernel
theorem dX10_readsChord_26 : decode cX10_readsChord 26 = .ok (.istore_n 3, 1) := by decide +kernel
theorem dX10_readsChord_27 : decode cX10_readsChord 27 = .ok (.iconst 0, 1) := by decide +kernel
theorem dX10_readsChord_28 : decode cX10_readsChord 28 = .ok (.istore 4, 2) := by decide +kernel
theorem dX10_readsChord_30 : decode cX10_readsChord 30 = .ok (.iconst 0, 1) := by decide +kernel
theorem dX10_readsChord_31 : decode cX10_readsChord 31 = .ok (.istore 5, 2) := by decide +kernel
theorem dX10_readsChord_33 : decode cX10_readsChord 33 = .ok (.iload 5, 2) := by decide +kernel
theorem dX10_readsChord_35 : decode cX10_readsChord 35 = .ok (.bipush 10, 2) := by decide +kernel
theorem dX10_readsChord_37 : decode cX10_readsChord 37 = .ok (.if_icmp .ge 48, 3) := by decide +kernel
theorem dX10_readsChord_40 : decode cX10_readsChord 40 = .ok (.aload_n 0, 1) := by decide +kernel
theorem dX10_readsChord_41 : decode cX10_readsChord 41 = .ok (.iload 5, 2) := by decide +kernel
theorem dX10_readsChord_43 : decode cX10_readsChord 43 = .ok (.invokevirtual 84, 3) := by decide +kernel
theorem dX10_readsChord_46 : decode cX10_readsChord 46 = .ok (.istore 6, 2) := by decide +kernel
theorem dX10_readsChord_48 : decode cX10_readsChord 48 = .ok (.iload 6, 2) := by decide +kernel
theorem dX10_readsChord_50 : decode cX10_readsChord 50 = .ok (.iload_n 2, 1) := by decide +kernel
theorem dX10_readsChord_51 : decode cX10_readsChord 51 = .ok (.if_icmp .gt 16, 3) := by decide +kernel
theorem dX10_readsChord_54 : decode cX10_readsChord 54 = .ok (.iload 6, 2) := by decide +kernel
theorem dX10_readsChord_56 : decode cX10_readsChord 56 = .ok (.iload_n 2, 1) := by decide +kernel
theorem dX10_readsChord_57 : decode cX10_readsChord 57 = .ok (.if_icmp .ne 22, 3) := by decide +kernel
theorem dX10_readsChord_60 : decode cX10_readsChord 60 = .ok (.aload_n 0, 1) := by decide +kernel
theorem dX10_readsChord_61 : decode cX10_readsChord 61 = .ok (.getfield 71, 3) := by decide +kernel
theorem dX10_readsChord_64 : decode cX10_readsChord 64 = .ok (.ifCond .eq 15, 3) := by decide +kernel
theorem dX10_readsChord_67 : decode cX10_readsChord 67 = .ok (.aload_n 0, 1) := by decide +kernel
theorem dX10_readsChord_68 : decode cX10_readsChord 68 = .ok (.getfield 71, 3) := by decide +kernel
theorem dX10_readsChord_71 : decode cX10_readsChord 71 = .ok (.istore 4, 2) := by decide +kernel
theorem dX10_readsChord_73 : decode cX10_readsChord 73 = .ok (.iload 5, 2) := by decide +kernel
theorem dX10_readsChord_75 : decode cX10_readsChord 75 = .ok (.istore_n 3, 1) := by decide +kernel
theorem dX10_readsChord_76 : decode cX10_readsChord 76 = .ok (.iload 6, 2) := by decide +kernel
theorem dX10_readsChord_78 : decode cX10_readsChord 78 = .ok (.istore_n 2, 1) := by decide +kernel
theorem dX10_readsChord_79 : decode cX10_readsChord 79 = .ok (.iinc 5 1, 3) := by decide +kernel
theorem dX10_readsChord_82 : decode cX10_readsChord 82 = .ok (.goto (-49), 3) := by decide +kernel
theorem dX10_readsChord_85 : decode cX10_readsChord 85 = .ok (.aload_n 0, 1) := by decide +kernel
theorem dX10_readsChord_86 : decode cX10_readsChord 86 = .ok (.dup, 1) := by decide +kernel
theorem dX10_readsChord_87 : decode cX10_readsChord 87 = .ok (.getfield 59, 3) := by decide +kernel
theorem dX10_readsChord_90 : decode cX10_readsChord 90 = .ok (.iload_n 2, 1) := by decide +kernel
theorem dX10_readsChord_91 : decode cX10_readsChord 91 = .ok (.iadd, 1) := by decide +kernel
theorem dX10_readsChord_92 : decode cX10_readsChord 92 = .ok (.putfield 59, 3) := by decide +kernel
theorem dX10_readsChord_95 : decode cX10_readsChord 95 = .ok (.aload_n 0, 1) := by decide +kernel
theorem dX10_readsChord_96 : decode cX10_readsChord 96 = .ok (.iload_n 3, 1) := by decide +kernel
theorem dX10_readsChord_97 : decode cX10_readsChord 97 = .ok (.putfield 87, 3) := by decide +kernel
theorem dX10_readsChord_100 : decode cX10_readsChord 100 = .ok (.iload 4, 2) := by decide +kernel
theorem dX10_readsChord_102 : decode cX10_readsChord 102 = .ok (.ifCond .ne 5, 3) := by decide +kernel
theorem dX10_readsChord_105 : decode cX10_readsChord 105 = .ok (.iconst 0, 1) := by decide +kernel
theorem dX10_readsChord_106 : decode cX10_readsChord 106 = .ok (.ireturn, 1) := by decide +kernel
theorem dX10_readsChord_107 : decode cX10_readsChord 107 = .ok (.aload_n 0, 1) := by decide +kernel
theorem dX10_readsChord_108 : decode cX10_readsChord 108 = .ok (.aload_n 0, 1) := by decide +kernel
theorem dX10_readsChord_109 : decode cX10_readsChord 109 = .ok (.getfield 59, 3) := by decide +kernel
theorem dX10_readsChord_112 : decode cX10_readsChord 112 = .ok (.invokevirtual 62, 3) := by decide +kernel
theorem dX10_readsChord_115 : decode cX10_readsChord 115 = .ok (.bipush 47, 2) := by decide +kernel
theorem dX10_readsChord_117 : decode cX10_readsChord 117 = .ok (.if_icmp .ne 30, 3) := by decide +kernel
theorem dX10_readsChord_120 : decode cX10_readsChord 120 = .ok (.aload_n 0, 1) := by decide +kernel
theorem dX10_readsChord_121 : decode cX10_readsChord 121 = .ok (.dup, 1) := by decide +kernel
theorem dX10_readsChord_122 : decode cX10_readsChord 122 = .ok (.getfield 59, 3) := by decide +kernel
theorem dX10_readsChord_125 : decode cX10_readsChord 125 = .ok (.iconst 1, 1) := by decide +kernel
theorem dX10_readsChord_126 : decode cX10_readsChord 126 = .ok (.iadd, 1) := by decide +kernel
theorem dX10_readsChord_127 : decode cX10_readsChord 127 = .ok (.putfield 59, 3) := by decide +kernel
theorem dX10_readsChord_130 : decode cX10_readsChord 130 = .ok (.aload_n 0, 1) := by decide +kernel
theorem dX10_readsChord_131 : decode cX10_readsChord 131 = .ok (.invokevirtual 74, 3) := by decide +kernel
theorem dX10_readsChord_134 : decode cX10_readsChord 134 = .ok (.ifCond .ne 5, 3) := by decide +kernel
theorem dX10_readsChord_137 : decode cX10_readsChord 137 = .ok (.iconst 0, 1) := by decide +kernel
theorem dX10_readsChord_138 : decode cX10_readsChord 138 = .ok (.ireturn, 1) := by decide +kernel
theorem dX10_readsChord_139 : decode cX10_readsChord 139 = .ok (.aload_n 0, 1) := by decide +kernel
theorem dX10_readsChord_140 : decode cX10_readsChord 140 = .ok (.aload_n 0, 1) := by decide +kernel
theorem dX10_readsChord_141 : decode cX10_readsChord 141 = .ok (.getfield 68, 3) := by decide +kernel
theorem dX10_readsChord_144 : decode cX10_readsChord 144 = .ok (.putfield 81, 3) := by decide +kernel
theorem dX10_readsChord_147 : decode cX10_readsChord 147 = .ok (.aload_n 0, 1) := by decide +kernel
theorem dX10_readsChord_148 : decode cX10_readsChord 148 = .ok (.aload_n 0, 1) := by decide +kernel
theorem dX10_readsChord_149 : decode cX10_readsChord 149 = .ok (.getfield 59, 3) := by decide +kernel
theorem dX10_readsChord_152 : decode cX10_readsChord 152 = .ok (.invokevirtual 62, 3) := by decide +kernel
theorem dX10_readsChord_155 : decode cX10_readsChord 155 = .ok (.iload_n 1, 1) := by decide +kernel
theorem dX10_readsChord_156 : decode cX10_readsChord 156 = .ok (.if_icmp .ne 7, 3) := by decide +kernel
theorem dX10_readsChord_159 : decode cX10_readsChord 159 = .ok (.iconst 1, 1) := by decide +kernel
theorem dX10_readsChord_160 : decode cX10_readsChord 160 = .ok (.goto 4, 3) := by decide +kernel
theorem dX10_readsChord_163 : decode cX10_readsChord 163 = .ok (.iconst 0, 1) := by decide +kernel
theorem dX10_readsChord_164 : decode cX10_readsChord 164 = .ok (.ireturn, 1) := by decide +kernel
theorem dX10_readsSheet_0 : decode cX10_readsSheet 0 = .ok (.iconst 0, 1) := by decide +kernel
theorem dX10_readsSheet_1 : decode cX10_readsSheet 1 = .ok (.istore_n 1, 1) := by decide +kernel
theorem dX10_readsSheet_2 : decode cX10_readsSheet 2 = .ok (.iload_n 1, 1) := by decide +kernel
theorem dX10_readsSheet_3 : decode cX10_readsSheet 3 = .ok (.sipush 620, 3) := by decide +kernel
theorem dX10_readsSheet_6 : decode cX10_readsSheet 6 = .ok (.if_icmp .ge 16, 3) := by decide +kernel
theorem dX10_readsSheet_9 : decode cX10_readsSheet 9 = .ok (.aload_n 0, 1) := by decide +kernel
theorem dX10_readsSheet_10 : decode cX10_readsSheet 10 = .ok (.getfield 34, 3) := by decide +kernel
theorem dX10_readsSheet_13 : decode cX10_readsSheet 13 = .ok (.iload_n 1, 1) := by decide +kernel
theorem dX10_readsSheet_14 : decode cX10_readsSheet 14 = .ok (.iconst 0, 1) := by decide +kernel
theorem dX10_readsSheet_15 : decode cX10_readsSheet 15 = .ok (.iastore, 1) := by decide +kernel
theorem dX10_readsSheet_16 : decode cX10_readsSheet 16 = .ok (.iinc 1 1, 3) := by decide +kernel
theorem dX10_readsSheet_19 : decode cX10_readsSheet 19 = .ok (.goto (-17), 3) := by decide +kernel
theorem dX10_readsSheet_22 : decode cX10_readsSheet 22 = .ok (.aload_n 0, 1) := by decide +kernel
theorem dX10_readsSheet_23 : decode cX10_readsSheet 23 = .ok (.getfield 34, 3) := by decide +kernel
theorem dX10_readsSheet_26 : decode cX10_readsSheet 26 = .ok (.iconst 0, 1) := by decide +kernel
theorem dX10_readsSheet_27 : decode cX10_readsSheet 27 = .ok (.iconst 1, 1) := by decide +kernel
theorem dX10_readsSheet_28 : decode cX10_readsSheet 28 = .ok (.iastore, 1) := by decide +kernel
theorem dX10_readsSheet_29 : decode cX10_readsSheet 29 = .ok (.iconst 0, 1) := by decide +kernel
theorem dX10_readsSheet_30 : decode cX10_readsSheet 30 = .ok (.istore_n 1, 1) := by decide +kernel
theorem dX10_readsSheet_31 : decode cX10_readsSheet 31 = .ok (.aload_n 0, 1) := by decide +kernel
theorem dX10_readsSheet_32 : decode cX10_readsSheet 32 = .ok (.iconst 0, 1) := by decide +kernel
theorem dX10_readsSheet_33 : decode cX10_readsSheet 33 = .ok (.putfield 59, 3) := by decide +kernel
theorem dX10_readsSheet_36 : decode cX10_readsSheet 36 = .ok (.aload_n 0, 1) := by decide +kernel
theorem dX10_readsSheet_37 : decode cX10_readsSheet 37 = .ok (.getfield 59, 3) := by decide +kernel
theorem dX10_readsSheet_40 : decode cX10_readsSheet 40 = .ok (.aload_n 0, 1) := by decide +kernel
theorem dX10_readsSheet_41 : decode cX10_readsSheet 41 = .ok (.getfield 56, 3) := by decide +kernel
theorem dX10_readsSheet_44 : decode cX10_readsSheet 44 = .ok (.if_icmp .ge 250, 3) := by decide +kernel
theorem dX10_readsSheet_47 : decode cX10_readsSheet 47 = .ok (.aload_n 0, 1) := by decide +kernel
theorem dX10_readsSheet_48 : decode cX10_readsSheet 48 = .ok (.aload_n 0, 1) := by decide +kernel
theorem dX10_readsSheet_49 : decode cX10_readsSheet 49 = .ok (.getfield 59, 3) := by decide +kernel
theorem dX10_readsSheet_52 : decode cX10_readsSheet 52 = .ok (.invokevirtual 62, 3) := by decide +kernel
theorem dX10_readsSheet_55 : decode cX10_readsSheet 55 = .ok (.bipush 93, 2) := by decide +kernel
theorem dX10_readsSheet_57 : decode cX10_readsSheet 57 = .ok (.if_icmp .eq 27, 3) := by decide +kernel
theorem dX10_readsSheet_60 : decode cX10_readsSheet 60 = .ok (.aload_n 0, 1) := by decide +kernel
theorem dX10_readsSheet_61 : decode cX10_readsSheet 61 = .ok (.aload_n 0, 1) := by decide +kernel
theorem dX10_readsSheet_62 : decode cX10_readsSheet 62 = .ok (.getfield 59, 3) := by decide +kernel
theorem dX10_readsSheet_65 : decode cX10_readsSheet 65 = .ok (.invokevirtual 62, 3) := by decide +kernel
theorem dX10_readsSheet_68 : decode cX10_readsSheet 68 = .ok (.bipush 91, 2) := by decide +kernel
theorem dX10_readsSheet_70 : decode cX10_readsSheet 70 = .ok (.if_icmp .ne 16, 3) := by decide +kernel
theorem dX10_readsSheet_73 : decode cX10_readsSheet 73 = .ok (.aload_n 0, 1) := by decide +kernel
theorem dX10_readsSheet_74 : decode cX10_readsSheet 74 = .ok (.getfield 34, 3) := by decide +kernel
theorem dX10_readsSheet_77 : decode cX10_readsSheet 77 = .ok (.iconst 1, 1) := by decide +kernel
theorem dX10_readsSheet_78 : decode cX10_readsSheet 78 = .ok (.iaload, 1) := by decide +kernel
theorem dX10_readsSheet_79 : decode cX10_readsSheet 79 = .ok (.bipush 40, 2) := by decide +kernel
theorem dX10_readsSheet_81 : decode cX10_readsSheet 81 = .ok (.if_icmp .ne 5, 3) := by decide +kernel
theorem dX10_readsSheet_84 : decode cX10_readsSheet 84 = .ok (.iconst 0, 1) := by decide +kernel
theorem dX10_readsSheet_85 : decode cX10_readsSheet 85 = .ok (.ireturn, 1) := by decide +kernel
theorem dX10_readsSheet_86 : decode cX10_readsSheet 86 = .ok (.aload_n 0, 1) := by decide +kernel
theorem dX10_readsSheet_87 : decode cX10_readsSheet 87 = .ok (.aload_n 0, 1) := by decide +kernel
theorem dX10_readsSheet_88 : decode cX10_readsSheet 88 = .ok (.getfield 59, 3) := by decide +kernel
theorem dX10_readsSheet_91 : decode cX10_readsSheet 91 = .ok (.invokevirtual 62, 3) := by decide +kernel
theorem dX10_readsSheet_94 : decode cX10_readsSheet 94 = .ok (.bipush 91, 2) := by decide +kernel
theorem dX10_readsSheet_96 : decode cX10_readsSheet 96 = .ok (.if_icmp .ne 124, 3) := by decide +kernel
theorem dX10_readsSheet_99 : decode cX10_readsSheet 99 = .ok (.aload_n 0, 1) := by decide +kernel
theorem dX10_readsSheet_100 : decode cX10_readsSheet 100 = .ok (.dup, 1) := by decide +kernel
theorem dX10_readsSheet_101 : decode cX10_readsSheet 101 = .ok (.getfield 59, 3) := by decide +kernel
theorem dX10_readsSheet_104 : decode cX10_readsSheet 104 = .ok (.iconst 1, 1) := by decide +kernel
theorem dX10_readsSheet_105 : decode cX10_readsSheet 105 = .ok (.iadd, 1) := by decide +kernel
theorem dX10_readsSheet_106 : decode cX10_readsSheet 106 = .ok (.putfield 59, 3) := by decide +kernel
theorem dX10_readsSheet_109 : decode cX10_readsSheet 109 = .ok (.aload_n 0, 1) := by decide +kernel
theorem dX10_readsSheet_110 : decode cX10_readsSheet 110 = .ok (.bipush 93, 2) := by decide +kernel
theorem dX10_readsSheet_112 : decode cX10_readsSheet 112 = .ok (.invokevirtual 90, 3) := by decide +kernel
theorem dX10_readsSheet_115 : decode cX10_readsSheet 115 = .ok (.ifCond .ne 5, 3) := by decide +kernel
theorem dX10_readsSheet_118 : decode cX10_readsSheet 118 = .ok (.iconst 0, 1) := by decide +kernel
theorem dX10_readsSheet_119 : decode cX10_readsSheet 119 = .ok (.ireturn, 1) := by decide +kernel
theorem dX10_readsSheet_120 : decode cX10_readsSheet 120 = .ok (.aload_n 0, 1) := by decide +kernel
theorem dX10_readsSheet_121 : decode cX10_readsSheet 121 = .ok (.getfield 34, 3) := by decide +kernel
theorem dX10_readsSheet_124 : decode cX10_readsSheet 124 = .ok (.iconst 1, 1) := by decide +kernel
theorem dX10_readsSheet_125 : decode cX10_readsSheet 125 = .ok (.iaload, 1) := by decide +kernel
theorem dX10_readsSheet_126 : decode cX10_readsSheet 126 = .ok (.invokestatic 94, 3) := by decide +kernel
theorem dX10_readsSheet_129 : decode cX10_readsSheet 129 = .ok (.istore_n 2, 1) := by decide +kernel
theorem dX10_readsSheet_130 : decode cX10_readsSheet 130 = .ok (.aload_n 0, 1) := by decide +kernel
theorem dX10_readsSheet_131 : decode cX10_readsSheet 131 = .ok (.getfield 34, 3) := by decide +kernel
theorem dX10_readsSheet_134 : decode cX10_readsSheet 134 = .ok (.iload_n 2, 1) := by decide +kernel
theorem dX10_readsSheet_135 : decode cX10_readsSheet 135 = .ok (.iconst 0, 1) := by decide +kernel
theorem dX10_readsSheet_136 : decode cX10_readsSheet 136 = .ok (.iadd, 1) := by decide +kernel
theorem dX10_readsSheet_137 : decode cX10_readsSheet 137 = .ok (.aload_n 0, 1) := by decide +kernel
theorem dX10_readsSheet_138 : decode cX10_readsSheet 138 = .ok (.getfield 34, 3) := by decide +kernel
theorem dX10_readsSheet_141 : decode cX10_readsSheet 141 = .ok (.iconst 0, 1) := by decide +kernel
theorem dX10_readsSheet_142 : decode cX10_readsSheet 142 = .ok (.iaload, 1) := by decide +kernel
theorem dX10_readsSheet_143 : decode cX10_readsSheet 143 = .ok (.iconst 1, 1) := by decide +kernel
theorem dX10_readsSheet_144 : decode cX10_readsSheet 144 = .ok (.isub, 1) := by decide +kernel
theorem dX10_readsSheet_145 : decode cX10_readsSheet 145 = .ok (.iastore, 1) := by decide +kernel
theorem dX10_readsSheet_146 : decode cX10_readsSheet 146 = .ok (.aload_n 0, 1) := by decide +kernel
theorem dX10_readsSheet_147 : decode cX10_readsSheet 147 = .ok (.getfield 34, 3) := by decide +kernel
theorem dX10_readsSheet_150 : decode cX10_readsSheet 150 = .ok (.iload_n 2, 1) := by decide +kernel
theorem dX10_readsSheet_151 : decode cX10_readsSheet 151 = .ok (.iconst 1, 1) := by decide +kernel
theorem dX10_readsSheet_152 : decode cX10_readsSheet 152 = .ok (.iadd, 1) := by decide +kernel
theorem dX10_readsSheet_153 : decode cX10_readsSheet 153 = .ok (.iload_n 1, 1) := by decide +kernel
theorem dX10_readsSheet_154 : decode cX10_readsSheet 154 = .ok (.aload_n 0, 1) := by decide +kernel
theorem dX10_readsSheet_155 : decode cX10_readsSheet 155 = .ok (.getfield 34, 3) := by decide +kernel
theorem dX10_readsSheet_158 : decode cX10_readsSheet 158 = .ok (.iconst 4, 1) := by decide +kernel
theorem dX10_readsSheet_159 : decode cX10_readsSheet 159 = .ok (.aload_n 0, 1) := by decide +kernel
theorem dX10_readsSheet_160 : decode cX10_readsSheet 160 = .ok (.getfield 34, 3) := by decide +kernel
theorem dX10_readsSheet_163 : decode cX10_readsSheet 163 = .ok (.iconst 0, 1) := by decide +kernel
theorem dX10_readsSheet_164 : decode cX10_readsSheet 164 = .ok (.iaload, 1) := by decide +kernel
theorem dX10_readsSheet_165 : decode cX10_readsSheet 165 = .ok (.iadd, 1) := by decide +kernel
theorem dX10_readsSheet_166 : decode cX10_readsSheet 166 = .ok (.iconst 1, 1) := by decide +kernel
theorem dX10_readsSheet_167 : decode cX10_readsSheet 167 = .ok (.isub, 1) := by decide +kernel
theorem dX10_readsSheet_168 : decode cX10_readsSheet 168 = .ok (.iaload, 1) := by decide +kernel
theorem dX10_readsSheet_169 : decode cX10_readsSheet 169 = .ok (.isub, 1) := by decide +kernel
theorem dX10_readsSheet_170 : decode cX10_readsSheet 170 = .ok (.iastore, 1) := by decide +kernel
theorem dX10_readsSheet_171 : decode cX10_readsSheet 171 = .ok (.aload_n 0, 1) := by decide +kernel
theorem dX10_readsSheet_172 : decode cX10_readsSheet 172 = .ok (.getfield 34, 3) := by decide +kernel
theorem dX10_readsSheet_175 : decode cX10_readsSheet 175 = .ok (.iload_n 2, 1) := by decide +kernel
theorem dX10_readsSheet_176 : decode cX10_readsSheet 176 = .ok (.iconst 2, 1) := by decide +kernel
theorem dX10_readsSheet_177 : decode cX10_readsSheet 177 = .ok (.iadd, 1) := by decide +kernel
theorem dX10_readsSheet_178 : decode cX10_readsSheet 178 = .ok (.aload_n 0, 1) := by decide +kernel
theorem dX10_readsSheet_179 : decode cX10_readsSheet 179 = .ok (.getfield 78, 3) := by decide +kernel
theorem dX10_readsSheet_182 : decode cX10_readsSheet 182 = .ok (.iastore, 1) := by decide +kernel
theorem dX10_readsSheet_183 : decode cX10_readsSheet 183 = .ok (.aload_n 0, 1) := by decide +kernel
theorem dX10_readsSheet_184 : decode cX10_readsSheet 184 = .ok (.getfield 34, 3) := by decide +kernel
theorem dX10_readsSheet_187 : decode cX10_readsSheet 187 = .ok (.iload_n 2, 1) := by decide +kernel
theorem dX10_readsSheet_188 : decode cX10_readsSheet 188 = .ok (.iconst 3, 1) := by decide +kernel
theorem dX10_readsSheet_189 : decode cX10_readsSheet 189 = .ok (.iadd, 1) := by decide +kernel
theorem dX10_readsSheet_190 : decode cX10_readsSheet 190 = .ok (.aload_n 0, 1) := by decide +kernel
theorem dX10_readsSheet_191 : decode cX10_readsSheet 191 = .ok (.getfield 87, 3) := by decide +kernel
theorem dX10_readsSheet_194 : decode cX10_readsSheet 194 = .ok (.iastore, 1) := by decide +kernel
theorem dX10_readsSheet_195 : decode cX10_readsSheet 195 = .ok (.aload_n 0, 1) := by decide +kernel
theorem dX10_readsSheet_196 : decode cX10_readsSheet 196 = .ok (.getfield 34, 3) := by decide +kernel
theorem dX10_readsSheet_199 : decode cX10_readsSheet 199 = .ok (.iload_n 2, 1) := by decide +kernel
theorem dX10_readsSheet_200 : decode cX10_readsSheet 200 = .ok (.iconst 4, 1) := by decide +kernel
theorem dX10_readsSheet_201 : decode cX10_readsSheet 201 = .ok (.iadd, 1) := by decide +kernel
theorem dX10_readsSheet_202 : decode cX10_readsSheet 202 = .ok (.aload_n 0, 1) := by decide +kernel
theorem dX10_readsSheet_203 : decode cX10_readsSheet 203 = .ok (.getfield 81, 3) := by decide +kernel
theorem dX10_readsSheet_206 : decode cX10_readsSheet 206 = .ok (.iastore, 1) := by decide +kernel
theorem dX10_readsSheet_207 : decode cX10_readsSheet 207 = .ok (.aload_n 0, 1) := by decide +kernel
theorem dX10_readsSheet_208 : decode cX10_readsSheet 208 = .ok (.getfield 34, 3) := by decide +kernel
theorem dX10_readsSheet_211 : decode cX10_readsSheet 211 = .ok (.iconst 1, 1) := by decide +kernel
theorem dX10_readsSheet_212 : decode cX10_readsSheet 212 = .ok (.dup2, 1) := by decide +kernel
theorem dX10_readsSheet_213 : decode cX10_readsSheet 213 = .ok (.iaload, 1) := by decide +kernel
theorem dX10_readsSheet_214 : decode cX10_readsSheet 214 = .ok (.iconst 1, 1) := by decide +kernel
theorem dX10_readsSheet_215 : decode cX10_readsSheet 215 = .ok (.iadd, 1) := by decide +kernel
theorem dX10_readsSheet_216 : decode cX10_readsSheet 216 = .ok (.iastore, 1) := by decide +kernel
theorem dX10_readsSheet_217 : decode cX10_readsSheet 217 = .ok (.goto 64, 3) := by decide +kernel
theorem dX10_readsSheet_220 : decode cX10_readsSheet 220 = .ok (.aload_n 0, 1) := by decide +kernel
theorem dX10_readsSheet_221 : decode cX10_readsSheet 221 = .ok (.aload_n 0, 1) := by decide +kernel
theorem dX10_readsSheet_222 : decode cX10_readsSheet 222 = .ok (.getfield 59, 3) := by decide +kernel
theorem dX10_readsSheet_225 : decode cX10_readsSheet 225 = .ok (.invokevirtual 62, 3) := by decide +kernel
theorem dX10_readsSheet_228 : decode cX10_readsSheet 228 = .ok (.bipush 47, 2) := by decide +kernel
theorem dX10_readsSheet_230 : decode cX10_readsSheet 230 = .ok (.if_icmp .ne 30, 3) := by decide +kernel
theorem dX10_readsSheet_233 : decode cX10_readsSheet 233 = .ok (.aload_n 0, 1) := by decide +kernel
theorem dX10_readsSheet_234 : decode cX10_readsSheet 234 = .ok (.getfield 34, 3) := by decide +kernel
theorem dX10_readsSheet_237 : decode cX10_readsSheet 237 = .ok (.iconst 4, 1) := by decide +kernel
theorem dX10_readsSheet_238 : decode cX10_readsSheet 238 = .ok (.aload_n 0, 1) := by decide +kernel
theorem dX10_readsSheet_239 : decode cX10_readsSheet 239 = .ok (.getfield 34, 3) := by decide +kernel
theorem dX10_readsSheet_242 : decode cX10_readsSheet 242 = .ok (.iconst 0, 1) := by decide +kernel
theorem dX10_readsSheet_243 : decode cX10_readsSheet 243 = .ok (.iaload, 1) := by decide +kernel
theorem dX10_readsSheet_244 : decode cX10_readsSheet 244 = .ok (.iadd, 1) := by decide +kernel
theorem dX10_readsSheet_245 : decode cX10_readsSheet 245 = .ok (.iload_n 1, 1) := by decide +kernel
theorem dX10_readsSheet_246 : decode cX10_readsSheet 246 = .ok (.iastore, 1) := by decide +kernel
theorem dX10_readsSheet_247 : decode cX10_readsSheet 247 = .ok (.aload_n 0, 1) := by decide +kernel
theorem dX10_readsSheet_248 : decode cX10_readsSheet 248 = .ok (.getfield 34, 3) := by decide +kernel
theorem dX10_readsSheet_251 : decode cX10_readsSheet 251 = .ok (.iconst 0, 1) := by decide +kernel
theorem dX10_readsSheet_252 : decode cX10_readsSheet 252 = .ok (.dup2, 1) := by decide +kernel
theorem dX10_readsSheet_253 : decode cX10_readsSheet 253 = .ok (.iaload, 1) := by decide +kernel
theorem dX10_readsSheet_254 : decode cX10_readsSheet 254 = .ok (.iconst 1, 1) := by decide +kernel
theorem dX10_readsSheet_255 : decode cX10_readsSheet 255 = .ok (.iadd, 1) := by decide +kernel
theorem dX10_readsSheet_256 : decode cX10_readsSheet 256 = .ok (.iastore, 1) := by decide +kernel
theorem dX10_readsSheet_257 : decode cX10_readsSheet 257 = .ok (.goto 24, 3) := by decide +kernel
theorem dX10_readsSheet_260 : decode cX10_readsSheet 260 = .ok (.aload_n 0, 1) := by decide +kernel
theorem dX10_readsSheet_261 : decode cX10_readsSheet 261 = .ok (.getfield 34, 3) := by decide +kernel
theorem dX10_readsSheet_264 : decode cX10_readsSheet 264 = .ok (.sipush 415, 3) := by decide +kernel
theorem dX10_readsSheet_267 : decode cX10_readsSheet 267 = .ok (.iload_n 1, 1) := by decide +kernel
theorem dX10_readsSheet_268 : decode cX10_readsSheet 268 = .ok (.iadd, 1) := by decide +kernel
theorem dX10_readsSheet_269 : decode cX10_readsSheet 269 = .ok (.aload_n 0, 1) := by decide +kernel
theorem dX10_readsSheet_270 : decode cX10_readsSheet 270 = .ok (.aload_n 0, 1) := by decide +kernel
theorem dX10_readsSheet_271 : decode cX10_readsSheet 271 = .ok (.getfield 59, 3) := by decide +kernel
theorem dX10_readsSheet_274 : decode cX10_readsSheet 274 = .ok (.invokevirtual 62, 3) := by decide +kernel
theorem dX10_readsSheet_277 : decode cX10_readsSheet 277 = .ok (.iastore, 1) := by decide +kernel
theorem dX10_readsSheet_278 : decode cX10_readsSheet 278 = .ok (.iinc 1 1, 3) := by decide +kernel
theorem dX10_readsSheet_281 : decode cX10_readsSheet 281 = .ok (.aload_n 0, 1) := by decide +kernel
theorem dX10_readsSheet_282 : decode cX10_readsSheet 282 = .ok (.dup, 1) := by decide +kernel
theorem dX10_readsSheet_283 : decode cX10_readsSheet 283 = .ok (.getfield 59, 3) := by decide +kernel
theorem dX10_readsSheet_286 : decode cX10_readsSheet 286 = .ok (.iconst 1, 1) := by decide +kernel
theorem dX10_readsSheet_287 : decode cX10_readsSheet 287 = .ok (.iadd, 1) := by decide +kernel
theorem dX10_readsSheet_288 : decode cX10_readsSheet 288 = .ok (.putfield 59, 3) := by decide +kernel
theorem dX10_readsSheet_291 : decode cX10_readsSheet 291 = .ok (.goto (-255), 3) := by decide +kernel
theorem dX10_readsSheet_294 : decode cX10_readsSheet 294 = .ok (.aload_n 0, 1) := by decide +kernel
theorem dX10_readsSheet_295 : decode cX10_readsSheet 295 = .ok (.getfield 34, 3) := by decide +kernel
theorem dX10_readsSheet_298 : decode cX10_readsSheet 298 = .ok (.iconst 4, 1) := by decide +kernel
theorem dX10_readsSheet_299 : decode cX10_readsSheet 299 = .ok (.aload_n 0, 1) := by decide +kernel
theorem dX10_readsSheet_300 : decode cX10_readsSheet 300 = .ok (.getfield 34, 3) := by decide +kernel
theorem dX10_readsSheet_303 : decode cX10_readsSheet 303 = .ok (.iconst 0, 1) := by decide +kernel
theorem dX10_readsSheet_304 : decode cX10_readsSheet 304 = .ok (.iaload, 1) := by decide +kernel
theorem dX10_readsSheet_305 : decode cX10_readsSheet 305 = .ok (.iadd, 1) := by decide +kernel
theorem dX10_readsSheet_306 : decode cX10_readsSheet 306 = .ok (.iload_n 1, 1) := by decide +kernel
theorem dX10_readsSheet_307 : decode cX10_readsSheet 307 = .ok (.iastore, 1) := by decide +kernel
theorem dX10_readsSheet_308 : decode cX10_readsSheet 308 = .ok (.iconst 1, 1) := by decide +kernel
theorem dX10_readsSheet_309 : decode cX10_readsSheet 309 = .ok (.ireturn, 1) := by decide +kernel
theorem dX10_type_0 : decode cX10_type 0 = .ok (.aload_n 0, 1) := by decide +kernel
theorem dX10_type_1 : decode cX10_type 1 = .ok (.iconst 0, 1) := by decide +kernel
theorem dX10_type_2 : decode cX10_type 2 = .ok (.putfield 46, 3) := by decide +kernel
theorem dX10_type_5 : decode cX10_type 5 = .ok (.iload_n 1, 1) := by decide +kernel
theorem dX10_type_6 : decode cX10_type 6 = .ok (.bipush 32, 2) := by decide +kernel
theorem dX10_type_8 : decode cX10_type 8 = .ok (.bipush 126, 2) := by decide +kernel
theorem dX10_type_10 : decode cX10_type 10 = .ok (.invokestatic 97, 3) := by decide +kernel
theorem dX10_type_13 : decode cX10_type 13 = .ok (.ifCond .ne 9, 3) := by decide +kernel
theorem dX10_type_16 : decode cX10_type 16 = .ok (.aload_n 0, 1) := by decide +kernel
theorem dX10_type_17 : decode cX10_type 17 = .ok (.iconst 1, 1) := by decide +kernel
theorem dX10_type_18 : decode cX10_type 18 = .ok (.invokevirtual 101, 3) := by decide +kernel
theorem dX10_type_21 : decode cX10_type 21 = .ok (.ireturn, 1) := by decide +kernel
theorem dX10_type_22 : decode cX10_type 22 = .ok (.aload_n 0, 1) := by decide +kernel
theorem dX10_type_23 : decode cX10_type 23 = .ok (.getfield 56, 3) := by decide +kernel
theorem dX10_type_26 : decode cX10_type 26 = .ok (.sipush 200, 3) := by decide +kernel
theorem dX10_type_29 : decode cX10_type 29 = .ok (.if_icmp .ne 9, 3) := by decide +kernel
theorem dX10_type_32 : decode cX10_type 32 = .ok (.aload_n 0, 1) := by decide +kernel
theorem dX10_type_33 : decode cX10_type 33 = .ok (.iconst 2, 1) := by decide +kernel
theorem dX10_type_34 : decode cX10_type 34 = .ok (.invokevirtual 101, 3) := by decide +kernel
theorem dX10_type_37 : decode cX10_type 37 = .ok (.ireturn, 1) := by decide +kernel
theorem dX10_type_38 : decode cX10_type 38 = .ok (.aload_n 0, 1) := by decide +kernel
theorem dX10_type_39 : decode cX10_type 39 = .ok (.getfield 16, 3) := by decide +kernel
theorem dX10_type_42 : decode cX10_type 42 = .ok (.aload_n 0, 1) := by decide +kernel
theorem dX10_type_43 : decode cX10_type 43 = .ok (.getfield 56, 3) := by decide +kernel
theorem dX10_type_46 : decode cX10_type 46 = .ok (.iload_n 1, 1) := by decide +kernel
theorem dX10_type_47 : decode cX10_type 47 = .ok (.iastore, 1) := by decide +kernel
theorem dX10_type_48 : decode cX10_type 48 = .ok (.aload_n 0, 1) := by decide +kernel
theorem dX10_type_49 : decode cX10_type 49 = .ok (.dup, 1) := by decide +kernel
theorem dX10_type_50 : decode cX10_type 50 = .ok (.getfield 56, 3) := by decide +kernel
theorem dX10_type_53 : decode cX10_type 53 = .ok (.iconst 1, 1) := by decide +kernel
theorem dX10_type_54 : decode cX10_type 54 = .ok (.iadd, 1) := by decide +kernel
theorem dX10_type_55 : decode cX10_type 55 = .ok (.putfield 56, 3) := by decide +kernel
theorem dX10_type_58 : decode cX10_type 58 = .ok (.aload_n 0, 1) := by decide +kernel
theorem dX10_type_59 : decode cX10_type 59 = .ok (.getfield 56, 3) := by decide +kernel
theorem dX10_type_62 : decode cX10_type 62 = .ok (.ireturn, 1) := by decide +kernel
theorem dX10_clearText_0 : decode cX10_clearText 0 = .ok (.aload_n 0, 1) := by decide +kernel
theorem dX10_clearText_1 : decode cX10_clearText 1 = .ok (.iconst 0, 1) := by decide +kernel
theorem dX10_clearText_2 : decode cX10_clearText 2 = .ok (.putfield 46, 3) := by decide +kernel
theorem dX10_clearText_5 : decode cX10_clearText 5 = .ok (.aload_n 0, 1) := by decide +kernel
theorem dX10_clearText_6 : decode cX10_clearText 6 = .ok (.getfield 56, 3) := by decide +kernel
theorem dX10_clearText_9 : decode cX10_clearText 9 = .ok (.istore_n 1, 1) := by decide +kernel
theorem dX10_clearText_10 : decode cX10_clearText 10 = .ok (.aload_n 0, 1) := by decide +kernel
theorem dX10_clearText_11 : decode cX10_clearText 11 = .ok (.iconst 0, 1) := by decide +kernel
theorem dX10_clearText_12 : decode cX10_clearText 12 = .ok (.putfield 56, 3) := by decide +kernel
theorem dX10_clearText_15 : decode cX10_clearText 15 = .ok (.iload_n 1, 1) := by decide +kernel
theorem dX10_clearText_16 : decode cX10_clearText 16 = .ok (.ireturn, 1) := by decide +kernel
theorem dX10_read_0 : decode cX10_read 0 = .ok (.aload_n 0, 1) := by decide +kernel
theorem dX10_read_1 : decode cX10_read 1 = .ok (.iconst 0, 1) := by decide +kernel
theorem dX10_read_2 : decode cX10_read 2 = .ok (.putfield 46, 3) := by decide +kernel
theorem dX10_read_5 : decode cX10_read 5 = .ok (.aload_n 0, 1) := by decide +kernel
theorem dX10_read_6 : decode cX10_read 6 = .ok (.invokevirtual 104, 3) := by decide +kernel
theorem dX10_read_9 : decode cX10_read 9 = .ok (.ifCond .ne 10, 3) := by decide +kernel
theorem dX10_read_12 : decode cX10_read 12 = .ok (.iconst (-1), 1) := by decide +kernel
theorem dX10_read_13 : decode cX10_read 13 = .ok (.aload_n 0, 1) := by decide +kernel
theorem dX10_read_14 : decode cX10_read 14 = .ok (.getfield 59, 3) := by decide +kernel
theorem dX10_read_17 : decode cX10_read 17 = .ok (.isub, 1) := by decide +kernel
theorem dX10_read_18 : decode cX10_read 18 = .ok (.ireturn, 1) := by decide +kernel
theorem dX10_read_19 : decode cX10_read 19 = .ok (.aload_n 0, 1) := by decide +kernel
theorem dX10_read_20 : decode cX10_read 20 = .ok (.invokevirtual 107, 3) := by decide +kernel
theorem dX10_read_23 : decode cX10_read 23 = .ok (.iconst 0, 1) := by decide +kernel
theorem dX10_read_24 : decode cX10_read 24 = .ok (.istore_n 1, 1) := by decide +kernel
theorem dX10_read_25 : decode cX10_read 25 = .ok (.iload_n 1, 1) := by decide +kernel
theorem dX10_read_26 : decode cX10_read 26 = .ok (.sipush 620, 3) := by decide +kernel
theorem dX10_read_29 : decode cX10_read 29 = .ok (.if_icmp .ge 21, 3) := by decide +kernel
theorem dX10_read_32 : decode cX10_read 32 = .ok (.aload_n 0, 1) := by decide +kernel
theorem dX10_read_33 : decode cX10_read 33 = .ok (.getfield 7, 3) := by decide +kernel
theorem dX10_read_36 : decode cX10_read 36 = .ok (.iload_n 1, 1) := by decide +kernel
theorem dX10_read_37 : decode cX10_read 37 = .ok (.aload_n 0, 1) := by decide +kernel
theorem dX10_read_38 : decode cX10_read 38 = .ok (.getfield 34, 3) := by decide +kernel
theorem dX10_read_41 : decode cX10_read 41 = .ok (.iload_n 1, 1) := by decide +kernel
theorem dX10_read_42 : decode cX10_read 42 = .ok (.iaload, 1) := by decide +kernel
theorem dX10_read_43 : decode cX10_read 43 = .ok (.iastore, 1) := by decide +kernel
theorem dX10_read_44 : decode cX10_read 44 = .ok (.iinc 1 1, 3) := by decide +kernel
theorem dX10_read_47 : decode cX10_read 47 = .ok (.goto (-22), 3) := by decide +kernel
theorem dX10_read_50 : decode cX10_read 50 = .ok (.aload_n 0, 1) := by decide +kernel
theorem dX10_read_51 : decode cX10_read 51 = .ok (.iconst 0, 1) := by decide +kernel
theorem dX10_read_52 : decode cX10_read 52 = .ok (.putfield 56, 3) := by decide +kernel
theorem dX10_read_55 : decode cX10_read 55 = .ok (.aload_n 0, 1) := by decide +kernel
theorem dX10_read_56 : decode cX10_read 56 = .ok (.invokevirtual 110, 3) := by decide +kernel
theorem dX10_read_59 : decode cX10_read 59 = .ok (.istore_n 1, 1) := by decide +kernel
theorem dX10_read_60 : decode cX10_read 60 = .ok (.aload_n 0, 1) := by decide +kernel
theorem dX10_read_61 : decode cX10_read 61 = .ok (.getfield 7, 3) := by decide +kernel
theorem dX10_read_64 : decode cX10_read 64 = .ok (.iconst 2, 1) := by decide +kernel
theorem dX10_read_65 : decode cX10_read 65 = .ok (.iload_n 1, 1) := by decide +kernel
theorem dX10_read_66 : decode cX10_read 66 = .ok (.bipush 50, 2) := by decide +kernel
theorem dX10_read_68 : decode cX10_read 68 = .ok (.if_icmp .lt 10, 3) := by decide +kernel
theorem dX10_read_71 : decode cX10_read 71 = .ok (.iload_n 1, 1) := by decide +kernel
theorem dX10_read_72 : decode cX10_read 72 = .ok (.bipush 100, 2) := by decide +kernel
theorem dX10_read_74 : decode cX10_read 74 = .ok (.isub, 1) := by decide +kernel
theorem dX10_read_75 : decode cX10_read 75 = .ok (.goto 4, 3) := by decide +kernel
theorem dX10_read_78 : decode cX10_read 78 = .ok (.iload_n 1, 1) := by decide +kernel
theorem dX10_read_79 : decode cX10_read 79 = .ok (.iastore, 1) := by decide +kernel
theorem dX10_read_80 : decode cX10_read 80 = .ok (.aload_n 0, 1) := by decide +kernel
theorem dX10_read_81 : decode cX10_read 81 = .ok (.getfield 7, 3) := by decide +kernel
theorem dX10_read_84 : decode cX10_read 84 = .ok (.iconst 3, 1) := by decide +kernel
theorem dX10_read_85 : decode cX10_read 85 = .ok (.iload_n 1, 1) := by decide +kernel
theorem dX10_read_86 : decode cX10_read 86 = .ok (.bipush 50, 2) := by decide +kernel
theorem dX10_read_88 : decode cX10_read 88 = .ok (.if_icmp .lt 7, 3) := by decide +kernel
theorem dX10_read_91 : decode cX10_read 91 = .ok (.iconst 1, 1) := by decide +kernel
theorem dX10_read_92 : decode cX10_read 92 = .ok (.goto 4, 3) := by decide +kernel
theorem dX10_read_95 : decode cX10_read 95 = .ok (.iconst 0, 1) := by decide +kernel
theorem dX10_read_96 : decode cX10_read 96 = .ok (.iastore, 1) := by decide +kernel
theorem dX10_read_97 : decode cX10_read 97 = .ok (.aload_n 0, 1) := by decide +kernel
theorem dX10_read_98 : decode cX10_read 98 = .ok (.getfield 7, 3) := by decide +kernel
theorem dX10_read_101 : decode cX10_read 101 = .ok (.iconst 1, 1) := by decide +kernel
theorem dX10_read_102 : decode cX10_read 102 = .ok (.iaload, 1) := by decide +kernel
theorem dX10_read_103 : decode cX10_read 103 = .ok (.ireturn, 1) := by decide +kernel
theorem dX10_setSimple_0 : decode cX10_setSimple 0 = .ok (.aload_n 0, 1) := by decide +kernel
theorem dX10_setSimple_1 : decode cX10_setSimple 1 = .ok (.iconst 0, 1) := by decide +kernel
theorem dX10_setSimple_2 : decode cX10_setSimple 2 = .ok (.putfield 46, 3) := by decide +kernel
theorem dX10_setSimple_5 : decode cX10_setSimple 5 = .ok (.aload_n 0, 1) := by decide +kernel
theorem dX10_setSimple_6 : decode cX10_setSimple 6 = .ok (.getfield 19, 3) := by decide +kernel
theorem dX10_setSimple_9 : decode cX10_setSimple 9 = .ok (.istore_n 2, 1) := by decide +kernel
theorem dX10_setSimple_10 : decode cX10_setSimple 10 = .ok (.aload_n 0, 1) := by decide +kernel
theorem dX10_setSimple_11 : decode cX10_setSimple 11 = .ok (.iload_n 1, 1) := by decide +kernel
theorem dX10_setSimple_12 : decode cX10_setSimple 12 = .ok (.putfield 19, 3) := by decide +kernel
theorem dX10_setSimple_15 : decode cX10_setSimple 15 = .ok (.iload_n 2, 1) := by decide +kernel
theorem dX10_setSimple_16 : decode cX10_setSimple 16 = .ok (.ireturn, 1) := by decide +kernel
theorem dX10_setFlats_0 : decode cX10_setFlats 0 = .ok (.aload_n 0, 1) := by decide +kernel
theorem dX10_setFlats_1 : decode cX10_setFlats 1 = .ok (.iconst 0, 1) := by decide +kernel
theorem dX10_setFlats_2 : decode cX10_setFlats 2 = .ok (.putfield 46, 3) := by decide +kernel
theorem dX10_setFlats_5 : decode cX10_setFlats 5 = .ok (.aload_n 0, 1) := by decide +kernel
theorem dX10_setFlats_6 : decode cX10_setFlats 6 = .ok (.getfield 114, 3) := by decide +kernel
theorem dX10_setFlats_9 : decode cX10_setFlats 9 = .ok (.istore_n 2, 1) := by decide +kernel
theorem dX10_setFlats_10 : decode cX10_setFlats 10 = .ok (.aload_n 0, 1) := by decide +kernel
theorem dX10_setFlats_11 : decode cX10_setFlats 11 = .ok (.iload_n 1, 1) := by decide +kernel
theorem dX10_setFlats_12 : decode cX10_setFlats 12 = .ok (.putfield 114, 3) := by decide +kernel
theorem dX10_setFlats_15 : decode cX10_setFlats 15 = .ok (.iload_n 2, 1) := by decide +kernel
theorem dX10_setFlats_16 : decode cX10_setFlats 16 = .ok (.ireturn, 1) := by decide +kernel
theorem dX10_setWidth_0 : decode cX10_setWidth 0 = .ok (.aload_n 0, 1) := by decide +kernel
theorem dX10_setWidth_1 : decode cX10_setWidth 1 = .ok (.iconst 0, 1) := by decide +kernel
theorem dX10_setWidth_2 : decode cX10_setWidth 2 = .ok (.putfield 46, 3) := by decide +kernel
theorem dX10_setWidth_5 : decode cX10_setWidth 5 = .ok (.iload_n 1, 1) := by decide +kernel
theorem dX10_setWidth_6 : decode cX10_setWidth 6 = .ok (.bipush 10, 2) := by decide +kernel
theorem dX10_setWidth_8 : decode cX10_setWidth 8 = .ok (.sipush 200, 3) := by decide +kernel
theorem dX10_setWidth_11 : decode cX10_setWidth 11 = .ok (.invokestatic 97, 3) := by decide +kernel
theorem dX10_setWidth_14 : decode cX10_setWidth 14 = .ok (.ifCond .ne 9, 3) := by decide +kernel
theorem dX10_setWidth_17 : decode cX10_setWidth 17 = .ok (.aload_n 0, 1) := by decide +kernel
theorem dX10_setWidth_18 : decode cX10_setWidth 18 = .ok (.iconst 1, 1) := by decide +kernel
theorem dX10_setWidth_19 : decode cX10_setWidth 19 = .ok (.invokevirtual 101, 3) := by decide +kernel
theorem dX10_setWidth_22 : decode cX10_setWidth 22 = .ok (.ireturn, 1) := by decide +kernel
theorem dX10_setWidth_23 : decode cX10_setWidth 23 = .ok (.aload_n 0, 1) := by decide +kernel
theorem dX10_setWidth_24 : decode cX10_setWidth 24 = .ok (.getfield 23, 3) := by decide +kernel
theorem dX10_setWidth_27 : decode cX10_setWidth 27 = .ok (.istore_n 2, 1) := by decide +kernel
theorem dX10_setWidth_28 : decode cX10_setWidth 28 = .ok (.aload_n 0, 1) := by decide +kernel
theorem dX10_setWidth_29 : decode cX10_setWidth 29 = .ok (.iload_n 1, 1) := by decide +kernel
theorem dX10_setWidth_30 : decode cX10_setWidth 30 = .ok (.putfield 23, 3) := by decide +kernel
theorem dX10_setWidth_33 : decode cX10_setWidth 33 = .ok (.iload_n 2, 1) := by decide +kernel
theorem dX10_setWidth_34 : decode cX10_setWidth 34 = .ok (.ireturn, 1) := by decide +kernel
theorem dX10_lines_0 : decode cX10_lines 0 = .ok (.aload_n 0, 1) := by decide +kernel
theorem dX10_lines_1 : decode cX10_lines 1 = .ok (.iconst 0, 1) := by decide +kernel
theorem dX10_lines_2 : decode cX10_lines 2 = .ok (.putfield 46, 3) := by decide +kernel
theorem dX10_lines_5 : decode cX10_lines 5 = .ok (.aload_n 0, 1) := by decide +kernel
theorem dX10_lines_6 : decode cX10_lines 6 = .ok (.getfield 7, 3) := by decide +kernel
theorem dX10_lines_9 : decode cX10_lines 9 = .ok (.iconst 0, 1) := by decide +kernel
theorem dX10_lines_10 : decode cX10_lines 10 = .ok (.iaload, 1) := by decide +kernel
theorem dX10_lines_11 : decode cX10_lines 11 = .ok (.ireturn, 1) := by decide +kernel
theorem dX10_isLine_0 : decode cX10_isLine 0 = .ok (.iload_n 1, 1) := by decide +kernel
theorem dX10_isLine_1 : decode cX10_isLine 1 = .ok (.iconst 0, 1) := by decide +kernel
theorem dX10_isLine_2 : decode cX10_isLine 2 = .ok (.aload_n 0, 1) := by decide +kernel
theorem dX10_isLine_3 : decode cX10_isLine 3 = .ok (.getfield 7, 3) := by decide +kernel
theorem dX10_isLine_6 : decode cX10_isLine 6 = .ok (.iconst 0, 1) := by decide +kernel
theorem dX10_isLine_7 : decode cX10_isLine 7 = .ok (.iaload, 1) := by decide +kernel
theorem dX10_isLine_8 : decode cX10_isLine 8 = .ok (.iconst 1, 1) := by decide +kernel
theorem dX10_isLine_9 : decode cX10_isLine 9 = .ok (.isub, 1) := by decide +kernel
theorem dX10_isLine_10 : decode cX10_isLine 10 = .ok (.invokestatic 97, 3) := by decide +kernel
theorem dX10_isLine_13 : decode cX10_isLine 13 = .ok (.ireturn, 1) := by decide +kernel
theorem dX10_lengthOf_0 : decode cX10_lengthOf 0 = .ok (.aload_n 0, 1) := by decide +kernel
theorem dX10_lengthOf_1 : decode cX10_lengthOf 1 = .ok (.getfield 7, 3) := by decide +kernel
theorem dX10_lengthOf_4 : decode cX10_lengthOf 4 = .ok (.iconst 4, 1) := by decide +kernel
theorem dX10_lengthOf_5 : decode cX10_lengthOf 5 = .ok (.iload_n 1, 1) := by decide +kernel
theorem dX10_lengthOf_6 : decode cX10_lengthOf 6 = .ok (.iadd, 1) := by decide +kernel
theorem dX10_lengthOf_7 : decode cX10_lengthOf 7 = .ok (.iconst 1, 1) := by decide +kernel
theorem dX10_lengthOf_8 : decode cX10_lengthOf 8 = .ok (.iadd, 1) := by decide +kernel
theorem dX10_lengthOf_9 : decode cX10_lengthOf 9 = .ok (.iaload, 1) := by decide +kernel
theorem dX10_lengthOf_10 : decode cX10_lengthOf 10 = .ok (.aload_n 0, 1) := by decide +kernel
theorem dX10_lengthOf_11 : decode cX10_lengthOf 11 = .ok (.getfield 7, 3) := by decide +kernel
theorem dX10_lengthOf_14 : decode cX10_lengthOf 14 = .ok (.iconst 4, 1) := by decide +kernel
theorem dX10_lengthOf_15 : decode cX10_lengthOf 15 = .ok (.iload_n 1, 1) := by decide +kernel
theorem dX10_lengthOf_16 : decode cX10_lengthOf 16 = .ok (.iadd, 1) := by decide +kernel
theorem dX10_lengthOf_17 : decode cX10_lengthOf 17 = .ok (.iaload, 1) := by decide +kernel
theorem dX10_lengthOf_18 : decode cX10_lengthOf 18 = .ok (.isub, 1) := by decide +kernel
theorem dX10_lengthOf_19 : decode cX10_lengthOf 19 = .ok (.ireturn, 1) := by decide +kernel
theorem dX10_lyrics_0 : decode cX10_lyrics 0 = .ok (.aload_n 0, 1) := by decide +kernel
theorem dX10_lyrics_1 : decode cX10_lyrics 1 = .ok (.iconst 0, 1) := by decide +kernel
theorem dX10_lyrics_2 : decode cX10_lyrics 2 = .ok (.putfield 46, 3) := by decide +kernel
theorem dX10_lyrics_5 : decode cX10_lyrics 5 = .ok (.aload_n 0, 1) := by decide +kernel
theorem dX10_lyrics_6 : decode cX10_lyrics 6 = .ok (.iload_n 1, 1) := by decide +kernel
theorem dX10_lyrics_7 : decode cX10_lyrics 7 = .ok (.invokevirtual 117, 3) := by decide +kernel
theorem dX10_lyrics_10 : decode cX10_lyrics 10 = .ok (.ifCond .eq 11, 3) := by decide +kernel
theorem dX10_lyrics_13 : decode cX10_lyrics 13 = .ok (.aload_n 0, 1) := by decide +kernel
theorem dX10_lyrics_14 : decode cX10_lyrics 14 = .ok (.iload_n 1, 1) := by decide +kernel
theorem dX10_lyrics_15 : decode cX10_lyrics 15 = .ok (.invokevirtual 120, 3) := by decide +kernel
theorem dX10_lyrics_18 : decode cX10_lyrics 18 = .ok (.goto 8, 3) := by decide +kernel
theorem dX10_lyrics_21 : decode cX10_lyrics 21 = .ok (.aload_n 0, 1) := by decide +kernel
theorem dX10_lyrics_22 : decode cX10_lyrics 22 = .ok (.iconst 1, 1) := by decide +kernel
theorem dX10_lyrics_23 : decode cX10_lyrics 23 = .ok (.invokevirtual 101, 3) := by decide +kernel
theorem dX10_lyrics_26 : decode cX10_lyrics 26 = .ok (.ireturn, 1) := by decide +kernel
theorem dX10_lyricAt_0 : decode cX10_lyricAt 0 = .ok (.aload_n 0, 1) := by decide +kernel
theorem dX10_lyricAt_1 : decode cX10_lyricAt 1 = .ok (.getfield 7, 3) := by decide +kernel
theorem dX10_lyricAt_4 : decode cX10_lyricAt 4 = .ok (.sipush 415, 3) := by decide +kernel
theorem dX10_lyricAt_7 : decode cX10_lyricAt 7 = .ok (.aload_n 0, 1) := by decide +kernel
theorem dX10_lyricAt_8 : decode cX10_lyricAt 8 = .ok (.getfield 7, 3) := by decide +kernel
theorem dX10_lyricAt_11 : decode cX10_lyricAt 11 = .ok (.iconst 4, 1) := by decide +kernel
theorem dX10_lyricAt_12 : decode cX10_lyricAt 12 = .ok (.iload_n 1, 1) := by decide +kernel
theorem dX10_lyricAt_13 : decode cX10_lyricAt 13 = .ok (.iadd, 1) := by decide +kernel
theorem dX10_lyricAt_14 : decode cX10_lyricAt 14 = .ok (.iaload, 1) := by decide +kernel
theorem dX10_lyricAt_15 : decode cX10_lyricAt 15 = .ok (.iadd, 1) := by decide +kernel
theorem dX10_lyricAt_16 : decode cX10_lyricAt 16 = .ok (.iload_n 2, 1) := by decide +kernel
theorem dX10_lyricAt_17 : decode cX10_lyricAt 17 = .ok (.iadd, 1) := by decide +kernel
theorem dX10_lyricAt_18 : decode cX10_lyricAt 18 = .ok (.iaload, 1) := by decide +kernel
theorem dX10_lyricAt_19 : decode cX10_lyricAt 19 = .ok (.ireturn, 1) := by decide +kernel
theorem dX10_lyric_0 : decode cX10_lyric 0 = .ok (.aload_n 0, 1) := by decide +kernel
theorem dX10_lyric_1 : decode cX10_lyric 1 = .ok (.iconst 0, 1) := by decide +kernel
theorem dX10_lyric_2 : decode cX10_lyric 2 = .ok (.putfield 46, 3) := by decide +kernel
theorem dX10_lyric_5 : decode cX10_lyric 5 = .ok (.aload_n 0, 1) := by decide +kernel
theorem dX10_lyric_6 : decode cX10_lyric 6 = .ok (.iload_n 1, 1) := by decide +kernel
theorem dX10_lyric_7 : decode cX10_lyric 7 = .ok (.invokevirtual 117, 3) := by decide +kernel
theorem dX10_lyric_10 : decode cX10_lyric 10 = .ok (.ifCond .eq 27, 3) := by decide +kernel
theorem dX10_lyric_13 : decode cX10_lyric 13 = .ok (.iload_n 2, 1) := by decide +kernel
theorem dX10_lyric_14 : decode cX10_lyric 14 = .ok (.iconst 0, 1) := by decide +kernel
theorem dX10_lyric_15 : decode cX10_lyric 15 = .ok (.aload_n 0, 1) := by decide +kernel
theorem dX10_lyric_16 : decode cX10_lyric 16 = .ok (.iload_n 1, 1) := by decide +kernel
theorem dX10_lyric_17 : decode cX10_lyric 17 = .ok (.invokevirtual 120, 3) := by decide +kernel
theorem dX10_lyric_20 : decode cX10_lyric 20 = .ok (.iconst 1, 1) := by decide +kernel
theorem dX10_lyric_21 : decode cX10_lyric 21 = .ok (.isub, 1) := by decide +kernel
theorem dX10_lyric_22 : decode cX10_lyric 22 = .ok (.invokestatic 97, 3) := by decide +kernel
theorem dX10_lyric_25 : decode cX10_lyric 25 = .ok (.ifCond .eq 12, 3) := by decide +kernel
theorem dX10_lyric_28 : decode cX10_lyric 28 = .ok (.aload_n 0, 1) := by decide +kernel
theorem dX10_lyric_29 : decode cX10_lyric 29 = .ok (.iload_n 1, 1) := by decide +kernel
theorem dX10_lyric_30 : decode cX10_lyric 30 = .ok (.iload_n 2, 1) := by decide +kernel
theorem dX10_lyric_31 : decode cX10_lyric 31 = .ok (.invokevirtual 123, 3) := by decide +kernel
theorem dX10_lyric_34 : decode cX10_lyric 34 = .ok (.goto 8, 3) := by decide +kernel
theorem dX10_lyric_37 : decode cX10_lyric 37 = .ok (.aload_n 0, 1) := by decide +kernel
theorem dX10_lyric_38 : decode cX10_lyric 38 = .ok (.iconst 1, 1) := by decide +kernel
theorem dX10_lyric_39 : decode cX10_lyric 39 = .ok (.invokevirtual 101, 3) := by decide +kernel
theorem dX10_lyric_42 : decode cX10_lyric 42 = .ok (.ireturn, 1) := by decide +kernel
theorem dX10_chords_0 : decode cX10_chords 0 = .ok (.aload_n 0, 1) := by decide +kernel
theorem dX10_chords_1 : decode cX10_chords 1 = .ok (.iconst 0, 1) := by decide +kernel
theorem dX10_chords_2 : decode cX10_chords 2 = .ok (.putfield 46, 3) := by decide +kernel
theorem dX10_chords_5 : decode cX10_chords 5 = .ok (.aload_n 0, 1) := by decide +kernel
theorem dX10_chords_6 : decode cX10_chords 6 = .ok (.getfield 7, 3) := by decide +kernel
theorem dX10_chords_9 : decode cX10_chords 9 = .ok (.iconst 1, 1) := by decide +kernel
theorem dX10_chords_10 : decode cX10_chords 10 = .ok (.iaload, 1) := by decide +kernel
theorem dX10_chords_11 : decode cX10_chords 11 = .ok (.ireturn, 1) := by decide +kernel
theorem dX10_isChord_0 : decode cX10_isChord 0 = .ok (.iload_n 1, 1) := by decide +kernel
theorem dX10_isChord_1 : decode cX10_isChord 1 = .ok (.iconst 0, 1) := by decide +kernel
theorem dX10_isChord_2 : decode cX10_isChord 2 = .ok (.aload_n 0, 1) := by decide +kernel
theorem dX10_isChord_3 : decode cX10_isChord 3 = .ok (.getfield 7, 3) := by decide +kernel
theorem dX10_isChord_6 : decode cX10_isChord 6 = .ok (.iconst 1, 1) := by decide +kernel
theorem dX10_isChord_7 : decode cX10_isChord 7 = .ok (.iaload, 1) := by decide +kernel
theorem dX10_isChord_8 : decode cX10_isChord 8 = .ok (.iconst 1, 1) := by decide +kernel
theorem dX10_isChord_9 : decode cX10_isChord 9 = .ok (.isub, 1) := by decide +kernel
theorem dX10_isChord_10 : decode cX10_isChord 10 = .ok (.invokestatic 97, 3) := by decide +kernel
theorem dX10_isChord_13 : decode cX10_isChord 13 = .ok (.ireturn, 1) := by decide +kernel
theorem dX10_told_0 : decode cX10_told 0 = .ok (.aload_n 0, 1) := by decide +kernel
theorem dX10_told_1 : decode cX10_told 1 = .ok (.iconst 0, 1) := by decide +kernel
theorem dX10_told_2 : decode cX10_told 2 = .ok (.putfield 46, 3) := by decide +kernel
theorem dX10_told_5 : decode cX10_told 5 = .ok (.aload_n 0, 1) := by decide +kernel
theorem dX10_told_6 : decode cX10_told 6 = .ok (.iload_n 1, 1) := by decide +kernel
theorem dX10_told_7 : decode cX10_told 7 = .ok (.invokevirtual 127, 3) := by decide +kernel
theorem dX10_told_10 : decode cX10_told 10 = .ok (.ifCond .eq 17, 3) := by decide +kernel
theorem dX10_told_13 : decode cX10_told 13 = .ok (.aload_n 0, 1) := by decide +kernel
theorem dX10_told_14 : decode cX10_told 14 = .ok (.getfield 7, 3) := by decide +kernel
theorem dX10_told_17 : decode cX10_told 17 = .ok (.iload_n 1, 1) := by decide +kernel
theorem dX10_told_18 : decode cX10_told 18 = .ok (.invokestatic 94, 3) := by decide +kernel
theorem dX10_told_21 : decode cX10_told 21 = .ok (.iload_n 2, 1) := by decide +kernel
theorem dX10_told_22 : decode cX10_told 22 = .ok (.iadd, 1) := by decide +kernel
theorem dX10_told_23 : decode cX10_told 23 = .ok (.iaload, 1) := by decide +kernel
theorem dX10_told_24 : decode cX10_told 24 = .ok (.goto 8, 3) := by decide +kernel
theorem dX10_told_27 : decode cX10_told 27 = .ok (.aload_n 0, 1) := by decide +kernel
theorem dX10_told_28 : decode cX10_told 28 = .ok (.iconst 1, 1) := by decide +kernel
theorem dX10_told_29 : decode cX10_told 29 = .ok (.invokevirtual 101, 3) := by decide +kernel
theorem dX10_told_32 : decode cX10_told 32 = .ok (.ireturn, 1) := by decide +kernel
theorem dX10_lineOf_0 : decode cX10_lineOf 0 = .ok (.aload_n 0, 1) := by decide +kernel
theorem dX10_lineOf_1 : decode cX10_lineOf 1 = .ok (.iload_n 1, 1) := by decide +kernel
theorem dX10_lineOf_2 : decode cX10_lineOf 2 = .ok (.iconst 0, 1) := by decide +kernel
theorem dX10_lineOf_3 : decode cX10_lineOf 3 = .ok (.invokevirtual 130, 3) := by decide +kernel
theorem dX10_lineOf_6 : decode cX10_lineOf 6 = .ok (.ireturn, 1) := by decide +kernel
theorem dX10_columnOf_0 : decode cX10_columnOf 0 = .ok (.aload_n 0, 1) := by decide +kernel
theorem dX10_columnOf_1 : decode cX10_columnOf 1 = .ok (.iload_n 1, 1) := by decide +kernel
theorem dX10_columnOf_2 : decode cX10_columnOf 2 = .ok (.iconst 1, 1) := by decide +kernel
theorem dX10_columnOf_3 : decode cX10_columnOf 3 = .ok (.invokevirtual 130, 3) := by decide +kernel
theorem dX10_columnOf_6 : decode cX10_columnOf 6 = .ok (.ireturn, 1) := by decide +kernel
theorem dX10_rootOf_0 : decode cX10_rootOf 0 = .ok (.aload_n 0, 1) := by decide +kernel
theorem dX10_rootOf_1 : decode cX10_rootOf 1 = .ok (.iload_n 1, 1) := by decide +kernel
theorem dX10_rootOf_2 : decode cX10_rootOf 2 = .ok (.iconst 2, 1) := by decide +kernel
theorem dX10_rootOf_3 : decode cX10_rootOf 3 = .ok (.invokevirtual 130, 3) := by decide +kernel
theorem dX10_rootOf_6 : decode cX10_rootOf 6 = .ok (.ireturn, 1) := by decide +kernel
theorem dX10_qualityOf_0 : decode cX10_qualityOf 0 = .ok (.aload_n 0, 1) := by decide +kernel
theorem dX10_qualityOf_1 : decode cX10_qualityOf 1 = .ok (.iload_n 1, 1) := by decide +kernel
theorem dX10_qualityOf_2 : decode cX10_qualityOf 2 = .ok (.iconst 3, 1) := by decide +kernel
theorem dX10_qualityOf_3 : decode cX10_qualityOf 3 = .ok (.invokevirtual 130, 3) := by decide +kernel
theorem dX10_qualityOf_6 : decode cX10_qualityOf 6 = .ok (.ireturn, 1) := by decide +kernel
theorem dX10_bassOf_0 : decode cX10_bassOf 0 = .ok (.aload_n 0, 1) := by decide +kernel
theorem dX10_bassOf_1 : decode cX10_bassOf 1 = .ok (.iload_n 1, 1) := by decide +kernel
theorem dX10_bassOf_2 : decode cX10_bassOf 2 = .ok (.iconst 4, 1) := by decide +kernel
theorem dX10_bassOf_3 : decode cX10_bassOf 3 = .ok (.invokevirtual 130, 3) := by decide +kernel
theorem dX10_bassOf_6 : decode cX10_bassOf 6 = .ok (.ireturn, 1) := by decide +kernel
theorem dX10_tells_0 : decode cX10_tells 0 = .ok (.aload_n 0, 1) := by decide +kernel
theorem dX10_tells_1 : decode cX10_tells 1 = .ok (.getfield 37, 3) := by decide +kernel
theorem dX10_tells_4 : decode cX10_tells 4 = .ok (.aload_n 0, 1) := by decide +kernel
theorem dX10_tells_5 : decode cX10_tells 5 = .ok (.getfield 133, 3) := by decide +kernel
theorem dX10_tells_8 : decode cX10_tells 8 = .ok (.iload_n 1, 1) := by decide +kernel
theorem dX10_tells_9 : decode cX10_tells 9 = .ok (.iastore, 1) := by decide +kernel
theorem dX10_tells_10 : decode cX10_tells 10 = .ok (.aload_n 0, 1) := by decide +kernel
theorem dX10_tells_11 : decode cX10_tells 11 = .ok (.dup, 1) := by decide +kernel
theorem dX10_tells_12 : decode cX10_tells 12 = .ok (.getfield 133, 3) := by decide +kernel
theorem dX10_tells_15 : decode cX10_tells 15 = .ok (.iconst 1, 1) := by decide +kernel
theorem dX10_tells_16 : decode cX10_tells 16 = .ok (.iadd, 1) := by decide +kernel
theorem dX10_tells_17 : decode cX10_tells 17 = .ok (.putfield 133, 3) := by decide +kernel
theorem dX10_tells_20 : decode cX10_tells 20 = .ok (.return_, 1) := by decide +kernel
theorem dX10_tellsNote_0 : decode cX10_tellsNote 0 = .ok (.iconst 0, 1) := by decide +kernel
theorem dX10_tellsNote_1 : decode cX10_tellsNote 1 = .ok (.istore_n 2, 1) := by decide +kernel
theorem dX10_tellsNote_2 : decode cX10_tellsNote 2 = .ok (.iload_n 1, 1) := by decide +kernel
theorem dX10_tellsNote_3 : decode cX10_tellsNote 3 = .ok (.istore_n 3, 1) := by decide +kernel
theorem dX10_tellsNote_4 : decode cX10_tellsNote 4 = .ok (.iload_n 3, 1) := by decide +kernel
theorem dX10_tellsNote_5 : decode cX10_tellsNote 5 = .ok (.iconst (-1), 1) := by decide +kernel
theorem dX10_tellsNote_6 : decode cX10_tellsNote 6 = .ok (.if_icmp .ge 12, 3) := by decide +kernel
theorem dX10_tellsNote_9 : decode cX10_tellsNote 9 = .ok (.iinc 3 7, 3) := by decide +kernel
theorem dX10_tellsNote_12 : decode cX10_tellsNote 12 = .ok (.iinc 2 (-1), 3) := by decide +kernel
theorem dX10_tellsNote_15 : decode cX10_tellsNote 15 = .ok (.goto (-11), 3) := by decide +kernel
theorem dX10_tellsNote_18 : decode cX10_tellsNote 18 = .ok (.iload_n 3, 1) := by decide +kernel
theorem dX10_tellsNote_19 : decode cX10_tellsNote 19 = .ok (.iconst 5, 1) := by decide +kernel
theorem dX10_tellsNote_20 : decode cX10_tellsNote 20 = .ok (.if_icmp .le 12, 3) := by decide +kernel
theorem dX10_tellsNote_23 : decode cX10_tellsNote 23 = .ok (.iinc 3 (-7), 3) := by decide +kernel
theorem dX10_tellsNote_26 : decode cX10_tellsNote 26 = .ok (.iinc 2 1, 3) := by decide +kernel
theorem dX10_tellsNote_29 : decode cX10_tellsNote 29 = .ok (.goto (-11), 3) := by decide +kernel
theorem dX10_tellsNote_32 : decode cX10_tellsNote 32 = .ok (.aload_n 0, 1) := by decide +kernel
theorem dX10_tellsNote_33 : decode cX10_tellsNote 33 = .ok (.aload_n 0, 1) := by decide +kernel
theorem dX10_tellsNote_34 : decode cX10_tellsNote 34 = .ok (.getfield 27, 3) := by decide +kernel
theorem dX10_tellsNote_37 : decode cX10_tellsNote 37 = .ok (.iload_n 3, 1) := by decide +kernel
theorem dX10_tellsNote_38 : decode cX10_tellsNote 38 = .ok (.iconst 1, 1) := by decide +kernel
theorem dX10_tellsNote_39 : decode cX10_tellsNote 39 = .ok (.iadd, 1) := by decide +kernel
theorem dX10_tellsNote_40 : decode cX10_tellsNote 40 = .ok (.caload, 1) := by decide +kernel
theorem dX10_tellsNote_41 : decode cX10_tellsNote 41 = .ok (.invokevirtual 136, 3) := by decide +kernel
theorem dX10_tellsNote_44 : decode cX10_tellsNote 44 = .ok (.iconst 0, 1) := by decide +kernel
theorem dX10_tellsNote_45 : decode cX10_tellsNote 45 = .ok (.istore 4, 2) := by decide +kernel
theorem dX10_tellsNote_47 : decode cX10_tellsNote 47 = .ok (.iload 4, 2) := by decide +kernel
theorem dX10_tellsNote_49 : decode cX10_tellsNote 49 = .ok (.iload_n 2, 1) := by decide +kernel
theorem dX10_tellsNote_50 : decode cX10_tellsNote 50 = .ok (.if_icmp .lt 10, 3) := by decide +kernel
theorem dX10_tellsNote_53 : decode cX10_tellsNote 53 = .ok (.iload 4, 2) := by decide +kernel
theorem dX10_tellsNote_55 : decode cX10_tellsNote 55 = .ok (.iload_n 2, 1) := by decide +kernel
theorem dX10_tellsNote_56 : decode cX10_tellsNote 56 = .ok (.ineg, 1) := by decide +kernel
theorem dX10_tellsNote_57 : decode cX10_tellsNote 57 = .ok (.if_icmp .ge 24, 3) := by decide +kernel
theorem dX10_tellsNote_60 : decode cX10_tellsNote 60 = .ok (.aload_n 0, 1) := by decide +kernel
theorem dX10_tellsNote_61 : decode cX10_tellsNote 61 = .ok (.iload_n 2, 1) := by decide +kernel
theorem dX10_tellsNote_62 : decode cX10_tellsNote 62 = .ok (.ifCond .le 8, 3) := by decide +kernel
theorem dX10_tellsNote_65 : decode cX10_tellsNote 65 = .ok (.bipush 35, 2) := by decide +kernel
theorem dX10_tellsNote_67 : decode cX10_tellsNote 67 = .ok (.goto 5, 3) := by decide +kernel
theorem dX10_tellsNote_70 : decode cX10_tellsNote 70 = .ok (.bipush 98, 2) := by decide +kernel
theorem dX10_tellsNote_72 : decode cX10_tellsNote 72 = .ok (.invokevirtual 136, 3) := by decide +kernel
theorem dX10_tellsNote_75 : decode cX10_tellsNote 75 = .ok (.iinc 4 1, 3) := by decide +kernel
theorem dX10_tellsNote_78 : decode cX10_tellsNote 78 = .ok (.goto (-31), 3) := by decide +kernel
theorem dX10_tellsNote_81 : decode cX10_tellsNote 81 = .ok (.return_, 1) := by decide +kernel
theorem dX10_names_0 : decode cX10_names 0 = .ok (.aload_n 0, 1) := by decide +kernel
theorem dX10_names_1 : decode cX10_names 1 = .ok (.iconst 0, 1) := by decide +kernel
theorem dX10_names_2 : decode cX10_names 2 = .ok (.putfield 133, 3) := by decide +kernel
theorem dX10_names_5 : decode cX10_names 5 = .ok (.aload_n 0, 1) := by decide +kernel
theorem dX10_names_6 : decode cX10_names 6 = .ok (.aload_n 0, 1) := by decide +kernel
theorem dX10_names_7 : decode cX10_names 7 = .ok (.getfield 7, 3) := by decide +kernel
theorem dX10_names_10 : decode cX10_names 10 = .ok (.iload_n 1, 1) := by decide +kernel
theorem dX10_names_11 : decode cX10_names 11 = .ok (.invokestatic 94, 3) := by decide +kernel
theorem dX10_names_14 : decode cX10_names 14 = .ok (.iconst 2, 1) := by decide +kernel
theorem dX10_names_15 : decode cX10_names 15 = .ok (.iadd, 1) := by decide +kernel
theorem dX10_names_16 : decode cX10_names 16 = .ok (.iaload, 1) := by decide +kernel
theorem dX10_names_17 : decode cX10_names 17 = .ok (.invokevirtual 140, 3) := by decide +kernel
theorem dX10_names_20 : decode cX10_names 20 = .ok (.iconst 0, 1) := by decide +kernel
theorem dX10_names_21 : decode cX10_names 21 = .ok (.istore_n 2, 1) := by decide +kernel
theorem dX10_names_22 : decode cX10_names 22 = .ok (.iconst 0, 1) := by decide +kernel
theorem dX10_names_23 : decode cX10_names 23 = .ok (.istore_n 3, 1) := by decide +kernel
theorem dX10_names_24 : decode cX10_names 24 = .ok (.iload_n 3, 1) := by decide +kernel
theorem dX10_names_25 : decode cX10_names 25 = .ok (.aload_n 0, 1) := by decide +kernel
theorem dX10_names_26 : decode cX10_names 26 = .ok (.getfield 31, 3) := by decide +kernel
theorem dX10_names_29 : decode cX10_names 29 = .ok (.arraylength, 1) := by decide +kernel
theorem dX10_names_30 : decode cX10_names 30 = .ok (.if_icmp .ge 51, 3) := by decide +kernel
theorem dX10_names_33 : decode cX10_names 33 = .ok (.aload_n 0, 1) := by decide +kernel
theorem dX10_names_34 : decode cX10_names 34 = .ok (.getfield 31, 3) := by decide +kernel
theorem dX10_names_37 : decode cX10_names 37 = .ok (.iload_n 3, 1) := by decide +kernel
theorem dX10_names_38 : decode cX10_names 38 = .ok (.caload, 1) := by decide +kernel
theorem dX10_names_39 : decode cX10_names 39 = .ok (.bipush 59, 2) := by decide +kernel
theorem dX10_names_41 : decode cX10_names 41 = .ok (.if_icmp .ne 9, 3) := by decide +kernel
theorem dX10_names_44 : decode cX10_names 44 = .ok (.iinc 2 1, 3) := by decide +kernel
theorem dX10_names_47 : decode cX10_names 47 = .ok (.goto 28, 3) := by decide +kernel
theorem dX10_names_50 : decode cX10_names 50 = .ok (.iload_n 2, 1) := by decide +kernel
theorem dX10_names_51 : decode cX10_names 51 = .ok (.aload_n 0, 1) := by decide +kernel
theorem dX10_names_52 : decode cX10_names 52 = .ok (.getfield 7, 3) := by decide +kernel
theorem dX10_names_55 : decode cX10_names 55 = .ok (.iload_n 1, 1) := by decide +kernel
theorem dX10_names_56 : decode cX10_names 56 = .ok (.invokestatic 94, 3) := by decide +kernel
theorem dX10_names_59 : decode cX10_names 59 = .ok (.iconst 3, 1) := by decide +kernel
theorem dX10_names_60 : decode cX10_names 60 = .ok (.iadd, 1) := by decide +kernel
theorem dX10_names_61 : decode cX10_names 61 = .ok (.iaload, 1) := by decide +kernel
theorem dX10_names_62 : decode cX10_names 62 = .ok (.if_icmp .ne 13, 3) := by decide +kernel
theorem dX10_names_65 : decode cX10_names 65 = .ok (.aload_n 0, 1) := by decide +kernel
theorem dX10_names_66 : decode cX10_names 66 = .ok (.aload_n 0, 1) := by decide +kernel
theorem dX10_names_67 : decode cX10_names 67 = .ok (.getfield 31, 3) := by decide +kernel
theorem dX10_names_70 : decode cX10_names 70 = .ok (.iload_n 3, 1) := by decide +kernel
theorem dX10_names_71 : decode cX10_names 71 = .ok (.caload, 1) := by decide +kernel
theorem dX10_names_72 : decode cX10_names 72 = .ok (.invokevirtual 136, 3) := by decide +kernel
theorem dX10_names_75 : decode cX10_names 75 = .ok (.iinc 3 1, 3) := by decide +kernel
theorem dX10_names_78 : decode cX10_names 78 = .ok (.goto (-54), 3) := by decide +kernel
theorem dX10_names_81 : decode cX10_names 81 = .ok (.aload_n 0, 1) := by decide +kernel
theorem dX10_names_82 : decode cX10_names 82 = .ok (.getfield 7, 3) := by decide +kernel
theorem dX10_names_85 : decode cX10_names 85 = .ok (.iload_n 1, 1) := by decide +kernel
theorem dX10_names_86 : decode cX10_names 86 = .ok (.invokestatic 94, 3) := by decide +kernel
theorem dX10_names_89 : decode cX10_names 89 = .ok (.iconst 4, 1) := by decide +kernel
theorem dX10_names_90 : decode cX10_names 90 = .ok (.iadd, 1) := by decide +kernel
theorem dX10_names_91 : decode cX10_names 91 = .ok (.iaload, 1) := by decide +kernel
theorem dX10_names_92 : decode cX10_names 92 = .ok (.bipush 100, 2) := by decide +kernel
theorem dX10_names_94 : decode cX10_names 94 = .ok (.if_icmp .eq 24, 3) := by decide +kernel
theorem dX10_names_97 : decode cX10_names 97 = .ok (.aload_n 0, 1) := by decide +kernel
theorem dX10_names_98 : decode cX10_names 98 = .ok (.bipush 47, 2) := by decide +kernel
theorem dX10_names_100 : decode cX10_names 100 = .ok (.invokevirtual 136, 3) := by decide +kernel
theorem dX10_names_103 : decode cX10_names 103 = .ok (.aload_n 0, 1) := by decide +kernel
theorem dX10_names_104 : decode cX10_names 104 = .ok (.aload_n 0, 1) := by decide +kernel
theorem dX10_names_105 : decode cX10_names 105 = .ok (.getfield 7, 3) := by decide +kernel
theorem dX10_names_108 : decode cX10_names 108 = .ok (.iload_n 1, 1) := by decide +kernel
theorem dX10_names_109 : decode cX10_names 109 = .ok (.invokestatic 94, 3) := by decide +kernel
theorem dX10_names_112 : decode cX10_names 112 = .ok (.iconst 4, 1) := by decide +kernel
theorem dX10_names_113 : decode cX10_names 113 = .ok (.iadd, 1) := by decide +kernel
theorem dX10_names_114 : decode cX10_names 114 = .ok (.iaload, 1) := by decide +kernel
theorem dX10_names_115 : decode cX10_names 115 = .ok (.invokevirtual 140, 3) := by decide +kernel
theorem dX10_names_118 : decode cX10_names 118 = .ok (.return_, 1) := by decide +kernel
theorem dX10_nameChar_0 : decode cX10_nameChar 0 = .ok (.aload_n 0, 1) := by decide +kernel
theorem dX10_nameChar_1 : decode cX10_nameChar 1 = .ok (.iconst 0, 1) := by decide +kernel
theorem dX10_nameChar_2 : decode cX10_nameChar 2 = .ok (.putfield 46, 3) := by decide +kernel
theorem dX10_nameChar_5 : decode cX10_nameChar 5 = .ok (.aload_n 0, 1) := by decide +kernel
theorem dX10_nameChar_6 : decode cX10_nameChar 6 = .ok (.iload_n 1, 1) := by decide +kernel
theorem dX10_nameChar_7 : decode cX10_nameChar 7 = .ok (.invokevirtual 127, 3) := by decide +kernel
theorem dX10_nameChar_10 : decode cX10_nameChar 10 = .ok (.ifCond .eq 7, 3) := by decide +kernel
theorem dX10_nameChar_13 : decode cX10_nameChar 13 = .ok (.iload_n 2, 1) := by decide +kernel
theorem dX10_nameChar_14 : decode cX10_nameChar 14 = .ok (.ifCond .ge 9, 3) := by decide +kernel
theorem dX10_nameChar_17 : decode cX10_nameChar 17 = .ok (.aload_n 0, 1) := by decide +kernel
theorem dX10_nameChar_18 : decode cX10_nameChar 18 = .ok (.iconst 1, 1) := by decide +kernel
theorem dX10_nameChar_19 : decode cX10_nameChar 19 = .ok (.invokevirtual 101, 3) := by decide +kernel
theorem dX10_nameChar_22 : decode cX10_nameChar 22 = .ok (.ireturn, 1) := by decide +kernel
theorem dX10_nameChar_23 : decode cX10_nameChar 23 = .ok (.aload_n 0, 1) := by decide +kernel
theorem dX10_nameChar_24 : decode cX10_nameChar 24 = .ok (.iload_n 1, 1) := by decide +kernel
theorem dX10_nameChar_25 : decode cX10_nameChar 25 = .ok (.invokevirtual 143, 3) := by decide +kernel
theorem dX10_nameChar_28 : decode cX10_nameChar 28 = .ok (.iload_n 2, 1) := by decide +kernel
theorem dX10_nameChar_29 : decode cX10_nameChar 29 = .ok (.aload_n 0, 1) := by decide +kernel
theorem dX10_nameChar_30 : decode cX10_nameChar 30 = .ok (.getfield 133, 3) := by decide +kernel
theorem dX10_nameChar_33 : decode cX10_nameChar 33 = .ok (.if_icmp .ge 12, 3) := by decide +kernel
theorem dX10_nameChar_36 : decode cX10_nameChar 36 = .ok (.aload_n 0, 1) := by decide +kernel
theorem dX10_nameChar_37 : decode cX10_nameChar 37 = .ok (.getfield 37, 3) := by decide +kernel
theorem dX10_nameChar_40 : decode cX10_nameChar 40 = .ok (.iload_n 2, 1) := by decide +kernel
theorem dX10_nameChar_41 : decode cX10_nameChar 41 = .ok (.iaload, 1) := by decide +kernel
theorem dX10_nameChar_42 : decode cX10_nameChar 42 = .ok (.goto 4, 3) := by decide +kernel
theorem dX10_nameChar_45 : decode cX10_nameChar 45 = .ok (.iconst (-1), 1) := by decide +kernel
theorem dX10_nameChar_46 : decode cX10_nameChar 46 = .ok (.ireturn, 1) := by decide +kernel
theorem dX10_isText_0 : decode cX10_isText 0 = .ok (.aload_n 0, 1) := by decide +kernel
theorem dX10_isText_1 : decode cX10_isText 1 = .ok (.iconst 0, 1) := by decide +kernel
theorem dX10_isText_2 : decode cX10_isText 2 = .ok (.putfield 59, 3) := by decide +kernel
theorem dX10_isText_5 : decode cX10_isText 5 = .ok (.aload_n 0, 1) := by decide +kernel
theorem dX10_isText_6 : decode cX10_isText 6 = .ok (.iconst (-1), 1) := by decide +kernel
theorem dX10_isText_7 : decode cX10_isText 7 = .ok (.invokevirtual 90, 3) := by decide +kernel
theorem dX10_isText_10 : decode cX10_isText 10 = .ok (.ireturn, 1) := by decide +kernel
theorem dX10_puts_0 : decode cX10_puts 0 = .ok (.aload_n 0, 1) := by decide +kernel
theorem dX10_puts_1 : decode cX10_puts 1 = .ok (.getfield 7, 3) := by decide +kernel
theorem dX10_puts_4 : decode cX10_puts 4 = .ok (.iload_n 1, 1) := by decide +kernel
theorem dX10_puts_5 : decode cX10_puts 5 = .ok (.iconst 2, 1) := by decide +kernel
theorem dX10_puts_6 : decode cX10_puts 6 = .ok (.iadd, 1) := by decide +kernel
theorem dX10_puts_7 : decode cX10_puts 7 = .ok (.aload_n 0, 1) := by decide +kernel
theorem dX10_puts_8 : decode cX10_puts 8 = .ok (.getfield 78, 3) := by decide +kernel
theorem dX10_puts_11 : decode cX10_puts 11 = .ok (.iastore, 1) := by decide +kernel
theorem dX10_puts_12 : decode cX10_puts 12 = .ok (.aload_n 0, 1) := by decide +kernel
theorem dX10_puts_13 : decode cX10_puts 13 = .ok (.getfield 7, 3) := by decide +kernel
theorem dX10_puts_16 : decode cX10_puts 16 = .ok (.iload_n 1, 1) := by decide +kernel
theorem dX10_puts_17 : decode cX10_puts 17 = .ok (.iconst 3, 1) := by decide +kernel
theorem dX10_puts_18 : decode cX10_puts 18 = .ok (.iadd, 1) := by decide +kernel
theorem dX10_puts_19 : decode cX10_puts 19 = .ok (.aload_n 0, 1) := by decide +kernel
theorem dX10_puts_20 : decode cX10_puts 20 = .ok (.getfield 87, 3) := by decide +kernel
theorem dX10_puts_23 : decode cX10_puts 23 = .ok (.iastore, 1) := by decide +kernel
theorem dX10_puts_24 : decode cX10_puts 24 = .ok (.aload_n 0, 1) := by decide +kernel
theorem dX10_puts_25 : decode cX10_puts 25 = .ok (.getfield 7, 3) := by decide +kernel
theorem dX10_puts_28 : decode cX10_puts 28 = .ok (.iload_n 1, 1) := by decide +kernel
theorem dX10_puts_29 : decode cX10_puts 29 = .ok (.iconst 4, 1) := by decide +kernel
theorem dX10_puts_30 : decode cX10_puts 30 = .ok (.iadd, 1) := by decide +kernel
theorem dX10_puts_31 : decode cX10_puts 31 = .ok (.aload_n 0, 1) := by decide +kernel
theorem dX10_puts_32 : decode cX10_puts 32 = .ok (.getfield 81, 3) := by decide +kernel
theorem dX10_puts_35 : decode cX10_puts 35 = .ok (.iastore, 1) := by decide +kernel
theorem dX10_puts_36 : decode cX10_puts 36 = .ok (.aload_n 0, 1) := by decide +kernel
theorem dX10_puts_37 : decode cX10_puts 37 = .ok (.iconst 0, 1) := by decide +kernel
theorem dX10_puts_38 : decode cX10_puts 38 = .ok (.putfield 56, 3) := by decide +kernel
theorem dX10_puts_41 : decode cX10_puts 41 = .ok (.return_, 1) := by decide +kernel
theorem dX10_setChord_0 : decode cX10_setChord 0 = .ok (.aload_n 0, 1) := by decide +kernel
theorem dX10_setChord_1 : decode cX10_setChord 1 = .ok (.iconst 0, 1) := by decide +kernel
theorem dX10_setChord_2 : decode cX10_setChord 2 = .ok (.putfield 46, 3) := by decide +kernel
theorem dX10_setChord_5 : decode cX10_setChord 5 = .ok (.aload_n 0, 1) := by decide +kernel
theorem dX10_setChord_6 : decode cX10_setChord 6 = .ok (.iload_n 1, 1) := by decide +kernel
theorem dX10_setChord_7 : decode cX10_setChord 7 = .ok (.invokevirtual 127, 3) := by decide +kernel
theorem dX10_setChord_10 : decode cX10_setChord 10 = .ok (.ifCond .ne 9, 3) := by decide +kernel
theorem dX10_setChord_13 : decode cX10_setChord 13 = .ok (.aload_n 0, 1) := by decide +kernel
theorem dX10_setChord_14 : decode cX10_setChord 14 = .ok (.iconst 1, 1) := by decide +kernel
theorem dX10_setChord_15 : decode cX10_setChord 15 = .ok (.invokevirtual 101, 3) := by decide +kernel
theorem dX10_setChord_18 : decode cX10_setChord 18 = .ok (.ireturn, 1) := by decide +kernel
theorem dX10_setChord_19 : decode cX10_setChord 19 = .ok (.aload_n 0, 1) := by decide +kernel
theorem dX10_setChord_20 : decode cX10_setChord 20 = .ok (.invokevirtual 146, 3) := by decide +kernel
theorem dX10_setChord_23 : decode cX10_setChord 23 = .ok (.ifCond .ne 10, 3) := by decide +kernel
theorem dX10_setChord_26 : decode cX10_setChord 26 = .ok (.iconst (-1), 1) := by decide +kernel
theorem dX10_setChord_27 : decode cX10_setChord 27 = .ok (.aload_n 0, 1) := by decide +kernel
theorem dX10_setChord_28 : decode cX10_setChord 28 = .ok (.getfield 59, 3) := by decide +kernel
theorem dX10_setChord_31 : decode cX10_setChord 31 = .ok (.isub, 1) := by decide +kernel
theorem dX10_setChord_32 : decode cX10_setChord 32 = .ok (.ireturn, 1) := by decide +kernel
theorem dX10_setChord_33 : decode cX10_setChord 33 = .ok (.aload_n 0, 1) := by decide +kernel
theorem dX10_setChord_34 : decode cX10_setChord 34 = .ok (.invokevirtual 107, 3) := by decide +kernel
theorem dX10_setChord_37 : decode cX10_setChord 37 = .ok (.aload_n 0, 1) := by decide +kernel
theorem dX10_setChord_38 : decode cX10_setChord 38 = .ok (.iload_n 1, 1) := by decide +kernel
theorem dX10_setChord_39 : decode cX10_setChord 39 = .ok (.invokestatic 94, 3) := by decide +kernel
theorem dX10_setChord_42 : decode cX10_setChord 42 = .ok (.invokevirtual 149, 3) := by decide +kernel
theorem dX10_setChord_45 : decode cX10_setChord 45 = .ok (.iconst 0, 1) := by decide +kernel
theorem dX10_setChord_46 : decode cX10_setChord 46 = .ok (.ireturn, 1) := by decide +kernel
theorem dX10_comesTo_0 : decode cX10_comesTo 0 = .ok (.iconst 0, 1) := by decide +kernel
theorem dX10_comesTo_1 : decode cX10_comesTo 1 = .ok (.istore_n 3, 1) := by decide +kernel
theorem dX10_comesTo_2 : decode cX10_comesTo 2 = .ok (.iconst 0, 1) := by decide +kernel
theorem dX10_comesTo_3 : decode cX10_comesTo 3 = .ok (.istore 4, 2) := by decide +kernel
theorem dX10_comesTo_5 : decode cX10_comesTo 5 = .ok (.iload 4, 2) := by decide +kernel
theorem dX10_comesTo_7 : decode cX10_comesTo 7 = .ok (.aload_n 0, 1) := by decide +kernel
theorem dX10_comesTo_8 : decode cX10_comesTo 8 = .ok (.getfield 7, 3) := by decide +kernel
theorem dX10_comesTo_11 : decode cX10_comesTo 11 = .ok (.iconst 1, 1) := by decide +kernel
theorem dX10_comesTo_12 : decode cX10_comesTo 12 = .ok (.iaload, 1) := by decide +kernel
theorem dX10_comesTo_13 : decode cX10_comesTo 13 = .ok (.if_icmp .ge 59, 3) := by decide +kernel
theorem dX10_comesTo_16 : decode cX10_comesTo 16 = .ok (.aload_n 0, 1) := by decide +kernel
theorem dX10_comesTo_17 : decode cX10_comesTo 17 = .ok (.getfield 7, 3) := by decide +kernel
theorem dX10_comesTo_20 : decode cX10_comesTo 20 = .ok (.iload 4, 2) := by decide +kernel
theorem dX10_comesTo_22 : decode cX10_comesTo 22 = .ok (.invokestatic 94, 3) := by decide +kernel
theorem dX10_comesTo_25 : decode cX10_comesTo 25 = .ok (.iconst 0, 1) := by decide +kernel
theorem dX10_comesTo_26 : decode cX10_comesTo 26 = .ok (.iadd, 1) := by decide +kernel
theorem dX10_comesTo_27 : decode cX10_comesTo 27 = .ok (.iaload, 1) := by decide +kernel
theorem dX10_comesTo_28 : decode cX10_comesTo 28 = .ok (.istore 5, 2) := by decide +kernel
theorem dX10_comesTo_30 : decode cX10_comesTo 30 = .ok (.iload_n 3, 1) := by decide +kernel
theorem dX10_comesTo_31 : decode cX10_comesTo 31 = .ok (.iload 5, 2) := by decide +kernel
theorem dX10_comesTo_33 : decode cX10_comesTo 33 = .ok (.iload_n 1, 1) := by decide +kernel
theorem dX10_comesTo_34 : decode cX10_comesTo 34 = .ok (.if_icmp .lt 25, 3) := by decide +kernel
theorem dX10_comesTo_37 : decode cX10_comesTo 37 = .ok (.iload 5, 2) := by decide +kernel
theorem dX10_comesTo_39 : decode cX10_comesTo 39 = .ok (.iload_n 1, 1) := by decide +kernel
theorem dX10_comesTo_40 : decode cX10_comesTo 40 = .ok (.if_icmp .ne 23, 3) := by decide +kernel
theorem dX10_comesTo_43 : decode cX10_comesTo 43 = .ok (.aload_n 0, 1) := by decide +kernel
theorem dX10_comesTo_44 : decode cX10_comesTo 44 = .ok (.getfield 7, 3) := by decide +kernel
theorem dX10_comesTo_47 : decode cX10_comesTo 47 = .ok (.iload 4, 2) := by decide +kernel
theorem dX10_comesTo_49 : decode cX10_comesTo 49 = .ok (.invokestatic 94, 3) := by decide +kernel
theorem dX10_comesTo_52 : decode cX10_comesTo 52 = .ok (.iconst 1, 1) := by decide +kernel
theorem dX10_comesTo_53 : decode cX10_comesTo 53 = .ok (.iadd, 1) := by decide +kernel
theorem dX10_comesTo_54 : decode cX10_comesTo 54 = .ok (.iaload, 1) := by decide +kernel
theorem dX10_comesTo_55 : decode cX10_comesTo 55 = .ok (.iload_n 2, 1) := by decide +kernel
theorem dX10_comesTo_56 : decode cX10_comesTo 56 = .ok (.if_icmp .gt 7, 3) := by decide +kernel
theorem dX10_comesTo_59 : decode cX10_comesTo 59 = .ok (.iconst 1, 1) := by decide +kernel
theorem dX10_comesTo_60 : decode cX10_comesTo 60 = .ok (.goto 4, 3) := by decide +kernel
theorem dX10_comesTo_63 : decode cX10_comesTo 63 = .ok (.iconst 0, 1) := by decide +kernel
theorem dX10_comesTo_64 : decode cX10_comesTo 64 = .ok (.iadd, 1) := by decide +kernel
theorem dX10_comesTo_65 : decode cX10_comesTo 65 = .ok (.istore_n 3, 1) := by decide +kernel
theorem dX10_comesTo_66 : decode cX10_comesTo 66 = .ok (.iinc 4 1, 3) := by decide +kernel
theorem dX10_comesTo_69 : decode cX10_comesTo 69 = .ok (.goto (-64), 3) := by decide +kernel
theorem dX10_comesTo_72 : decode cX10_comesTo 72 = .ok (.iload_n 3, 1) := by decide +kernel
theorem dX10_comesTo_73 : decode cX10_comesTo 73 = .ok (.ireturn, 1) := by decide +kernel
theorem dX10_opens_0 : decode cX10_opens 0 = .ok (.aload_n 0, 1) := by decide +kernel
theorem dX10_opens_1 : decode cX10_opens 1 = .ok (.getfield 7, 3) := by decide +kernel
theorem dX10_opens_4 : decode cX10_opens 4 = .ok (.iconst 1, 1) := by decide +kernel
theorem dX10_opens_5 : decode cX10_opens 5 = .ok (.iaload, 1) := by decide +kernel
theorem dX10_opens_6 : decode cX10_opens 6 = .ok (.invokestatic 94, 3) := by decide +kernel
theorem dX10_opens_9 : decode cX10_opens 9 = .ok (.iconst 5, 1) := by decide +kernel
theorem dX10_opens_10 : decode cX10_opens 10 = .ok (.iadd, 1) := by decide +kernel
theorem dX10_opens_11 : decode cX10_opens 11 = .ok (.iconst 1, 1) := by decide +kernel
theorem dX10_opens_12 : decode cX10_opens 12 = .ok (.isub, 1) := by decide +kernel
theorem dX10_opens_13 : decode cX10_opens 13 = .ok (.istore_n 2, 1) := by decide +kernel
theorem dX10_opens_14 : decode cX10_opens 14 = .ok (.iload_n 2, 1) := by decide +kernel
theorem dX10_opens_15 : decode cX10_opens 15 = .ok (.iload_n 1, 1) := by decide +kernel
theorem dX10_opens_16 : decode cX10_opens 16 = .ok (.invokestatic 94, 3) := by decide +kernel
theorem dX10_opens_19 : decode cX10_opens 19 = .ok (.iconst 5, 1) := by decide +kernel
theorem dX10_opens_20 : decode cX10_opens 20 = .ok (.iadd, 1) := by decide +kernel
theorem dX10_opens_21 : decode cX10_opens 21 = .ok (.if_icmp .lt 23, 3) := by decide +kernel
theorem dX10_opens_24 : decode cX10_opens 24 = .ok (.aload_n 0, 1) := by decide +kernel
theorem dX10_opens_25 : decode cX10_opens 25 = .ok (.getfield 7, 3) := by decide +kernel
theorem dX10_opens_28 : decode cX10_opens 28 = .ok (.iload_n 2, 1) := by decide +kernel
theorem dX10_opens_29 : decode cX10_opens 29 = .ok (.aload_n 0, 1) := by decide +kernel
theorem dX10_opens_30 : decode cX10_opens 30 = .ok (.getfield 7, 3) := by decide +kernel
theorem dX10_opens_33 : decode cX10_opens 33 = .ok (.iload_n 2, 1) := by decide +kernel
theorem dX10_opens_34 : decode cX10_opens 34 = .ok (.iconst 5, 1) := by decide +kernel
theorem dX10_opens_35 : decode cX10_opens 35 = .ok (.isub, 1) := by decide +kernel
theorem dX10_opens_36 : decode cX10_opens 36 = .ok (.iaload, 1) := by decide +kernel
theorem dX10_opens_37 : decode cX10_opens 37 = .ok (.iastore, 1) := by decide +kernel
theorem dX10_opens_38 : decode cX10_opens 38 = .ok (.iinc 2 (-1), 3) := by decide +kernel
theorem dX10_opens_41 : decode cX10_opens 41 = .ok (.goto (-27), 3) := by decide +kernel
theorem dX10_opens_44 : decode cX10_opens 44 = .ok (.aload_n 0, 1) := by decide +kernel
theorem dX10_opens_45 : decode cX10_opens 45 = .ok (.getfield 7, 3) := by decide +kernel
theorem dX10_opens_48 : decode cX10_opens 48 = .ok (.iconst 1, 1) := by decide +kernel
theorem dX10_opens_49 : decode cX10_opens 49 = .ok (.dup2, 1) := by decide +kernel
theorem dX10_opens_50 : decode cX10_opens 50 = .ok (.iaload, 1) := by decide +kernel
theorem dX10_opens_51 : decode cX10_opens 51 = .ok (.iconst 1, 1) := by decide +kernel
theorem dX10_opens_52 : decode cX10_opens 52 = .ok (.iadd, 1) := by decide +kernel
theorem dX10_opens_53 : decode cX10_opens 53 = .ok (.iastore, 1) := by decide +kernel
theorem dX10_opens_54 : decode cX10_opens 54 = .ok (.return_, 1) := by decide +kernel
theorem dX10_closes_0 : decode cX10_closes 0 = .ok (.aload_n 0, 1) := by decide +kernel
theorem dX10_closes_1 : decode cX10_closes 1 = .ok (.getfield 7, 3) := by decide +kernel
theorem dX10_closes_4 : decode cX10_closes 4 = .ok (.iconst 1, 1) := by decide +kernel
theorem dX10_closes_5 : decode cX10_closes 5 = .ok (.dup2, 1) := by decide +kernel
theorem dX10_closes_6 : decode cX10_closes 6 = .ok (.iaload, 1) := by decide +kernel
theorem dX10_closes_7 : decode cX10_closes 7 = .ok (.iconst 1, 1) := by decide +kernel
theorem dX10_closes_8 : decode cX10_closes 8 = .ok (.isub, 1) := by decide +kernel
theorem dX10_closes_9 : decode cX10_closes 9 = .ok (.iastore, 1) := by decide +kernel
theorem dX10_closes_10 : decode cX10_closes 10 = .ok (.iload_n 1, 1) := by decide +kernel
theorem dX10_closes_11 : decode cX10_closes 11 = .ok (.invokestatic 94, 3) := by decide +kernel
theorem dX10_closes_14 : decode cX10_closes 14 = .ok (.istore_n 2, 1) := by decide +kernel
theorem dX10_closes_15 : decode cX10_closes 15 = .ok (.iload_n 2, 1) := by decide +kernel
theorem dX10_closes_16 : decode cX10_closes 16 = .ok (.aload_n 0, 1) := by decide +kernel
theorem dX10_closes_17 : decode cX10_closes 17 = .ok (.getfield 7, 3) := by decide +kernel
theorem dX10_closes_20 : decode cX10_closes 20 = .ok (.iconst 1, 1) := by decide +kernel
theorem dX10_closes_21 : decode cX10_closes 21 = .ok (.iaload, 1) := by decide +kernel
theorem dX10_closes_22 : decode cX10_closes 22 = .ok (.invokestatic 94, 3) := by decide +kernel
theorem dX10_closes_25 : decode cX10_closes 25 = .ok (.if_icmp .ge 23, 3) := by decide +kernel
theorem dX10_closes_28 : decode cX10_closes 28 = .ok (.aload_n 0, 1) := by decide +kernel
theorem dX10_closes_29 : decode cX10_closes 29 = .ok (.getfield 7, 3) := by decide +kernel
theorem dX10_closes_32 : decode cX10_closes 32 = .ok (.iload_n 2, 1) := by decide +kernel
theorem dX10_closes_33 : decode cX10_closes 33 = .ok (.aload_n 0, 1) := by decide +kernel
theorem dX10_closes_34 : decode cX10_closes 34 = .ok (.getfield 7, 3) := by decide +kernel
theorem dX10_closes_37 : decode cX10_closes 37 = .ok (.iload_n 2, 1) := by decide +kernel
theorem dX10_closes_38 : decode cX10_closes 38 = .ok (.iconst 5, 1) := by decide +kernel
theorem dX10_closes_39 : decode cX10_closes 39 = .ok (.iadd, 1) := by decide +kernel
theorem dX10_closes_40 : decode cX10_closes 40 = .ok (.iaload, 1) := by decide +kernel
theorem dX10_closes_41 : decode cX10_closes 41 = .ok (.iastore, 1) := by decide +kernel
theorem dX10_closes_42 : decode cX10_closes 42 = .ok (.iinc 2 1, 3) := by decide +kernel
theorem dX10_closes_45 : decode cX10_closes 45 = .ok (.goto (-30), 3) := by decide +kernel
theorem dX10_closes_48 : decode cX10_closes 48 = .ok (.iconst 0, 1) := by decide +kernel
theorem dX10_closes_49 : decode cX10_closes 49 = .ok (.istore_n 2, 1) := by decide +kernel
theorem dX10_closes_50 : decode cX10_closes 50 = .ok (.iload_n 2, 1) := by decide +kernel
theorem dX10_closes_51 : decode cX10_closes 51 = .ok (.iconst 5, 1) := by decide +kernel
theorem dX10_closes_52 : decode cX10_closes 52 = .ok (.if_icmp .ge 26, 3) := by decide +kernel
theorem dX10_closes_55 : decode cX10_closes 55 = .ok (.aload_n 0, 1) := by decide +kernel
theorem dX10_closes_56 : decode cX10_closes 56 = .ok (.getfield 7, 3) := by decide +kernel
theorem dX10_closes_59 : decode cX10_closes 59 = .ok (.aload_n 0, 1) := by decide +kernel
theorem dX10_closes_60 : decode cX10_closes 60 = .ok (.getfield 7, 3) := by decide +kernel
theorem dX10_closes_63 : decode cX10_closes 63 = .ok (.iconst 1, 1) := by decide +kernel
theorem dX10_closes_64 : decode cX10_closes 64 = .ok (.iaload, 1) := by decide +kernel
theorem dX10_closes_65 : decode cX10_closes 65 = .ok (.invokestatic 94, 3) := by decide +kernel
theorem dX10_closes_68 : decode cX10_closes 68 = .ok (.iload_n 2, 1) := by decide +kernel
theorem dX10_closes_69 : decode cX10_closes 69 = .ok (.iadd, 1) := by decide +kernel
theorem dX10_closes_70 : decode cX10_closes 70 = .ok (.iconst 0, 1) := by decide +kernel
theorem dX10_closes_71 : decode cX10_closes 71 = .ok (.iastore, 1) := by decide +kernel
theorem dX10_closes_72 : decode cX10_closes 72 = .ok (.iinc 2 1, 3) := by decide +kernel
theorem dX10_closes_75 : decode cX10_closes 75 = .ok (.goto (-25), 3) := by decide +kernel
theorem dX10_closes_78 : decode cX10_closes 78 = .ok (.return_, 1) := by decide +kernel
theorem dX10_addChord_0 : decode cX10_addChord 0 = .ok (.aload_n 0, 1) := by decide +kernel
theorem dX10_addChord_1 : decode cX10_addChord 1 = .ok (.iconst 0, 1) := by decide +kernel
theorem dX10_addChord_2 : decode cX10_addChord 2 = .ok (.putfield 46, 3) := by decide +kernel
theorem dX10_addChord_5 : decode cX10_addChord 5 = .ok (.aload_n 0, 1) := by decide +kernel
theorem dX10_addChord_6 : decode cX10_addChord 6 = .ok (.iload_n 1, 1) := by decide +kernel
theorem dX10_addChord_7 : decode cX10_addChord 7 = .ok (.invokevirtual 117, 3) := by decide +kernel
theorem dX10_addChord_10 : decode cX10_addChord 10 = .ok (.ifCond .eq 16, 3) := by decide +kernel
theorem dX10_addChord_13 : decode cX10_addChord 13 = .ok (.iload_n 2, 1) := by decide +kernel
theorem dX10_addChord_14 : decode cX10_addChord 14 = .ok (.iconst 0, 1) := by decide +kernel
theorem dX10_addChord_15 : decode cX10_addChord 15 = .ok (.aload_n 0, 1) := by decide +kernel
theorem dX10_addChord_16 : decode cX10_addChord 16 = .ok (.iload_n 1, 1) := by decide +kernel
theorem dX10_addChord_17 : decode cX10_addChord 17 = .ok (.invokevirtual 120, 3) := by decide +kernel
theorem dX10_addChord_20 : decode cX10_addChord 20 = .ok (.invokestatic 97, 3) := by decide +kernel
theorem dX10_addChord_23 : decode cX10_addChord 23 = .ok (.ifCond .ne 9, 3) := by decide +kernel
theorem dX10_addChord_26 : decode cX10_addChord 26 = .ok (.aload_n 0, 1) := by decide +kernel
theorem dX10_addChord_27 : decode cX10_addChord 27 = .ok (.iconst 1, 1) := by decide +kernel
theorem dX10_addChord_28 : decode cX10_addChord 28 = .ok (.invokevirtual 101, 3) := by decide +kernel
theorem dX10_addChord_31 : decode cX10_addChord 31 = .ok (.ireturn, 1) := by decide +kernel
theorem dX10_addChord_32 : decode cX10_addChord 32 = .ok (.aload_n 0, 1) := by decide +kernel
theorem dX10_addChord_33 : decode cX10_addChord 33 = .ok (.getfield 7, 3) := by decide +kernel
theorem dX10_addChord_36 : decode cX10_addChord 36 = .ok (.iconst 1, 1) := by decide +kernel
theorem dX10_addChord_37 : decode cX10_addChord 37 = .ok (.iaload, 1) := by decide +kernel
theorem dX10_addChord_38 : decode cX10_addChord 38 = .ok (.bipush 40, 2) := by decide +kernel
theorem dX10_addChord_40 : decode cX10_addChord 40 = .ok (.if_icmp .ne 9, 3) := by decide +kernel
theorem dX10_addChord_43 : decode cX10_addChord 43 = .ok (.aload_n 0, 1) := by decide +kernel
theorem dX10_addChord_44 : decode cX10_addChord 44 = .ok (.iconst 2, 1) := by decide +kernel
theorem dX10_addChord_45 : decode cX10_addChord 45 = .ok (.invokevirtual 101, 3) := by decide +kernel
theorem dX10_addChord_48 : decode cX10_addChord 48 = .ok (.ireturn, 1) := by decide +kernel
theorem dX10_addChord_49 : decode cX10_addChord 49 = .ok (.aload_n 0, 1) := by decide +kernel
theorem dX10_addChord_50 : decode cX10_addChord 50 = .ok (.invokevirtual 146, 3) := by decide +kernel
theorem dX10_addChord_53 : decode cX10_addChord 53 = .ok (.ifCond .ne 10, 3) := by decide +kernel
theorem dX10_addChord_56 : decode cX10_addChord 56 = .ok (.iconst (-1), 1) := by decide +kernel
theorem dX10_addChord_57 : decode cX10_addChord 57 = .ok (.aload_n 0, 1) := by decide +kernel
theorem dX10_addChord_58 : decode cX10_addChord 58 = .ok (.getfield 59, 3) := by decide +kernel
theorem dX10_addChord_61 : decode cX10_addChord 61 = .ok (.isub, 1) := by decide +kernel
theorem dX10_addChord_62 : decode cX10_addChord 62 = .ok (.ireturn, 1) := by decide +kernel
theorem dX10_addChord_63 : decode cX10_addChord 63 = .ok (.aload_n 0, 1) := by decide +kernel
theorem dX10_addChord_64 : decode cX10_addChord 64 = .ok (.invokevirtual 107, 3) := by decide +kernel
theorem dX10_addChord_67 : decode cX10_addChord 67 = .ok (.aload_n 0, 1) := by decide +kernel
theorem dX10_addChord_68 : decode cX10_addChord 68 = .ok (.iload_n 1, 1) := by decide +kernel
theorem dX10_addChord_69 : decode cX10_addChord 69 = .ok (.iload_n 2, 1) := by decide +kernel
theorem dX10_addChord_70 : decode cX10_addChord 70 = .ok (.invokevirtual 152, 3) := by decide +kernel
theorem dX10_addChord_73 : decode cX10_addChord 73 = .ok (.istore_n 3, 1) := by decide +kernel
theorem dX10_addChord_74 : decode cX10_addChord 74 = .ok (.aload_n 0, 1) := by decide +kernel
theorem dX10_addChord_75 : decode cX10_addChord 75 = .ok (.iload_n 3, 1) := by decide +kernel
theorem dX10_addChord_76 : decode cX10_addChord 76 = .ok (.invokevirtual 155, 3) := by decide +kernel
theorem dX10_addChord_79 : decode cX10_addChord 79 = .ok (.aload_n 0, 1) := by decide +kernel
theorem dX10_addChord_80 : decode cX10_addChord 80 = .ok (.getfield 7, 3) := by decide +kernel
theorem dX10_addChord_83 : decode cX10_addChord 83 = .ok (.iload_n 3, 1) := by decide +kernel
theorem dX10_addChord_84 : decode cX10_addChord 84 = .ok (.invokestatic 94, 3) := by decide +kernel
theorem dX10_addChord_87 : decode cX10_addChord 87 = .ok (.iconst 0, 1) := by decide +kernel
theorem dX10_addChord_88 : decode cX10_addChord 88 = .ok (.iadd, 1) := by decide +kernel
theorem dX10_addChord_89 : decode cX10_addChord 89 = .ok (.iload_n 1, 1) := by decide +kernel
theorem dX10_addChord_90 : decode cX10_addChord 90 = .ok (.iastore, 1) := by decide +kernel
theorem dX10_addChord_91 : decode cX10_addChord 91 = .ok (.aload_n 0, 1) := by decide +kernel
theorem dX10_addChord_92 : decode cX10_addChord 92 = .ok (.getfield 7, 3) := by decide +kernel
theorem dX10_addChord_95 : decode cX10_addChord 95 = .ok (.iload_n 3, 1) := by decide +kernel
theorem dX10_addChord_96 : decode cX10_addChord 96 = .ok (.invokestatic 94, 3) := by decide +kernel
theorem dX10_addChord_99 : decode cX10_addChord 99 = .ok (.iconst 1, 1) := by decide +kernel
theorem dX10_addChord_100 : decode cX10_addChord 100 = .ok (.iadd, 1) := by decide +kernel
theorem dX10_addChord_101 : decode cX10_addChord 101 = .ok (.iload_n 2, 1) := by decide +kernel
theorem dX10_addChord_102 : decode cX10_addChord 102 = .ok (.iastore, 1) := by decide +kernel
theorem dX10_addChord_103 : decode cX10_addChord 103 = .ok (.aload_n 0, 1) := by decide +kernel
theorem dX10_addChord_104 : decode cX10_addChord 104 = .ok (.iload_n 3, 1) := by decide +kernel
theorem dX10_addChord_105 : decode cX10_addChord 105 = .ok (.invokestatic 94, 3) := by decide +kernel
theorem dX10_addChord_108 : decode cX10_addChord 108 = .ok (.invokevirtual 149, 3) := by decide +kernel
theorem dX10_addChord_111 : decode cX10_addChord 111 = .ok (.iload_n 3, 1) := by decide +kernel
theorem dX10_addChord_112 : decode cX10_addChord 112 = .ok (.ireturn, 1) := by decide +kernel
theorem dX10_removeChord_0 : decode cX10_removeChord 0 = .ok (.aload_n 0, 1) := by decide +kernel
theorem dX10_removeChord_1 : decode cX10_removeChord 1 = .ok (.iconst 0, 1) := by decide +kernel
theorem dX10_removeChord_2 : decode cX10_removeChord 2 = .ok (.putfield 46, 3) := by decide +kernel
theorem dX10_removeChord_5 : decode cX10_removeChord 5 = .ok (.aload_n 0, 1) := by decide +kernel
theorem dX10_removeChord_6 : decode cX10_removeChord 6 = .ok (.iload_n 1, 1) := by decide +kernel
theorem dX10_removeChord_7 : decode cX10_removeChord 7 = .ok (.invokevirtual 127, 3) := by decide +kernel
theorem dX10_removeChord_10 : decode cX10_removeChord 10 = .ok (.ifCond .ne 9, 3) := by decide +kernel
theorem dX10_removeChord_13 : decode cX10_removeChord 13 = .ok (.aload_n 0, 1) := by decide +kernel
theorem dX10_removeChord_14 : decode cX10_removeChord 14 = .ok (.iconst 1, 1) := by decide +kernel
theorem dX10_removeChord_15 : decode cX10_removeChord 15 = .ok (.invokevirtual 101, 3) := by decide +kernel
theorem dX10_removeChord_18 : decode cX10_removeChord 18 = .ok (.ireturn, 1) := by decide +kernel
theorem dX10_removeChord_19 : decode cX10_removeChord 19 = .ok (.aload_n 0, 1) := by decide +kernel
theorem dX10_removeChord_20 : decode cX10_removeChord 20 = .ok (.invokevirtual 107, 3) := by decide +kernel
theorem dX10_removeChord_23 : decode cX10_removeChord 23 = .ok (.aload_n 0, 1) := by decide +kernel
theorem dX10_removeChord_24 : decode cX10_removeChord 24 = .ok (.iload_n 1, 1) := by decide +kernel
theorem dX10_removeChord_25 : decode cX10_removeChord 25 = .ok (.invokevirtual 158, 3) := by decide +kernel
theorem dX10_removeChord_28 : decode cX10_removeChord 28 = .ok (.aload_n 0, 1) := by decide +kernel
theorem dX10_removeChord_29 : decode cX10_removeChord 29 = .ok (.getfield 7, 3) := by decide +kernel
theorem dX10_removeChord_32 : decode cX10_removeChord 32 = .ok (.iconst 1, 1) := by decide +kernel
theorem dX10_removeChord_33 : decode cX10_removeChord 33 = .ok (.iaload, 1) := by decide +kernel
theorem dX10_removeChord_34 : decode cX10_removeChord 34 = .ok (.ireturn, 1) := by decide +kernel
theorem dX10_moveChord_0 : decode cX10_moveChord 0 = .ok (.aload_n 0, 1) := by decide +kernel
theorem dX10_moveChord_1 : decode cX10_moveChord 1 = .ok (.iconst 0, 1) := by decide +kernel
theorem dX10_moveChord_2 : decode cX10_moveChord 2 = .ok (.putfield 46, 3) := by decide +kernel
theorem dX10_moveChord_5 : decode cX10_moveChord 5 = .ok (.aload_n 0, 1) := by decide +kernel
theorem dX10_moveChord_6 : decode cX10_moveChord 6 = .ok (.iload_n 1, 1) := by decide +kernel
theorem dX10_moveChord_7 : decode cX10_moveChord 7 = .ok (.invokevirtual 127, 3) := by decide +kernel
theorem dX10_moveChord_10 : decode cX10_moveChord 10 = .ok (.ifCond .eq 24, 3) := by decide +kernel
theorem dX10_moveChord_13 : decode cX10_moveChord 13 = .ok (.iload_n 2, 1) := by decide +kernel
theorem dX10_moveChord_14 : decode cX10_moveChord 14 = .ok (.iconst 0, 1) := by decide +kernel
theorem dX10_moveChord_15 : decode cX10_moveChord 15 = .ok (.aload_n 0, 1) := by decide +kernel
theorem dX10_moveChord_16 : decode cX10_moveChord 16 = .ok (.aload_n 0, 1) := by decide +kernel
theorem dX10_moveChord_17 : decode cX10_moveChord 17 = .ok (.getfield 7, 3) := by decide +kernel
theorem dX10_moveChord_20 : decode cX10_moveChord 20 = .ok (.iload_n 1, 1) := by decide +kernel
theorem dX10_moveChord_21 : decode cX10_moveChord 21 = .ok (.invokestatic 94, 3) := by decide +kernel
theorem dX10_moveChord_24 : decode cX10_moveChord 24 = .ok (.iaload, 1) := by decide +kernel
theorem dX10_moveChord_25 : decode cX10_moveChord 25 = .ok (.invokevirtual 120, 3) := by decide +kernel
theorem dX10_moveChord_28 : decode cX10_moveChord 28 = .ok (.invokestatic 97, 3) := by decide +kernel
theorem dX10_moveChord_31 : decode cX10_moveChord 31 = .ok (.ifCond .ne 9, 3) := by decide +kernel
theorem dX10_moveChord_34 : decode cX10_moveChord 34 = .ok (.aload_n 0, 1) := by decide +kernel
theorem dX10_moveChord_35 : decode cX10_moveChord 35 = .ok (.iconst 1, 1) := by decide +kernel
theorem dX10_moveChord_36 : decode cX10_moveChord 36 = .ok (.invokevirtual 101, 3) := by decide +kernel
theorem dX10_moveChord_39 : decode cX10_moveChord 39 = .ok (.ireturn, 1) := by decide +kernel
theorem dX10_moveChord_40 : decode cX10_moveChord 40 = .ok (.aload_n 0, 1) := by decide +kernel
theorem dX10_moveChord_41 : decode cX10_moveChord 41 = .ok (.invokevirtual 107, 3) := by decide +kernel
theorem dX10_moveChord_44 : decode cX10_moveChord 44 = .ok (.aload_n 0, 1) := by decide +kernel
theorem dX10_moveChord_45 : decode cX10_moveChord 45 = .ok (.getfield 7, 3) := by decide +kernel
theorem dX10_moveChord_48 : decode cX10_moveChord 48 = .ok (.iload_n 1, 1) := by decide +kernel
theorem dX10_moveChord_49 : decode cX10_moveChord 49 = .ok (.invokestatic 94, 3) := by decide +kernel
theorem dX10_moveChord_52 : decode cX10_moveChord 52 = .ok (.iconst 0, 1) := by decide +kernel
theorem dX10_moveChord_53 : decode cX10_moveChord 53 = .ok (.iadd, 1) := by decide +kernel
theorem dX10_moveChord_54 : decode cX10_moveChord 54 = .ok (.iaload, 1) := by decide +kernel
theorem dX10_moveChord_55 : decode cX10_moveChord 55 = .ok (.istore_n 3, 1) := by decide +kernel
theorem dX10_moveChord_56 : decode cX10_moveChord 56 = .ok (.aload_n 0, 1) := by decide +kernel
theorem dX10_moveChord_57 : decode cX10_moveChord 57 = .ok (.getfield 7, 3) := by decide +kernel
theorem dX10_moveChord_60 : decode cX10_moveChord 60 = .ok (.iload_n 1, 1) := by decide +kernel
theorem dX10_moveChord_61 : decode cX10_moveChord 61 = .ok (.invokestatic 94, 3) := by decide +kernel
theorem dX10_moveChord_64 : decode cX10_moveChord 64 = .ok (.iconst 2, 1) := by decide +kernel
theorem dX10_moveChord_65 : decode cX10_moveChord 65 = .ok (.iadd, 1) := by decide +kernel
theorem dX10_moveChord_66 : decode cX10_moveChord 66 = .ok (.iaload, 1) := by decide +kernel
theorem dX10_moveChord_67 : decode cX10_moveChord 67 = .ok (.istore 4, 2) := by decide +kernel
theorem dX10_moveChord_69 : decode cX10_moveChord 69 = .ok (.aload_n 0, 1) := by decide +kernel
theorem dX10_moveChord_70 : decode cX10_moveChord 70 = .ok (.getfield 7, 3) := by decide +kernel
theorem dX10_moveChord_73 : decode cX10_moveChord 73 = .ok (.iload_n 1, 1) := by decide +kernel
theorem dX10_moveChord_74 : decode cX10_moveChord 74 = .ok (.invokestatic 94, 3) := by decide +kernel
