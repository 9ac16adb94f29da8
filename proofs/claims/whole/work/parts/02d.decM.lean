theorem dX12_in_0 : decode cX12_in 0 = .ok (.lload_n 0, 1) := by decide +kernel
theorem dX12_in_1 : decode cX12_in 1 = .ok (.lload_n 2, 1) := by decide +kernel
theorem dX12_in_2 : decode cX12_in 2 = .ok (.lcmp, 1) := by decide +kernel
theorem dX12_in_3 : decode cX12_in 3 = .ok (.ifCond .lt 14, 3) := by decide +kernel
theorem dX12_in_6 : decode cX12_in 6 = .ok (.lload_n 0, 1) := by decide +kernel
theorem dX12_in_7 : decode cX12_in 7 = .ok (.lload 4, 2) := by decide +kernel
theorem dX12_in_9 : decode cX12_in 9 = .ok (.lcmp, 1) := by decide +kernel
theorem dX12_in_10 : decode cX12_in 10 = .ok (.ifCond .gt 7, 3) := by decide +kernel
theorem dX12_in_13 : decode cX12_in 13 = .ok (.iconst 1, 1) := by decide +kernel
theorem dX12_in_14 : decode cX12_in 14 = .ok (.goto 4, 3) := by decide +kernel
theorem dX12_in_17 : decode cX12_in 17 = .ok (.iconst 0, 1) := by decide +kernel
theorem dX12_in_18 : decode cX12_in 18 = .ok (.ireturn, 1) := by decide +kernel
theorem dX12_within_0 : decode cX12_within 0 = .ok (.iload_n 0, 1) := by decide +kernel
theorem dX12_within_1 : decode cX12_within 1 = .ok (.iload_n 1, 1) := by decide +kernel
theorem dX12_within_2 : decode cX12_within 2 = .ok (.if_icmp .ge 7, 3) := by decide +kernel
theorem dX12_within_5 : decode cX12_within 5 = .ok (.iload_n 1, 1) := by decide +kernel
theorem dX12_within_6 : decode cX12_within 6 = .ok (.goto 13, 3) := by decide +kernel
theorem dX12_within_9 : decode cX12_within 9 = .ok (.iload_n 0, 1) := by decide +kernel
theorem dX12_within_10 : decode cX12_within 10 = .ok (.iload_n 2, 1) := by decide +kernel
theorem dX12_within_11 : decode cX12_within 11 = .ok (.if_icmp .le 7, 3) := by decide +kernel
theorem dX12_within_14 : decode cX12_within 14 = .ok (.iload_n 2, 1) := by decide +kernel
theorem dX12_within_15 : decode cX12_within 15 = .ok (.goto 4, 3) := by decide +kernel
theorem dX12_within_18 : decode cX12_within 18 = .ok (.iload_n 0, 1) := by decide +kernel
theorem dX12_within_19 : decode cX12_within 19 = .ok (.ireturn, 1) := by decide +kernel
theorem dX12_init_0 : decode cX12_init 0 = .ok (.aload_n 0, 1) := by decide +kernel
theorem dX12_init_1 : decode cX12_init 1 = .ok (.invokespecial 7, 3) := by decide +kernel
theorem dX12_init_4 : decode cX12_init 4 = .ok (.aload_n 0, 1) := by decide +kernel
theorem dX12_init_5 : decode cX12_init 5 = .ok (.sipush 960, 3) := by decide +kernel
theorem dX12_init_8 : decode cX12_init 8 = .ok (.newarray .int, 2) := by decide +kernel
theorem dX12_init_10 : decode cX12_init 10 = .ok (.putfield 13, 3) := by decide +kernel
theorem dX12_init_13 : decode cX12_init 13 = .ok (.aload_n 0, 1) := by decide +kernel
theorem dX12_init_14 : decode cX12_init 14 = .ok (.bipush 6, 2) := by decide +kernel
theorem dX12_init_16 : decode cX12_init 16 = .ok (.newarray .int, 2) := by decide +kernel
theorem dX12_init_18 : decode cX12_init 18 = .ok (.putfield 17, 3) := by decide +kernel
theorem dX12_init_21 : decode cX12_init 21 = .ok (.aload_n 0, 1) := by decide +kernel
theorem dX12_init_22 : decode cX12_init 22 = .ok (.sipush 160, 3) := by decide +kernel
theorem dX12_init_25 : decode cX12_init 25 = .ok (.newarray .int, 2) := by decide +kernel
theorem dX12_init_27 : decode cX12_init 27 = .ok (.putfield 20, 3) := by decide +kernel
theorem dX12_init_30 : decode cX12_init 30 = .ok (.aload_n 0, 1) := by decide +kernel
theorem dX12_init_31 : decode cX12_init 31 = .ok (.bipush 36, 2) := by decide +kernel
theorem dX12_init_33 : decode cX12_init 33 = .ok (.newarray .int, 2) := by decide +kernel
theorem dX12_init_35 : decode cX12_init 35 = .ok (.putfield 23, 3) := by decide +kernel
theorem dX12_init_38 : decode cX12_init 38 = .ok (.aload_n 0, 1) := by decide +kernel
theorem dX12_init_39 : decode cX12_init 39 = .ok (.bipush 6, 2) := by decide +kernel
theorem dX12_init_41 : decode cX12_init 41 = .ok (.newarray .int, 2) := by decide +kernel
theorem dX12_init_43 : decode cX12_init 43 = .ok (.putfield 26, 3) := by decide +kernel
theorem dX12_init_46 : decode cX12_init 46 = .ok (.aload_n 0, 1) := by decide +kernel
theorem dX12_init_47 : decode cX12_init 47 = .ok (.bipush 6, 2) := by decide +kernel
theorem dX12_init_49 : decode cX12_init 49 = .ok (.newarray .int, 2) := by decide +kernel
theorem dX12_init_51 : decode cX12_init 51 = .ok (.putfield 29, 3) := by decide +kernel
theorem dX12_init_54 : decode cX12_init 54 = .ok (.aload_n 0, 1) := by decide +kernel
theorem dX12_init_55 : decode cX12_init 55 = .ok (.bipush 6, 2) := by decide +kernel
theorem dX12_init_57 : decode cX12_init 57 = .ok (.newarray .int, 2) := by decide +kernel
theorem dX12_init_59 : decode cX12_init 59 = .ok (.putfield 32, 3) := by decide +kernel
theorem dX12_init_62 : decode cX12_init 62 = .ok (.aload_n 0, 1) := by decide +kernel
theorem dX12_init_63 : decode cX12_init 63 = .ok (.bipush 6, 2) := by decide +kernel
theorem dX12_init_65 : decode cX12_init 65 = .ok (.newarray .int, 2) := by decide +kernel
theorem dX12_init_67 : decode cX12_init 67 = .ok (.putfield 35, 3) := by decide +kernel
theorem dX12_init_70 : decode cX12_init 70 = .ok (.aload_n 0, 1) := by decide +kernel
theorem dX12_init_71 : decode cX12_init 71 = .ok (.iconst 5, 1) := by decide +kernel
theorem dX12_init_72 : decode cX12_init 72 = .ok (.newarray .int, 2) := by decide +kernel
theorem dX12_init_74 : decode cX12_init 74 = .ok (.putfield 38, 3) := by decide +kernel
theorem dX12_init_77 : decode cX12_init 77 = .ok (.aload_n 0, 1) := by decide +kernel
theorem dX12_init_78 : decode cX12_init 78 = .ok (.iconst 5, 1) := by decide +kernel
theorem dX12_init_79 : decode cX12_init 79 = .ok (.newarray .int, 2) := by decide +kernel
theorem dX12_init_81 : decode cX12_init 81 = .ok (.putfield 41, 3) := by decide +kernel
theorem dX12_init_84 : decode cX12_init 84 = .ok (.aload_n 0, 1) := by decide +kernel
theorem dX12_init_85 : decode cX12_init 85 = .ok (.iconst 5, 1) := by decide +kernel
theorem dX12_init_86 : decode cX12_init 86 = .ok (.newarray .int, 2) := by decide +kernel
theorem dX12_init_88 : decode cX12_init 88 = .ok (.putfield 44, 3) := by decide +kernel
theorem dX12_init_91 : decode cX12_init 91 = .ok (.aload_n 0, 1) := by decide +kernel
theorem dX12_init_92 : decode cX12_init 92 = .ok (.iconst 5, 1) := by decide +kernel
theorem dX12_init_93 : decode cX12_init 93 = .ok (.newarray .int, 2) := by decide +kernel
theorem dX12_init_95 : decode cX12_init 95 = .ok (.putfield 47, 3) := by decide +kernel
theorem dX12_init_98 : decode cX12_init 98 = .ok (.aload_n 0, 1) := by decide +kernel
theorem dX12_init_99 : decode cX12_init 99 = .ok (.sipush 1024, 3) := by decide +kernel
theorem dX12_init_102 : decode cX12_init 102 = .ok (.newarray .long, 2) := by decide +kernel
theorem dX12_init_104 : decode cX12_init 104 = .ok (.putfield 50, 3) := by decide +kernel
theorem dX12_init_107 : decode cX12_init 107 = .ok (.aload_n 0, 1) := by decide +kernel
theorem dX12_init_108 : decode cX12_init 108 = .ok (.sipush 1024, 3) := by decide +kernel
theorem dX12_init_111 : decode cX12_init 111 = .ok (.newarray .int, 2) := by decide +kernel
theorem dX12_init_113 : decode cX12_init 113 = .ok (.putfield 54, 3) := by decide +kernel
theorem dX12_init_116 : decode cX12_init 116 = .ok (.aload_n 0, 1) := by decide +kernel
theorem dX12_init_117 : decode cX12_init 117 = .ok (.bipush 30, 2) := by decide +kernel
theorem dX12_init_119 : decode cX12_init 119 = .ok (.newarray .int, 2) := by decide +kernel
theorem dX12_init_121 : decode cX12_init 121 = .ok (.putfield 57, 3) := by decide +kernel
theorem dX12_init_124 : decode cX12_init 124 = .ok (.aload_n 0, 1) := by decide +kernel
theorem dX12_init_125 : decode cX12_init 125 = .ok (.bipush 30, 2) := by decide +kernel
theorem dX12_init_127 : decode cX12_init 127 = .ok (.newarray .int, 2) := by decide +kernel
theorem dX12_init_129 : decode cX12_init 129 = .ok (.putfield 60, 3) := by decide +kernel
theorem dX12_init_132 : decode cX12_init 132 = .ok (.aload_n 0, 1) := by decide +kernel
theorem dX12_init_133 : decode cX12_init 133 = .ok (.iconst 5, 1) := by decide +kernel
theorem dX12_init_134 : decode cX12_init 134 = .ok (.newarray .int, 2) := by decide +kernel
theorem dX12_init_136 : decode cX12_init 136 = .ok (.putfield 63, 3) := by decide +kernel
theorem dX12_init_139 : decode cX12_init 139 = .ok (.aload_n 0, 1) := by decide +kernel
theorem dX12_init_140 : decode cX12_init 140 = .ok (.iconst 5, 1) := by decide +kernel
theorem dX12_init_141 : decode cX12_init 141 = .ok (.newarray .int, 2) := by decide +kernel
theorem dX12_init_143 : decode cX12_init 143 = .ok (.putfield 66, 3) := by decide +kernel
theorem dX12_init_146 : decode cX12_init 146 = .ok (.aload_n 0, 1) := by decide +kernel
theorem dX12_init_147 : decode cX12_init 147 = .ok (.iconst 5, 1) := by decide +kernel
theorem dX12_init_148 : decode cX12_init 148 = .ok (.newarray .int, 2) := by decide +kernel
theorem dX12_init_150 : decode cX12_init 150 = .ok (.putfield 69, 3) := by decide +kernel
theorem dX12_init_153 : decode cX12_init 153 = .ok (.aload_n 0, 1) := by decide +kernel
theorem dX12_init_154 : decode cX12_init 154 = .ok (.iconst 5, 1) := by decide +kernel
theorem dX12_init_155 : decode cX12_init 155 = .ok (.newarray .int, 2) := by decide +kernel
theorem dX12_init_157 : decode cX12_init 157 = .ok (.putfield 72, 3) := by decide +kernel
theorem dX12_init_160 : decode cX12_init 160 = .ok (.aload_n 0, 1) := by decide +kernel
theorem dX12_init_161 : decode cX12_init 161 = .ok (.bipush 36, 2) := by decide +kernel
theorem dX12_init_163 : decode cX12_init 163 = .ok (.newarray .int, 2) := by decide +kernel
theorem dX12_init_165 : decode cX12_init 165 = .ok (.putfield 75, 3) := by decide +kernel
theorem dX12_init_168 : decode cX12_init 168 = .ok (.aload_n 0, 1) := by decide +kernel
theorem dX12_init_169 : decode cX12_init 169 = .ok (.bipush 18, 2) := by decide +kernel
theorem dX12_init_171 : decode cX12_init 171 = .ok (.newarray .int, 2) := by decide +kernel
theorem dX12_init_173 : decode cX12_init 173 = .ok (.putfield 78, 3) := by decide +kernel
theorem dX12_init_176 : decode cX12_init 176 = .ok (.aload_n 0, 1) := by decide +kernel
theorem dX12_init_177 : decode cX12_init 177 = .ok (.bipush 15, 2) := by decide +kernel
theorem dX12_init_179 : decode cX12_init 179 = .ok (.newarray .int, 2) := by decide +kernel
theorem dX12_init_181 : decode cX12_init 181 = .ok (.putfield 81, 3) := by decide +kernel
theorem dX12_init_184 : decode cX12_init 184 = .ok (.aload_n 0, 1) := by decide +kernel
theorem dX12_init_185 : decode cX12_init 185 = .ok (.iconst (-1), 1) := by decide +kernel
theorem dX12_init_186 : decode cX12_init 186 = .ok (.putfield 84, 3) := by decide +kernel
theorem dX12_init_189 : decode cX12_init 189 = .ok (.aload_n 0, 1) := by decide +kernel
theorem dX12_init_190 : decode cX12_init 190 = .ok (.iconst 4, 1) := by decide +kernel
theorem dX12_init_191 : decode cX12_init 191 = .ok (.newarray .boolean, 2) := by decide +kernel
theorem dX12_init_193 : decode cX12_init 193 = .ok (.putfield 87, 3) := by decide +kernel
theorem dX12_init_196 : decode cX12_init 196 = .ok (.aload_n 0, 1) := by decide +kernel
theorem dX12_init_197 : decode cX12_init 197 = .ok (.iconst 4, 1) := by decide +kernel
theorem dX12_init_198 : decode cX12_init 198 = .ok (.newarray .int, 2) := by decide +kernel
theorem dX12_init_200 : decode cX12_init 200 = .ok (.putfield 91, 3) := by decide +kernel
theorem dX12_init_203 : decode cX12_init 203 = .ok (.aload_n 0, 1) := by decide +kernel
theorem dX12_init_204 : decode cX12_init 204 = .ok (.iconst 4, 1) := by decide +kernel
theorem dX12_init_205 : decode cX12_init 205 = .ok (.newarray .int, 2) := by decide +kernel
theorem dX12_init_207 : decode cX12_init 207 = .ok (.putfield 94, 3) := by decide +kernel
theorem dX12_init_210 : decode cX12_init 210 = .ok (.aload_n 0, 1) := by decide +kernel
theorem dX12_init_211 : decode cX12_init 211 = .ok (.sipush 160, 3) := by decide +kernel
theorem dX12_init_214 : decode cX12_init 214 = .ok (.newarray .int, 2) := by decide +kernel
theorem dX12_init_216 : decode cX12_init 216 = .ok (.putfield 97, 3) := by decide +kernel
theorem dX12_init_219 : decode cX12_init 219 = .ok (.aload_n 0, 1) := by decide +kernel
theorem dX12_init_220 : decode cX12_init 220 = .ok (.iconst 0, 1) := by decide +kernel
theorem dX12_init_221 : decode cX12_init 221 = .ok (.bipush 115, 2) := by decide +kernel
theorem dX12_init_223 : decode cX12_init 223 = .ok (.bipush 101, 2) := by decide +kernel
theorem dX12_init_225 : decode cX12_init 225 = .ok (.bipush 101, 2) := by decide +kernel
theorem dX12_init_227 : decode cX12_init 227 = .ok (.bipush 115, 2) := by decide +kernel
theorem dX12_init_229 : decode cX12_init 229 = .ok (.bipush 32, 2) := by decide +kernel
theorem dX12_init_231 : decode cX12_init 231 = .ok (.bipush 49, 2) := by decide +kernel
theorem dX12_init_233 : decode cX12_init 233 = .ok (.bipush 32, 2) := by decide +kernel
theorem dX12_init_235 : decode cX12_init 235 = .ok (.bipush 59, 2) := by decide +kernel
theorem dX12_init_237 : decode cX12_init 237 = .ok (.invokevirtual 100, 3) := by decide +kernel
theorem dX12_init_240 : decode cX12_init 240 = .ok (.aload_n 0, 1) := by decide +kernel
theorem dX12_init_241 : decode cX12_init 241 = .ok (.bipush 8, 2) := by decide +kernel
theorem dX12_init_243 : decode cX12_init 243 = .ok (.bipush 32, 2) := by decide +kernel
theorem dX12_init_245 : decode cX12_init 245 = .ok (.bipush 119, 2) := by decide +kernel
theorem dX12_init_247 : decode cX12_init 247 = .ok (.bipush 111, 2) := by decide +kernel
theorem dX12_init_249 : decode cX12_init 249 = .ok (.bipush 114, 2) := by decide +kernel
theorem dX12_init_251 : decode cX12_init 251 = .ok (.bipush 116, 2) := by decide +kernel
theorem dX12_init_253 : decode cX12_init 253 = .ok (.bipush 104, 2) := by decide +kernel
theorem dX12_init_255 : decode cX12_init 255 = .ok (.bipush 32, 2) := by decide +kernel
theorem dX12_init_257 : decode cX12_init 257 = .ok (.bipush 48, 2) := by decide +kernel
theorem dX12_init_259 : decode cX12_init 259 = .ok (.invokevirtual 100, 3) := by decide +kernel
theorem dX12_init_262 : decode cX12_init 262 = .ok (.aload_n 0, 1) := by decide +kernel
theorem dX12_init_263 : decode cX12_init 263 = .ok (.bipush 16, 2) := by decide +kernel
theorem dX12_init_265 : decode cX12_init 265 = .ok (.bipush 32, 2) := by decide +kernel
theorem dX12_init_267 : decode cX12_init 267 = .ok (.bipush 59, 2) := by decide +kernel
theorem dX12_init_269 : decode cX12_init 269 = .ok (.bipush 32, 2) := by decide +kernel
theorem dX12_init_271 : decode cX12_init 271 = .ok (.bipush 115, 2) := by decide +kernel
theorem dX12_init_273 : decode cX12_init 273 = .ok (.bipush 108, 2) := by decide +kernel
theorem dX12_init_275 : decode cX12_init 275 = .ok (.bipush 101, 2) := by decide +kernel
theorem dX12_init_277 : decode cX12_init 277 = .ok (.bipush 101, 2) := by decide +kernel
theorem dX12_init_279 : decode cX12_init 279 = .ok (.bipush 112, 2) := by decide +kernel
theorem dX12_init_281 : decode cX12_init 281 = .ok (.invokevirtual 100, 3) := by decide +kernel
theorem dX12_init_284 : decode cX12_init 284 = .ok (.aload_n 0, 1) := by decide +kernel
theorem dX12_init_285 : decode cX12_init 285 = .ok (.bipush 24, 2) := by decide +kernel
theorem dX12_init_287 : decode cX12_init 287 = .ok (.bipush 32, 2) := by decide +kernel
theorem dX12_init_289 : decode cX12_init 289 = .ok (.bipush 50, 2) := by decide +kernel
theorem dX12_init_291 : decode cX12_init 291 = .ok (.bipush 51, 2) := by decide +kernel
theorem dX12_init_293 : decode cX12_init 293 = .ok (.bipush 32, 2) := by decide +kernel
theorem dX12_init_295 : decode cX12_init 295 = .ok (.bipush 45, 2) := by decide +kernel
theorem dX12_init_297 : decode cX12_init 297 = .ok (.bipush 32, 2) := by decide +kernel
theorem dX12_init_299 : decode cX12_init 299 = .ok (.bipush 109, 2) := by decide +kernel
theorem dX12_init_301 : decode cX12_init 301 = .ok (.bipush 105, 2) := by decide +kernel
theorem dX12_init_303 : decode cX12_init 303 = .ok (.invokevirtual 100, 3) := by decide +kernel
theorem dX12_init_306 : decode cX12_init 306 = .ok (.aload_n 0, 1) := by decide +kernel
theorem dX12_init_307 : decode cX12_init 307 = .ok (.bipush 32, 2) := by decide +kernel
theorem dX12_init_309 : decode cX12_init 309 = .ok (.bipush 110, 2) := by decide +kernel
theorem dX12_init_311 : decode cX12_init 311 = .ok (.bipush 117, 2) := by decide +kernel
theorem dX12_init_313 : decode cX12_init 313 = .ok (.bipush 116, 2) := by decide +kernel
theorem dX12_init_315 : decode cX12_init 315 = .ok (.bipush 101, 2) := by decide +kernel
theorem dX12_init_317 : decode cX12_init 317 = .ok (.bipush 32, 2) := by decide +kernel
theorem dX12_init_319 : decode cX12_init 319 = .ok (.bipush 59, 2) := by decide +kernel
theorem dX12_init_321 : decode cX12_init 321 = .ok (.bipush 32, 2) := by decide +kernel
theorem dX12_init_323 : decode cX12_init 323 = .ok (.bipush 32, 2) := by decide +kernel
theorem dX12_init_325 : decode cX12_init 325 = .ok (.invokevirtual 100, 3) := by decide +kernel
theorem dX12_init_328 : decode cX12_init 328 = .ok (.aload_n 0, 1) := by decide +kernel
theorem dX12_init_329 : decode cX12_init 329 = .ok (.getfield 17, 3) := by decide +kernel
theorem dX12_init_332 : decode cX12_init 332 = .ok (.iconst 0, 1) := by decide +kernel
theorem dX12_init_333 : decode cX12_init 333 = .ok (.bipush 40, 2) := by decide +kernel
theorem dX12_init_335 : decode cX12_init 335 = .ok (.iastore, 1) := by decide +kernel
theorem dX12_init_336 : decode cX12_init 336 = .ok (.aload_n 0, 1) := by decide +kernel
theorem dX12_init_337 : decode cX12_init 337 = .ok (.iconst 1, 1) := by decide +kernel
theorem dX12_init_338 : decode cX12_init 338 = .ok (.putfield 104, 3) := by decide +kernel
theorem dX12_init_341 : decode cX12_init 341 = .ok (.return_, 1) := by decide +kernel
theorem dX12_spell_0 : decode cX12_spell 0 = .ok (.aload_n 0, 1) := by decide +kernel
theorem dX12_spell_1 : decode cX12_spell 1 = .ok (.getfield 13, 3) := by decide +kernel
theorem dX12_spell_4 : decode cX12_spell 4 = .ok (.iload_n 1, 1) := by decide +kernel
theorem dX12_spell_5 : decode cX12_spell 5 = .ok (.iload_n 2, 1) := by decide +kernel
theorem dX12_spell_6 : decode cX12_spell 6 = .ok (.iastore, 1) := by decide +kernel
theorem dX12_spell_7 : decode cX12_spell 7 = .ok (.aload_n 0, 1) := by decide +kernel
theorem dX12_spell_8 : decode cX12_spell 8 = .ok (.getfield 13, 3) := by decide +kernel
theorem dX12_spell_11 : decode cX12_spell 11 = .ok (.iload_n 1, 1) := by decide +kernel
theorem dX12_spell_12 : decode cX12_spell 12 = .ok (.iconst 1, 1) := by decide +kernel
theorem dX12_spell_13 : decode cX12_spell 13 = .ok (.iadd, 1) := by decide +kernel
theorem dX12_spell_14 : decode cX12_spell 14 = .ok (.iload_n 3, 1) := by decide +kernel
theorem dX12_spell_15 : decode cX12_spell 15 = .ok (.iastore, 1) := by decide +kernel
theorem dX12_spell_16 : decode cX12_spell 16 = .ok (.aload_n 0, 1) := by decide +kernel
theorem dX12_spell_17 : decode cX12_spell 17 = .ok (.getfield 13, 3) := by decide +kernel
theorem dX12_spell_20 : decode cX12_spell 20 = .ok (.iload_n 1, 1) := by decide +kernel
theorem dX12_spell_21 : decode cX12_spell 21 = .ok (.iconst 2, 1) := by decide +kernel
theorem dX12_spell_22 : decode cX12_spell 22 = .ok (.iadd, 1) := by decide +kernel
theorem dX12_spell_23 : decode cX12_spell 23 = .ok (.iload 4, 2) := by decide +kernel
theorem dX12_spell_25 : decode cX12_spell 25 = .ok (.iastore, 1) := by decide +kernel
theorem dX12_spell_26 : decode cX12_spell 26 = .ok (.aload_n 0, 1) := by decide +kernel
theorem dX12_spell_27 : decode cX12_spell 27 = .ok (.getfield 13, 3) := by decide +kernel
theorem dX12_spell_30 : decode cX12_spell 30 = .ok (.iload_n 1, 1) := by decide +kernel
theorem dX12_spell_31 : decode cX12_spell 31 = .ok (.iconst 3, 1) := by decide +kernel
theorem dX12_spell_32 : decode cX12_spell 32 = .ok (.iadd, 1) := by decide +kernel
theorem dX12_spell_33 : decode cX12_spell 33 = .ok (.iload 5, 2) := by decide +kernel
theorem dX12_spell_35 : decode cX12_spell 35 = .ok (.iastore, 1) := by decide +kernel
theorem dX12_spell_36 : decode cX12_spell 36 = .ok (.aload_n 0, 1) := by decide +kernel
theorem dX12_spell_37 : decode cX12_spell 37 = .ok (.getfield 13, 3) := by decide +kernel
theorem dX12_spell_40 : decode cX12_spell 40 = .ok (.iload_n 1, 1) := by decide +kernel
theorem dX12_spell_41 : decode cX12_spell 41 = .ok (.iconst 4, 1) := by decide +kernel
theorem dX12_spell_42 : decode cX12_spell 42 = .ok (.iadd, 1) := by decide +kernel
theorem dX12_spell_43 : decode cX12_spell 43 = .ok (.iload 6, 2) := by decide +kernel
theorem dX12_spell_45 : decode cX12_spell 45 = .ok (.iastore, 1) := by decide +kernel
theorem dX12_spell_46 : decode cX12_spell 46 = .ok (.aload_n 0, 1) := by decide +kernel
theorem dX12_spell_47 : decode cX12_spell 47 = .ok (.getfield 13, 3) := by decide +kernel
theorem dX12_spell_50 : decode cX12_spell 50 = .ok (.iload_n 1, 1) := by decide +kernel
theorem dX12_spell_51 : decode cX12_spell 51 = .ok (.iconst 5, 1) := by decide +kernel
theorem dX12_spell_52 : decode cX12_spell 52 = .ok (.iadd, 1) := by decide +kernel
theorem dX12_spell_53 : decode cX12_spell 53 = .ok (.iload 7, 2) := by decide +kernel
theorem dX12_spell_55 : decode cX12_spell 55 = .ok (.iastore, 1) := by decide +kernel
theorem dX12_spell_56 : decode cX12_spell 56 = .ok (.aload_n 0, 1) := by decide +kernel
theorem dX12_spell_57 : decode cX12_spell 57 = .ok (.getfield 13, 3) := by decide +kernel
theorem dX12_spell_60 : decode cX12_spell 60 = .ok (.iload_n 1, 1) := by decide +kernel
theorem dX12_spell_61 : decode cX12_spell 61 = .ok (.bipush 6, 2) := by decide +kernel
theorem dX12_spell_63 : decode cX12_spell 63 = .ok (.iadd, 1) := by decide +kernel
theorem dX12_spell_64 : decode cX12_spell 64 = .ok (.iload 8, 2) := by decide +kernel
theorem dX12_spell_66 : decode cX12_spell 66 = .ok (.iastore, 1) := by decide +kernel
theorem dX12_spell_67 : decode cX12_spell 67 = .ok (.aload_n 0, 1) := by decide +kernel
theorem dX12_spell_68 : decode cX12_spell 68 = .ok (.getfield 13, 3) := by decide +kernel
theorem dX12_spell_71 : decode cX12_spell 71 = .ok (.iload_n 1, 1) := by decide +kernel
theorem dX12_spell_72 : decode cX12_spell 72 = .ok (.bipush 7, 2) := by decide +kernel
theorem dX12_spell_74 : decode cX12_spell 74 = .ok (.iadd, 1) := by decide +kernel
theorem dX12_spell_75 : decode cX12_spell 75 = .ok (.iload 9, 2) := by decide +kernel
theorem dX12_spell_77 : decode cX12_spell 77 = .ok (.iastore, 1) := by decide +kernel
theorem dX12_spell_78 : decode cX12_spell 78 = .ok (.return_, 1) := by decide +kernel
theorem dX12_isCell_0 : decode cX12_isCell 0 = .ok (.iload_n 0, 1) := by decide +kernel
theorem dX12_isCell_1 : decode cX12_isCell 1 = .ok (.i2l, 1) := by decide +kernel
theorem dX12_isCell_2 : decode cX12_isCell 2 = .ok (.lconst 0, 1) := by decide +kernel
theorem dX12_isCell_3 : decode cX12_isCell 3 = .ok (.ldc2_w 107, 3) := by decide +kernel
theorem dX12_isCell_6 : decode cX12_isCell 6 = .ok (.invokestatic 109, 3) := by decide +kernel
theorem dX12_isCell_9 : decode cX12_isCell 9 = .ok (.ireturn, 1) := by decide +kernel
theorem dX12_isThing_0 : decode cX12_isThing 0 = .ok (.iload_n 1, 1) := by decide +kernel
theorem dX12_isThing_1 : decode cX12_isThing 1 = .ok (.i2l, 1) := by decide +kernel
theorem dX12_isThing_2 : decode cX12_isThing 2 = .ok (.lconst 0, 1) := by decide +kernel
theorem dX12_isThing_3 : decode cX12_isThing 3 = .ok (.aload_n 0, 1) := by decide +kernel
theorem dX12_isThing_4 : decode cX12_isThing 4 = .ok (.getfield 113, 3) := by decide +kernel
theorem dX12_isThing_7 : decode cX12_isThing 7 = .ok (.iconst 1, 1) := by decide +kernel
theorem dX12_isThing_8 : decode cX12_isThing 8 = .ok (.isub, 1) := by decide +kernel
theorem dX12_isThing_9 : decode cX12_isThing 9 = .ok (.i2l, 1) := by decide +kernel
theorem dX12_isThing_10 : decode cX12_isThing 10 = .ok (.invokestatic 109, 3) := by decide +kernel
theorem dX12_isThing_13 : decode cX12_isThing 13 = .ok (.ireturn, 1) := by decide +kernel
theorem dX12_isOne_0 : decode cX12_isOne 0 = .ok (.iload_n 1, 1) := by decide +kernel
theorem dX12_isOne_1 : decode cX12_isOne 1 = .ok (.i2l, 1) := by decide +kernel
theorem dX12_isOne_2 : decode cX12_isOne 2 = .ok (.lconst 0, 1) := by decide +kernel
theorem dX12_isOne_3 : decode cX12_isOne 3 = .ok (.aload_n 0, 1) := by decide +kernel
theorem dX12_isOne_4 : decode cX12_isOne 4 = .ok (.getfield 116, 3) := by decide +kernel
theorem dX12_isOne_7 : decode cX12_isOne 7 = .ok (.iconst 1, 1) := by decide +kernel
theorem dX12_isOne_8 : decode cX12_isOne 8 = .ok (.isub, 1) := by decide +kernel
theorem dX12_isOne_9 : decode cX12_isOne 9 = .ok (.i2l, 1) := by decide +kernel
theorem dX12_isOne_10 : decode cX12_isOne 10 = .ok (.invokestatic 109, 3) := by decide +kernel
theorem dX12_isOne_13 : decode cX12_isOne 13 = .ok (.ireturn, 1) := by decide +kernel
theorem dX12_town_0 : decode cX12_town 0 = .ok (.iload_n 1, 1) := by decide +kernel
theorem dX12_town_1 : decode cX12_town 1 = .ok (.i2l, 1) := by decide +kernel
theorem dX12_town_2 : decode cX12_town 2 = .ok (.lconst 0, 1) := by decide +kernel
theorem dX12_town_3 : decode cX12_town 3 = .ok (.lconst 1, 1) := by decide +kernel
theorem dX12_town_4 : decode cX12_town 4 = .ok (.invokestatic 109, 3) := by decide +kernel
theorem dX12_town_7 : decode cX12_town 7 = .ok (.ifCond .eq 26, 3) := by decide +kernel
theorem dX12_town_10 : decode cX12_town 10 = .ok (.iload_n 1, 1) := by decide +kernel
theorem dX12_town_11 : decode cX12_town 11 = .ok (.ifCond .ne 10, 3) := by decide +kernel
theorem dX12_town_14 : decode cX12_town 14 = .ok (.iload_n 2, 1) := by decide +kernel
theorem dX12_town_15 : decode cX12_town 15 = .ok (.invokestatic 119, 3) := by decide +kernel
theorem dX12_town_18 : decode cX12_town 18 = .ok (.ifCond .eq 15, 3) := by decide +kernel
theorem dX12_town_21 : decode cX12_town 21 = .ok (.iload_n 3, 1) := by decide +kernel
theorem dX12_town_22 : decode cX12_town 22 = .ok (.i2l, 1) := by decide +kernel
theorem dX12_town_23 : decode cX12_town 23 = .ok (.lconst 0, 1) := by decide +kernel
theorem dX12_town_24 : decode cX12_town 24 = .ok (.ldc2_w 123, 3) := by decide +kernel
theorem dX12_town_27 : decode cX12_town 27 = .ok (.invokestatic 109, 3) := by decide +kernel
theorem dX12_town_30 : decode cX12_town 30 = .ok (.ifCond .ne 6, 3) := by decide +kernel
theorem dX12_town_33 : decode cX12_town 33 = .ok (.bipush (-2), 2) := by decide +kernel
theorem dX12_town_35 : decode cX12_town 35 = .ok (.ireturn, 1) := by decide +kernel
theorem dX12_town_36 : decode cX12_town 36 = .ok (.iload_n 1, 1) := by decide +kernel
theorem dX12_town_37 : decode cX12_town 37 = .ok (.ifCond .ne 12, 3) := by decide +kernel
theorem dX12_town_40 : decode cX12_town 40 = .ok (.aload_n 0, 1) := by decide +kernel
theorem dX12_town_41 : decode cX12_town 41 = .ok (.getfield 23, 3) := by decide +kernel
theorem dX12_town_44 : decode cX12_town 44 = .ok (.iload_n 2, 1) := by decide +kernel
theorem dX12_town_45 : decode cX12_town 45 = .ok (.iaload, 1) := by decide +kernel
theorem dX12_town_46 : decode cX12_town 46 = .ok (.goto 7, 3) := by decide +kernel
theorem dX12_town_49 : decode cX12_town 49 = .ok (.aload_n 0, 1) := by decide +kernel
theorem dX12_town_50 : decode cX12_town 50 = .ok (.getfield 125, 3) := by decide +kernel
theorem dX12_town_53 : decode cX12_town 53 = .ok (.istore 4, 2) := by decide +kernel
theorem dX12_town_55 : decode cX12_town 55 = .ok (.iload_n 1, 1) := by decide +kernel
theorem dX12_town_56 : decode cX12_town 56 = .ok (.ifCond .ne 13, 3) := by decide +kernel
theorem dX12_town_59 : decode cX12_town 59 = .ok (.aload_n 0, 1) := by decide +kernel
theorem dX12_town_60 : decode cX12_town 60 = .ok (.getfield 23, 3) := by decide +kernel
theorem dX12_town_63 : decode cX12_town 63 = .ok (.iload_n 2, 1) := by decide +kernel
theorem dX12_town_64 : decode cX12_town 64 = .ok (.iload_n 3, 1) := by decide +kernel
theorem dX12_town_65 : decode cX12_town 65 = .ok (.iastore, 1) := by decide +kernel
theorem dX12_town_66 : decode cX12_town 66 = .ok (.goto 8, 3) := by decide +kernel
theorem dX12_town_69 : decode cX12_town 69 = .ok (.aload_n 0, 1) := by decide +kernel
theorem dX12_town_70 : decode cX12_town 70 = .ok (.iload_n 3, 1) := by decide +kernel
theorem dX12_town_71 : decode cX12_town 71 = .ok (.putfield 125, 3) := by decide +kernel
theorem dX12_town_74 : decode cX12_town 74 = .ok (.iload 4, 2) := by decide +kernel
theorem dX12_town_76 : decode cX12_town 76 = .ok (.ireturn, 1) := by decide +kernel
theorem dX12_high_0 : decode cX12_high 0 = .ok (.iload_n 1, 1) := by decide +kernel
theorem dX12_high_1 : decode cX12_high 1 = .ok (.invokestatic 119, 3) := by decide +kernel
theorem dX12_high_4 : decode cX12_high 4 = .ok (.ifCond .eq 12, 3) := by decide +kernel
theorem dX12_high_7 : decode cX12_high 7 = .ok (.aload_n 0, 1) := by decide +kernel
theorem dX12_high_8 : decode cX12_high 8 = .ok (.getfield 23, 3) := by decide +kernel
theorem dX12_high_11 : decode cX12_high 11 = .ok (.iload_n 1, 1) := by decide +kernel
theorem dX12_high_12 : decode cX12_high 12 = .ok (.iaload, 1) := by decide +kernel
theorem dX12_high_13 : decode cX12_high 13 = .ok (.goto 5, 3) := by decide +kernel
theorem dX12_high_16 : decode cX12_high 16 = .ok (.bipush (-2), 2) := by decide +kernel
theorem dX12_high_18 : decode cX12_high 18 = .ok (.ireturn, 1) := by decide +kernel
theorem dX12_thing_0 : decode cX12_thing 0 = .ok (.iload_n 1, 1) := by decide +kernel
theorem dX12_thing_1 : decode cX12_thing 1 = .ok (.i2l, 1) := by decide +kernel
theorem dX12_thing_2 : decode cX12_thing 2 = .ok (.lconst 0, 1) := by decide +kernel
theorem dX12_thing_3 : decode cX12_thing 3 = .ok (.ldc2_w 128, 3) := by decide +kernel
theorem dX12_thing_6 : decode cX12_thing 6 = .ok (.invokestatic 109, 3) := by decide +kernel
theorem dX12_thing_9 : decode cX12_thing 9 = .ok (.ifCond .eq 22, 3) := by decide +kernel
theorem dX12_thing_12 : decode cX12_thing 12 = .ok (.iload_n 2, 1) := by decide +kernel
theorem dX12_thing_13 : decode cX12_thing 13 = .ok (.invokestatic 119, 3) := by decide +kernel
theorem dX12_thing_16 : decode cX12_thing 16 = .ok (.ifCond .eq 15, 3) := by decide +kernel
theorem dX12_thing_19 : decode cX12_thing 19 = .ok (.iload_n 3, 1) := by decide +kernel
theorem dX12_thing_20 : decode cX12_thing 20 = .ok (.i2l, 1) := by decide +kernel
theorem dX12_thing_21 : decode cX12_thing 21 = .ok (.lconst 0, 1) := by decide +kernel
theorem dX12_thing_22 : decode cX12_thing 22 = .ok (.ldc2_w 130, 3) := by decide +kernel
theorem dX12_thing_25 : decode cX12_thing 25 = .ok (.invokestatic 109, 3) := by decide +kernel
theorem dX12_thing_28 : decode cX12_thing 28 = .ok (.ifCond .ne 6, 3) := by decide +kernel
theorem dX12_thing_31 : decode cX12_thing 31 = .ok (.bipush (-2), 2) := by decide +kernel
theorem dX12_thing_33 : decode cX12_thing 33 = .ok (.ireturn, 1) := by decide +kernel
theorem dX12_thing_34 : decode cX12_thing 34 = .ok (.aload_n 0, 1) := by decide +kernel
theorem dX12_thing_35 : decode cX12_thing 35 = .ok (.getfield 113, 3) := by decide +kernel
theorem dX12_thing_38 : decode cX12_thing 38 = .ok (.bipush 6, 2) := by decide +kernel
theorem dX12_thing_40 : decode cX12_thing 40 = .ok (.if_icmp .ne 6, 3) := by decide +kernel
theorem dX12_thing_43 : decode cX12_thing 43 = .ok (.bipush (-4), 2) := by decide +kernel
theorem dX12_thing_45 : decode cX12_thing 45 = .ok (.ireturn, 1) := by decide +kernel
theorem dX12_thing_46 : decode cX12_thing 46 = .ok (.aload_n 0, 1) := by decide +kernel
theorem dX12_thing_47 : decode cX12_thing 47 = .ok (.getfield 26, 3) := by decide +kernel
theorem dX12_thing_50 : decode cX12_thing 50 = .ok (.aload_n 0, 1) := by decide +kernel
theorem dX12_thing_51 : decode cX12_thing 51 = .ok (.getfield 113, 3) := by decide +kernel
theorem dX12_thing_54 : decode cX12_thing 54 = .ok (.iload_n 1, 1) := by decide +kernel
theorem dX12_thing_55 : decode cX12_thing 55 = .ok (.iastore, 1) := by decide +kernel
theorem dX12_thing_56 : decode cX12_thing 56 = .ok (.aload_n 0, 1) := by decide +kernel
theorem dX12_thing_57 : decode cX12_thing 57 = .ok (.getfield 29, 3) := by decide +kernel
theorem dX12_thing_60 : decode cX12_thing 60 = .ok (.aload_n 0, 1) := by decide +kernel
theorem dX12_thing_61 : decode cX12_thing 61 = .ok (.getfield 113, 3) := by decide +kernel
theorem dX12_thing_64 : decode cX12_thing 64 = .ok (.iload_n 2, 1) := by decide +kernel
theorem dX12_thing_65 : decode cX12_thing 65 = .ok (.iastore, 1) := by decide +kernel
theorem dX12_thing_66 : decode cX12_thing 66 = .ok (.aload_n 0, 1) := by decide +kernel
theorem dX12_thing_67 : decode cX12_thing 67 = .ok (.getfield 32, 3) := by decide +kernel
theorem dX12_thing_70 : decode cX12_thing 70 = .ok (.aload_n 0, 1) := by decide +kernel
theorem dX12_thing_71 : decode cX12_thing 71 = .ok (.getfield 113, 3) := by decide +kernel
theorem dX12_thing_74 : decode cX12_thing 74 = .ok (.iload_n 3, 1) := by decide +kernel
theorem dX12_thing_75 : decode cX12_thing 75 = .ok (.bipush 10, 2) := by decide +kernel
theorem dX12_thing_77 : decode cX12_thing 77 = .ok (.idiv, 1) := by decide +kernel
theorem dX12_thing_78 : decode cX12_thing 78 = .ok (.iastore, 1) := by decide +kernel
theorem dX12_thing_79 : decode cX12_thing 79 = .ok (.aload_n 0, 1) := by decide +kernel
theorem dX12_thing_80 : decode cX12_thing 80 = .ok (.getfield 35, 3) := by decide +kernel
theorem dX12_thing_83 : decode cX12_thing 83 = .ok (.aload_n 0, 1) := by decide +kernel
theorem dX12_thing_84 : decode cX12_thing 84 = .ok (.getfield 113, 3) := by decide +kernel
theorem dX12_thing_87 : decode cX12_thing 87 = .ok (.iload_n 3, 1) := by decide +kernel
theorem dX12_thing_88 : decode cX12_thing 88 = .ok (.bipush 10, 2) := by decide +kernel
theorem dX12_thing_90 : decode cX12_thing 90 = .ok (.irem, 1) := by decide +kernel
theorem dX12_thing_91 : decode cX12_thing 91 = .ok (.iastore, 1) := by decide +kernel
theorem dX12_thing_92 : decode cX12_thing 92 = .ok (.aload_n 0, 1) := by decide +kernel
theorem dX12_thing_93 : decode cX12_thing 93 = .ok (.dup, 1) := by decide +kernel
theorem dX12_thing_94 : decode cX12_thing 94 = .ok (.getfield 113, 3) := by decide +kernel
theorem dX12_thing_97 : decode cX12_thing 97 = .ok (.iconst 1, 1) := by decide +kernel
theorem dX12_thing_98 : decode cX12_thing 98 = .ok (.iadd, 1) := by decide +kernel
theorem dX12_thing_99 : decode cX12_thing 99 = .ok (.putfield 113, 3) := by decide +kernel
theorem dX12_thing_102 : decode cX12_thing 102 = .ok (.aload_n 0, 1) := by decide +kernel
theorem dX12_thing_103 : decode cX12_thing 103 = .ok (.getfield 113, 3) := by decide +kernel
theorem dX12_thing_106 : decode cX12_thing 106 = .ok (.iconst 1, 1) := by decide +kernel
theorem dX12_thing_107 : decode cX12_thing 107 = .ok (.isub, 1) := by decide +kernel
theorem dX12_thing_108 : decode cX12_thing 108 = .ok (.ireturn, 1) := by decide +kernel
theorem dX12_sleeper_0 : decode cX12_sleeper 0 = .ok (.iload_n 1, 1) := by decide +kernel
theorem dX12_sleeper_1 : decode cX12_sleeper 1 = .ok (.invokestatic 119, 3) := by decide +kernel
theorem dX12_sleeper_4 : decode cX12_sleeper 4 = .ok (.ifCond .eq 35, 3) := by decide +kernel
theorem dX12_sleeper_7 : decode cX12_sleeper 7 = .ok (.iload_n 2, 1) := by decide +kernel
theorem dX12_sleeper_8 : decode cX12_sleeper 8 = .ok (.i2l, 1) := by decide +kernel
theorem dX12_sleeper_9 : decode cX12_sleeper 9 = .ok (.lconst 0, 1) := by decide +kernel
theorem dX12_sleeper_10 : decode cX12_sleeper 10 = .ok (.ldc2_w 132, 3) := by decide +kernel
theorem dX12_sleeper_13 : decode cX12_sleeper 13 = .ok (.invokestatic 109, 3) := by decide +kernel
theorem dX12_sleeper_16 : decode cX12_sleeper 16 = .ok (.ifCond .eq 23, 3) := by decide +kernel
theorem dX12_sleeper_19 : decode cX12_sleeper 19 = .ok (.iload_n 2, 1) := by decide +kernel
theorem dX12_sleeper_20 : decode cX12_sleeper 20 = .ok (.bipush 10, 2) := by decide +kernel
theorem dX12_sleeper_22 : decode cX12_sleeper 22 = .ok (.irem, 1) := by decide +kernel
theorem dX12_sleeper_23 : decode cX12_sleeper 23 = .ok (.iconst 4, 1) := by decide +kernel
theorem dX12_sleeper_24 : decode cX12_sleeper 24 = .ok (.if_icmp .ge 15, 3) := by decide +kernel
theorem dX12_sleeper_27 : decode cX12_sleeper 27 = .ok (.iload_n 3, 1) := by decide +kernel
theorem dX12_sleeper_28 : decode cX12_sleeper 28 = .ok (.i2l, 1) := by decide +kernel
theorem dX12_sleeper_29 : decode cX12_sleeper 29 = .ok (.lconst 0, 1) := by decide +kernel
theorem dX12_sleeper_30 : decode cX12_sleeper 30 = .ok (.ldc2_w 134, 3) := by decide +kernel
theorem dX12_sleeper_33 : decode cX12_sleeper 33 = .ok (.invokestatic 109, 3) := by decide +kernel
theorem dX12_sleeper_36 : decode cX12_sleeper 36 = .ok (.ifCond .ne 6, 3) := by decide +kernel
theorem dX12_sleeper_39 : decode cX12_sleeper 39 = .ok (.bipush (-2), 2) := by decide +kernel
theorem dX12_sleeper_41 : decode cX12_sleeper 41 = .ok (.ireturn, 1) := by decide +kernel
theorem dX12_sleeper_42 : decode cX12_sleeper 42 = .ok (.aload_n 0, 1) := by decide +kernel
theorem dX12_sleeper_43 : decode cX12_sleeper 43 = .ok (.getfield 116, 3) := by decide +kernel
theorem dX12_sleeper_46 : decode cX12_sleeper 46 = .ok (.iconst 5, 1) := by decide +kernel
theorem dX12_sleeper_47 : decode cX12_sleeper 47 = .ok (.if_icmp .ne 6, 3) := by decide +kernel
theorem dX12_sleeper_50 : decode cX12_sleeper 50 = .ok (.bipush (-4), 2) := by decide +kernel
theorem dX12_sleeper_52 : decode cX12_sleeper 52 = .ok (.ireturn, 1) := by decide +kernel
theorem dX12_sleeper_53 : decode cX12_sleeper 53 = .ok (.aload_n 0, 1) := by decide +kernel
theorem dX12_sleeper_54 : decode cX12_sleeper 54 = .ok (.getfield 38, 3) := by decide +kernel
theorem dX12_sleeper_57 : decode cX12_sleeper 57 = .ok (.aload_n 0, 1) := by decide +kernel
theorem dX12_sleeper_58 : decode cX12_sleeper 58 = .ok (.getfield 116, 3) := by decide +kernel
theorem dX12_sleeper_61 : decode cX12_sleeper 61 = .ok (.iload_n 1, 1) := by decide +kernel
theorem dX12_sleeper_62 : decode cX12_sleeper 62 = .ok (.iastore, 1) := by decide +kernel
theorem dX12_sleeper_63 : decode cX12_sleeper 63 = .ok (.aload_n 0, 1) := by decide +kernel
theorem dX12_sleeper_64 : decode cX12_sleeper 64 = .ok (.getfield 41, 3) := by decide +kernel
theorem dX12_sleeper_67 : decode cX12_sleeper 67 = .ok (.aload_n 0, 1) := by decide +kernel
theorem dX12_sleeper_68 : decode cX12_sleeper 68 = .ok (.getfield 116, 3) := by decide +kernel
theorem dX12_sleeper_71 : decode cX12_sleeper 71 = .ok (.iload_n 2, 1) := by decide +kernel
theorem dX12_sleeper_72 : decode cX12_sleeper 72 = .ok (.bipush 10, 2) := by decide +kernel
theorem dX12_sleeper_74 : decode cX12_sleeper 74 = .ok (.irem, 1) := by decide +kernel
theorem dX12_sleeper_75 : decode cX12_sleeper 75 = .ok (.iastore, 1) := by decide +kernel
theorem dX12_sleeper_76 : decode cX12_sleeper 76 = .ok (.aload_n 0, 1) := by decide +kernel
theorem dX12_sleeper_77 : decode cX12_sleeper 77 = .ok (.getfield 44, 3) := by decide +kernel
theorem dX12_sleeper_80 : decode cX12_sleeper 80 = .ok (.aload_n 0, 1) := by decide +kernel
theorem dX12_sleeper_81 : decode cX12_sleeper 81 = .ok (.getfield 116, 3) := by decide +kernel
theorem dX12_sleeper_84 : decode cX12_sleeper 84 = .ok (.iload_n 2, 1) := by decide +kernel
theorem dX12_sleeper_85 : decode cX12_sleeper 85 = .ok (.bipush 10, 2) := by decide +kernel
theorem dX12_sleeper_87 : decode cX12_sleeper 87 = .ok (.idiv, 1) := by decide +kernel
theorem dX12_sleeper_88 : decode cX12_sleeper 88 = .ok (.iastore, 1) := by decide +kernel
theorem dX12_sleeper_89 : decode cX12_sleeper 89 = .ok (.aload_n 0, 1) := by decide +kernel
theorem dX12_sleeper_90 : decode cX12_sleeper 90 = .ok (.getfield 47, 3) := by decide +kernel
theorem dX12_sleeper_93 : decode cX12_sleeper 93 = .ok (.aload_n 0, 1) := by decide +kernel
theorem dX12_sleeper_94 : decode cX12_sleeper 94 = .ok (.getfield 116, 3) := by decide +kernel
theorem dX12_sleeper_97 : decode cX12_sleeper 97 = .ok (.iload_n 3, 1) := by decide +kernel
theorem dX12_sleeper_98 : decode cX12_sleeper 98 = .ok (.iastore, 1) := by decide +kernel
theorem dX12_sleeper_99 : decode cX12_sleeper 99 = .ok (.aload_n 0, 1) := by decide +kernel
theorem dX12_sleeper_100 : decode cX12_sleeper 100 = .ok (.dup, 1) := by decide +kernel
theorem dX12_sleeper_101 : decode cX12_sleeper 101 = .ok (.getfield 116, 3) := by decide +kernel
theorem dX12_sleeper_104 : decode cX12_sleeper 104 = .ok (.iconst 1, 1) := by decide +kernel
theorem dX12_sleeper_105 : decode cX12_sleeper 105 = .ok (.iadd, 1) := by decide +kernel
theorem dX12_sleeper_106 : decode cX12_sleeper 106 = .ok (.putfield 116, 3) := by decide +kernel
theorem dX12_sleeper_109 : decode cX12_sleeper 109 = .ok (.aload_n 0, 1) := by decide +kernel
theorem dX12_sleeper_110 : decode cX12_sleeper 110 = .ok (.getfield 116, 3) := by decide +kernel
theorem dX12_sleeper_113 : decode cX12_sleeper 113 = .ok (.iconst 1, 1) := by decide +kernel
theorem dX12_sleeper_114 : decode cX12_sleeper 114 = .ok (.isub, 1) := by decide +kernel
theorem dX12_sleeper_115 : decode cX12_sleeper 115 = .ok (.ireturn, 1) := by decide +kernel
theorem dX12_set_0 : decode cX12_set 0 = .ok (.iload_n 1, 1) := by decide +kernel
theorem dX12_set_1 : decode cX12_set 1 = .ok (.i2l, 1) := by decide +kernel
theorem dX12_set_2 : decode cX12_set 2 = .ok (.lconst 0, 1) := by decide +kernel
theorem dX12_set_3 : decode cX12_set 3 = .ok (.ldc2_w 128, 3) := by decide +kernel
theorem dX12_set_6 : decode cX12_set 6 = .ok (.invokestatic 109, 3) := by decide +kernel
theorem dX12_set_9 : decode cX12_set 9 = .ok (.ifCond .eq 87, 3) := by decide +kernel
theorem dX12_set_12 : decode cX12_set 12 = .ok (.iload_n 1, 1) := by decide +kernel
theorem dX12_set_13 : decode cX12_set 13 = .ok (.iconst 3, 1) := by decide +kernel
theorem dX12_set_14 : decode cX12_set 14 = .ok (.if_icmp .ge 14, 3) := by decide +kernel
theorem dX12_set_17 : decode cX12_set 17 = .ok (.aload_n 0, 1) := by decide +kernel
theorem dX12_set_18 : decode cX12_set 18 = .ok (.iload_n 2, 1) := by decide +kernel
theorem dX12_set_19 : decode cX12_set 19 = .ok (.invokevirtual 136, 3) := by decide +kernel
theorem dX12_set_22 : decode cX12_set 22 = .ok (.ifCond .eq 74, 3) := by decide +kernel
theorem dX12_set_25 : decode cX12_set 25 = .ok (.goto 11, 3) := by decide +kernel
theorem dX12_set_28 : decode cX12_set 28 = .ok (.aload_n 0, 1) := by decide +kernel
theorem dX12_set_29 : decode cX12_set 29 = .ok (.iload_n 2, 1) := by decide +kernel
theorem dX12_set_30 : decode cX12_set 30 = .ok (.invokevirtual 139, 3) := by decide +kernel
theorem dX12_set_33 : decode cX12_set 33 = .ok (.ifCond .eq 63, 3) := by decide +kernel
theorem dX12_set_36 : decode cX12_set 36 = .ok (.iload_n 3, 1) := by decide +kernel
theorem dX12_set_37 : decode cX12_set 37 = .ok (.i2l, 1) := by decide +kernel
theorem dX12_set_38 : decode cX12_set 38 = .ok (.lconst 0, 1) := by decide +kernel
theorem dX12_set_39 : decode cX12_set 39 = .ok (.iload_n 1, 1) := by decide +kernel
theorem dX12_set_40 : decode cX12_set 40 = .ok (.ifCond .eq 8, 3) := by decide +kernel
theorem dX12_set_43 : decode cX12_set 43 = .ok (.iload_n 1, 1) := by decide +kernel
theorem dX12_set_44 : decode cX12_set 44 = .ok (.iconst 3, 1) := by decide +kernel
theorem dX12_set_45 : decode cX12_set 45 = .ok (.if_icmp .ne 9, 3) := by decide +kernel
theorem dX12_set_48 : decode cX12_set 48 = .ok (.ldc2_w 107, 3) := by decide +kernel
theorem dX12_set_51 : decode cX12_set 51 = .ok (.goto 39, 3) := by decide +kernel
theorem dX12_set_54 : decode cX12_set 54 = .ok (.iload_n 1, 1) := by decide +kernel
theorem dX12_set_55 : decode cX12_set 55 = .ok (.iconst 1, 1) := by decide +kernel
theorem dX12_set_56 : decode cX12_set 56 = .ok (.if_icmp .ne 9, 3) := by decide +kernel
theorem dX12_set_59 : decode cX12_set 59 = .ok (.ldc2_w 134, 3) := by decide +kernel
theorem dX12_set_62 : decode cX12_set 62 = .ok (.goto 28, 3) := by decide +kernel
theorem dX12_set_65 : decode cX12_set 65 = .ok (.iload_n 1, 1) := by decide +kernel
theorem dX12_set_66 : decode cX12_set 66 = .ok (.iconst 2, 1) := by decide +kernel
theorem dX12_set_67 : decode cX12_set 67 = .ok (.if_icmp .ne 9, 3) := by decide +kernel
theorem dX12_set_70 : decode cX12_set 70 = .ok (.ldc2_w 123, 3) := by decide +kernel
theorem dX12_set_73 : decode cX12_set 73 = .ok (.goto 17, 3) := by decide +kernel
theorem dX12_set_76 : decode cX12_set 76 = .ok (.iload_n 1, 1) := by decide +kernel
theorem dX12_set_77 : decode cX12_set 77 = .ok (.iconst 4, 1) := by decide +kernel
theorem dX12_set_78 : decode cX12_set 78 = .ok (.if_icmp .ne 9, 3) := by decide +kernel
theorem dX12_set_81 : decode cX12_set 81 = .ok (.ldc2_w 142, 3) := by decide +kernel
theorem dX12_set_84 : decode cX12_set 84 = .ok (.goto 6, 3) := by decide +kernel
theorem dX12_set_87 : decode cX12_set 87 = .ok (.ldc2_w 144, 3) := by decide +kernel
theorem dX12_set_90 : decode cX12_set 90 = .ok (.invokestatic 109, 3) := by decide +kernel
theorem dX12_set_93 : decode cX12_set 93 = .ok (.ifCond .ne 6, 3) := by decide +kernel
theorem dX12_set_96 : decode cX12_set 96 = .ok (.bipush (-2), 2) := by decide +kernel
theorem dX12_set_98 : decode cX12_set 98 = .ok (.ireturn, 1) := by decide +kernel
theorem dX12_set_99 : decode cX12_set 99 = .ok (.iload_n 1, 1) := by decide +kernel
theorem dX12_set_100 : decode cX12_set 100 = .ok (.ifCond .ne 12, 3) := by decide +kernel
theorem dX12_set_103 : decode cX12_set 103 = .ok (.aload_n 0, 1) := by decide +kernel
theorem dX12_set_104 : decode cX12_set 104 = .ok (.getfield 29, 3) := by decide +kernel
theorem dX12_set_107 : decode cX12_set 107 = .ok (.iload_n 2, 1) := by decide +kernel
theorem dX12_set_108 : decode cX12_set 108 = .ok (.iaload, 1) := by decide +kernel
theorem dX12_set_109 : decode cX12_set 109 = .ok (.goto 65, 3) := by decide +kernel
theorem dX12_set_112 : decode cX12_set 112 = .ok (.iload_n 1, 1) := by decide +kernel
theorem dX12_set_113 : decode cX12_set 113 = .ok (.iconst 1, 1) := by decide +kernel
theorem dX12_set_114 : decode cX12_set 114 = .ok (.if_icmp .ne 12, 3) := by decide +kernel
theorem dX12_set_117 : decode cX12_set 117 = .ok (.aload_n 0, 1) := by decide +kernel
theorem dX12_set_118 : decode cX12_set 118 = .ok (.getfield 32, 3) := by decide +kernel
theorem dX12_set_121 : decode cX12_set 121 = .ok (.iload_n 2, 1) := by decide +kernel
theorem dX12_set_122 : decode cX12_set 122 = .ok (.iaload, 1) := by decide +kernel
theorem dX12_set_123 : decode cX12_set 123 = .ok (.goto 51, 3) := by decide +kernel
theorem dX12_set_126 : decode cX12_set 126 = .ok (.iload_n 1, 1) := by decide +kernel
theorem dX12_set_127 : decode cX12_set 127 = .ok (.iconst 2, 1) := by decide +kernel
theorem dX12_set_128 : decode cX12_set 128 = .ok (.if_icmp .ne 12, 3) := by decide +kernel
theorem dX12_set_131 : decode cX12_set 131 = .ok (.aload_n 0, 1) := by decide +kernel
theorem dX12_set_132 : decode cX12_set 132 = .ok (.getfield 35, 3) := by decide +kernel
theorem dX12_set_135 : decode cX12_set 135 = .ok (.iload_n 2, 1) := by decide +kernel
theorem dX12_set_136 : decode cX12_set 136 = .ok (.iaload, 1) := by decide +kernel
theorem dX12_set_137 : decode cX12_set 137 = .ok (.goto 37, 3) := by decide +kernel
theorem dX12_set_140 : decode cX12_set 140 = .ok (.iload_n 1, 1) := by decide +kernel
theorem dX12_set_141 : decode cX12_set 141 = .ok (.iconst 3, 1) := by decide +kernel
theorem dX12_set_142 : decode cX12_set 142 = .ok (.if_icmp .ne 12, 3) := by decide +kernel
theorem dX12_set_145 : decode cX12_set 145 = .ok (.aload_n 0, 1) := by decide +kernel
theorem dX12_set_146 : decode cX12_set 146 = .ok (.getfield 38, 3) := by decide +kernel
theorem dX12_set_149 : decode cX12_set 149 = .ok (.iload_n 2, 1) := by decide +kernel
theorem dX12_set_150 : decode cX12_set 150 = .ok (.iaload, 1) := by decide +kernel
theorem dX12_set_151 : decode cX12_set 151 = .ok (.goto 23, 3) := by decide +kernel
theorem dX12_set_154 : decode cX12_set 154 = .ok (.iload_n 1, 1) := by decide +kernel
theorem dX12_set_155 : decode cX12_set 155 = .ok (.iconst 4, 1) := by decide +kernel
theorem dX12_set_156 : decode cX12_set 156 = .ok (.if_icmp .ne 12, 3) := by decide +kernel
theorem dX12_set_159 : decode cX12_set 159 = .ok (.aload_n 0, 1) := by decide +kernel
theorem dX12_set_160 : decode cX12_set 160 = .ok (.getfield 41, 3) := by decide +kernel
theorem dX12_set_163 : decode cX12_set 163 = .ok (.iload_n 2, 1) := by decide +kernel
theorem dX12_set_164 : decode cX12_set 164 = .ok (.iaload, 1) := by decide +kernel
theorem dX12_set_165 : decode cX12_set 165 = .ok (.goto 9, 3) := by decide +kernel
theorem dX12_set_168 : decode cX12_set 168 = .ok (.aload_n 0, 1) := by decide +kernel
theorem dX12_set_169 : decode cX12_set 169 = .ok (.getfield 44, 3) := by decide +kernel
theorem dX12_set_172 : decode cX12_set 172 = .ok (.iload_n 2, 1) := by decide +kernel
theorem dX12_set_173 : decode cX12_set 173 = .ok (.iaload, 1) := by decide +kernel
theorem dX12_set_174 : decode cX12_set 174 = .ok (.istore 4, 2) := by decide +kernel
theorem dX12_set_176 : decode cX12_set 176 = .ok (.iload_n 1, 1) := by decide +kernel
theorem dX12_set_177 : decode cX12_set 177 = .ok (.ifCond .ne 13, 3) := by decide +kernel
theorem dX12_set_180 : decode cX12_set 180 = .ok (.aload_n 0, 1) := by decide +kernel
theorem dX12_set_181 : decode cX12_set 181 = .ok (.getfield 29, 3) := by decide +kernel
theorem dX12_set_184 : decode cX12_set 184 = .ok (.iload_n 2, 1) := by decide +kernel
theorem dX12_set_185 : decode cX12_set 185 = .ok (.iload_n 3, 1) := by decide +kernel
theorem dX12_set_186 : decode cX12_set 186 = .ok (.iastore, 1) := by decide +kernel
theorem dX12_set_187 : decode cX12_set 187 = .ok (.goto 70, 3) := by decide +kernel
theorem dX12_set_190 : decode cX12_set 190 = .ok (.iload_n 1, 1) := by decide +kernel
theorem dX12_set_191 : decode cX12_set 191 = .ok (.iconst 1, 1) := by decide +kernel
theorem dX12_set_192 : decode cX12_set 192 = .ok (.if_icmp .ne 13, 3) := by decide +kernel
theorem dX12_set_195 : decode cX12_set 195 = .ok (.aload_n 0, 1) := by decide +kernel
theorem dX12_set_196 : decode cX12_set 196 = .ok (.getfield 32, 3) := by decide +kernel
theorem dX12_set_199 : decode cX12_set 199 = .ok (.iload_n 2, 1) := by decide +kernel
theorem dX12_set_200 : decode cX12_set 200 = .ok (.iload_n 3, 1) := by decide +kernel
theorem dX12_set_201 : decode cX12_set 201 = .ok (.iastore, 1) := by decide +kernel
theorem dX12_set_202 : decode cX12_set 202 = .ok (.goto 55, 3) := by decide +kernel
theorem dX12_set_205 : decode cX12_set 205 = .ok (.iload_n 1, 1) := by decide +kernel
theorem dX12_set_206 : decode cX12_set 206 = .ok (.iconst 2, 1) := by decide +kernel
theorem dX12_set_207 : decode cX12_set 207 = .ok (.if_icmp .ne 13, 3) := by decide +kernel
theorem dX12_set_210 : decode cX12_set 210 = .ok (.aload_n 0, 1) := by decide +kernel
theorem dX12_set_211 : decode cX12_set 211 = .ok (.getfield 35, 3) := by decide +kernel
theorem dX12_set_214 : decode cX12_set 214 = .ok (.iload_n 2, 1) := by decide +kernel
theorem dX12_set_215 : decode cX12_set 215 = .ok (.iload_n 3, 1) := by decide +kernel
theorem dX12_set_216 : decode cX12_set 216 = .ok (.iastore, 1) := by decide +kernel
theorem dX12_set_217 : decode cX12_set 217 = .ok (.goto 40, 3) := by decide +kernel
theorem dX12_set_220 : decode cX12_set 220 = .ok (.iload_n 1, 1) := by decide +kernel
theorem dX12_set_221 : decode cX12_set 221 = .ok (.iconst 3, 1) := by decide +kernel
theorem dX12_set_222 : decode cX12_set 222 = .ok (.if_icmp .ne 13, 3) := by decide +kernel
theorem dX12_set_225 : decode cX12_set 225 = .ok (.aload_n 0, 1) := by decide +kernel
theorem dX12_set_226 : decode cX12_set 226 = .ok (.getfield 38, 3) := by decide +kernel
theorem dX12_set_229 : decode cX12_set 229 = .ok (.iload_n 2, 1) := by decide +kernel
theorem dX12_set_230 : decode cX12_set 230 = .ok (.iload_n 3, 1) := by decide +kernel
theorem dX12_set_231 : decode cX12_set 231 = .ok (.iastore, 1) := by decide +kernel
theorem dX12_set_232 : decode cX12_set 232 = .ok (.goto 25, 3) := by decide +kernel
theorem dX12_set_235 : decode cX12_set 235 = .ok (.iload_n 1, 1) := by decide +kernel
theorem dX12_set_236 : decode cX12_set 236 = .ok (.iconst 4, 1) := by decide +kernel
theorem dX12_set_237 : decode cX12_set 237 = .ok (.if_icmp .ne 13, 3) := by decide +kernel
theorem dX12_set_240 : decode cX12_set 240 = .ok (.aload_n 0, 1) := by decide +kernel
theorem dX12_set_241 : decode cX12_set 241 = .ok (.getfield 41, 3) := by decide +kernel
theorem dX12_set_244 : decode cX12_set 244 = .ok (.iload_n 2, 1) := by decide +kernel
theorem dX12_set_245 : decode cX12_set 245 = .ok (.iload_n 3, 1) := by decide +kernel
theorem dX12_set_246 : decode cX12_set 246 = .ok (.iastore, 1) := by decide +kernel
theorem dX12_set_247 : decode cX12_set 247 = .ok (.goto 10, 3) := by decide +kernel
theorem dX12_set_250 : decode cX12_set 250 = .ok (.aload_n 0, 1) := by decide +kernel
theorem dX12_set_251 : decode cX12_set 251 = .ok (.getfield 44, 3) := by decide +kernel
theorem dX12_set_254 : decode cX12_set 254 = .ok (.iload_n 2, 1) := by decide +kernel
theorem dX12_set_255 : decode cX12_set 255 = .ok (.iload_n 3, 1) := by decide +kernel
theorem dX12_set_256 : decode cX12_set 256 = .ok (.iastore, 1) := by decide +kernel
theorem dX12_set_257 : decode cX12_set 257 = .ok (.iload 4, 2) := by decide +kernel
theorem dX12_set_259 : decode cX12_set 259 = .ok (.ireturn, 1) := by decide +kernel
theorem dX12_told_0 : decode cX12_told 0 = .ok (.iload_n 2, 1) := by decide +kernel
theorem dX12_told_1 : decode cX12_told 1 = .ok (.i2l, 1) := by decide +kernel
theorem dX12_told_2 : decode cX12_told 2 = .ok (.lconst 0, 1) := by decide +kernel
theorem dX12_told_3 : decode cX12_told 3 = .ok (.ldc2_w 146, 3) := by decide +kernel
theorem dX12_told_6 : decode cX12_told 6 = .ok (.invokestatic 109, 3) := by decide +kernel
theorem dX12_told_9 : decode cX12_told 9 = .ok (.ifCond .eq 27, 3) := by decide +kernel
theorem dX12_told_12 : decode cX12_told 12 = .ok (.iload_n 2, 1) := by decide +kernel
theorem dX12_told_13 : decode cX12_told 13 = .ok (.iconst 4, 1) := by decide +kernel
theorem dX12_told_14 : decode cX12_told 14 = .ok (.if_icmp .ge 14, 3) := by decide +kernel
theorem dX12_told_17 : decode cX12_told 17 = .ok (.aload_n 0, 1) := by decide +kernel
theorem dX12_told_18 : decode cX12_told 18 = .ok (.iload_n 1, 1) := by decide +kernel
theorem dX12_told_19 : decode cX12_told 19 = .ok (.invokevirtual 136, 3) := by decide +kernel
theorem dX12_told_22 : decode cX12_told 22 = .ok (.ifCond .eq 14, 3) := by decide +kernel
theorem dX12_told_25 : decode cX12_told 25 = .ok (.goto 14, 3) := by decide +kernel
theorem dX12_told_28 : decode cX12_told 28 = .ok (.aload_n 0, 1) := by decide +kernel
theorem dX12_told_29 : decode cX12_told 29 = .ok (.iload_n 1, 1) := by decide +kernel
theorem dX12_told_30 : decode cX12_told 30 = .ok (.invokevirtual 139, 3) := by decide +kernel
theorem dX12_told_33 : decode cX12_told 33 = .ok (.ifCond .ne 6, 3) := by decide +kernel
theorem dX12_told_36 : decode cX12_told 36 = .ok (.bipush (-2), 2) := by decide +kernel
theorem dX12_told_38 : decode cX12_told 38 = .ok (.ireturn, 1) := by decide +kernel
theorem dX12_told_39 : decode cX12_told 39 = .ok (.iload_n 2, 1) := by decide +kernel
theorem dX12_told_40 : decode cX12_told 40 = .ok (.iconst 4, 1) := by decide +kernel
theorem dX12_told_41 : decode cX12_told 41 = .ok (.if_icmp .ge 51, 3) := by decide +kernel
theorem dX12_told_44 : decode cX12_told 44 = .ok (.iload_n 2, 1) := by decide +kernel
theorem dX12_told_45 : decode cX12_told 45 = .ok (.ifCond .ne 12, 3) := by decide +kernel
theorem dX12_told_48 : decode cX12_told 48 = .ok (.aload_n 0, 1) := by decide +kernel
theorem dX12_told_49 : decode cX12_told 49 = .ok (.getfield 29, 3) := by decide +kernel
theorem dX12_told_52 : decode cX12_told 52 = .ok (.iload_n 1, 1) := by decide +kernel
theorem dX12_told_53 : decode cX12_told 53 = .ok (.iaload, 1) := by decide +kernel
theorem dX12_told_54 : decode cX12_told 54 = .ok (.goto 37, 3) := by decide +kernel
theorem dX12_told_57 : decode cX12_told 57 = .ok (.iload_n 2, 1) := by decide +kernel
theorem dX12_told_58 : decode cX12_told 58 = .ok (.iconst 1, 1) := by decide +kernel
theorem dX12_told_59 : decode cX12_told 59 = .ok (.if_icmp .ne 12, 3) := by decide +kernel
theorem dX12_told_62 : decode cX12_told 62 = .ok (.aload_n 0, 1) := by decide +kernel
theorem dX12_told_63 : decode cX12_told 63 = .ok (.getfield 32, 3) := by decide +kernel
theorem dX12_told_66 : decode cX12_told 66 = .ok (.iload_n 1, 1) := by decide +kernel
theorem dX12_told_67 : decode cX12_told 67 = .ok (.iaload, 1) := by decide +kernel
theorem dX12_told_68 : decode cX12_told 68 = .ok (.goto 23, 3) := by decide +kernel
theorem dX12_told_71 : decode cX12_told 71 = .ok (.iload_n 2, 1) := by decide +kernel
theorem dX12_told_72 : decode cX12_told 72 = .ok (.iconst 2, 1) := by decide +kernel
theorem dX12_told_73 : decode cX12_told 73 = .ok (.if_icmp .ne 12, 3) := by decide +kernel
theorem dX12_told_76 : decode cX12_told 76 = .ok (.aload_n 0, 1) := by decide +kernel
theorem dX12_told_77 : decode cX12_told 77 = .ok (.getfield 35, 3) := by decide +kernel
theorem dX12_told_80 : decode cX12_told 80 = .ok (.iload_n 1, 1) := by decide +kernel
theorem dX12_told_81 : decode cX12_told 81 = .ok (.iaload, 1) := by decide +kernel
theorem dX12_told_82 : decode cX12_told 82 = .ok (.goto 9, 3) := by decide +kernel
theorem dX12_told_85 : decode cX12_told 85 = .ok (.aload_n 0, 1) := by decide +kernel
theorem dX12_told_86 : decode cX12_told 86 = .ok (.getfield 26, 3) := by decide +kernel
theorem dX12_told_89 : decode cX12_told 89 = .ok (.iload_n 1, 1) := by decide +kernel
theorem dX12_told_90 : decode cX12_told 90 = .ok (.iaload, 1) := by decide +kernel
theorem dX12_told_91 : decode cX12_told 91 = .ok (.ireturn, 1) := by decide +kernel
theorem dX12_told_92 : decode cX12_told 92 = .ok (.iload_n 2, 1) := by decide +kernel
theorem dX12_told_93 : decode cX12_told 93 = .ok (.iconst 4, 1) := by decide +kernel
theorem dX12_told_94 : decode cX12_told 94 = .ok (.if_icmp .ne 12, 3) := by decide +kernel
theorem dX12_told_97 : decode cX12_told 97 = .ok (.aload_n 0, 1) := by decide +kernel
theorem dX12_told_98 : decode cX12_told 98 = .ok (.getfield 38, 3) := by decide +kernel
theorem dX12_told_101 : decode cX12_told 101 = .ok (.iload_n 1, 1) := by decide +kernel
theorem dX12_told_102 : decode cX12_told 102 = .ok (.iaload, 1) := by decide +kernel
theorem dX12_told_103 : decode cX12_told 103 = .ok (.goto 38, 3) := by decide +kernel
theorem dX12_told_106 : decode cX12_told 106 = .ok (.iload_n 2, 1) := by decide +kernel
theorem dX12_told_107 : decode cX12_told 107 = .ok (.iconst 5, 1) := by decide +kernel
theorem dX12_told_108 : decode cX12_told 108 = .ok (.if_icmp .ne 12, 3) := by decide +kernel
theorem dX12_told_111 : decode cX12_told 111 = .ok (.aload_n 0, 1) := by decide +kernel
theorem dX12_told_112 : decode cX12_told 112 = .ok (.getfield 41, 3) := by decide +kernel
theorem dX12_told_115 : decode cX12_told 115 = .ok (.iload_n 1, 1) := by decide +kernel
theorem dX12_told_116 : decode cX12_told 116 = .ok (.iaload, 1) := by decide +kernel
theorem dX12_told_117 : decode cX12_told 117 = .ok (.goto 24, 3) := by decide +kernel
theorem dX12_told_120 : decode cX12_told 120 = .ok (.iload_n 2, 1) := by decide +kernel
theorem dX12_told_121 : decode cX12_told 121 = .ok (.bipush 6, 2) := by decide +kernel
theorem dX12_told_123 : decode cX12_told 123 = .ok (.if_icmp .ne 12, 3) := by decide +kernel
theorem dX12_told_126 : decode cX12_told 126 = .ok (.aload_n 0, 1) := by decide +kernel
theorem dX12_told_127 : decode cX12_told 127 = .ok (.getfield 44, 3) := by decide +kernel
theorem dX12_told_130 : decode cX12_told 130 = .ok (.iload_n 1, 1) := by decide +kernel
theorem dX12_told_131 : decode cX12_told 131 = .ok (.iaload, 1) := by decide +kernel
theorem dX12_told_132 : decode cX12_told 132 = .ok (.goto 9, 3) := by decide +kernel
theorem dX12_told_135 : decode cX12_told 135 = .ok (.aload_n 0, 1) := by decide +kernel
theorem dX12_told_136 : decode cX12_told 136 = .ok (.getfield 47, 3) := by decide +kernel
theorem dX12_told_139 : decode cX12_told 139 = .ok (.iload_n 1, 1) := by decide +kernel
theorem dX12_told_140 : decode cX12_told 140 = .ok (.iaload, 1) := by decide +kernel
theorem dX12_told_141 : decode cX12_told 141 = .ok (.ireturn, 1) := by decide +kernel
theorem dX12_whereAt_0 : decode cX12_whereAt 0 = .ok (.aload_n 0, 1) := by decide +kernel
theorem dX12_whereAt_1 : decode cX12_whereAt 1 = .ok (.getfield 26, 3) := by decide +kernel
theorem dX12_whereAt_4 : decode cX12_whereAt 4 = .ok (.iload_n 1, 1) := by decide +kernel
theorem dX12_whereAt_5 : decode cX12_whereAt 5 = .ok (.iaload, 1) := by decide +kernel
theorem dX12_whereAt_6 : decode cX12_whereAt 6 = .ok (.istore_n 3, 1) := by decide +kernel
theorem dX12_whereAt_7 : decode cX12_whereAt 7 = .ok (.iload_n 3, 1) := by decide +kernel
theorem dX12_whereAt_8 : decode cX12_whereAt 8 = .ok (.iconst 1, 1) := by decide +kernel
theorem dX12_whereAt_9 : decode cX12_whereAt 9 = .ok (.if_icmp .eq 8, 3) := by decide +kernel
theorem dX12_whereAt_12 : decode cX12_whereAt 12 = .ok (.iload_n 3, 1) := by decide +kernel
theorem dX12_whereAt_13 : decode cX12_whereAt 13 = .ok (.iconst 3, 1) := by decide +kernel
theorem dX12_whereAt_14 : decode cX12_whereAt 14 = .ok (.if_icmp .ne 15, 3) := by decide +kernel
theorem dX12_whereAt_17 : decode cX12_whereAt 17 = .ok (.iload_n 3, 1) := by decide +kernel
theorem dX12_whereAt_18 : decode cX12_whereAt 18 = .ok (.iconst 3, 1) := by decide +kernel
theorem dX12_whereAt_19 : decode cX12_whereAt 19 = .ok (.if_icmp .ne 17, 3) := by decide +kernel
theorem dX12_whereAt_22 : decode cX12_whereAt 22 = .ok (.iload_n 2, 1) := by decide +kernel
theorem dX12_whereAt_23 : decode cX12_whereAt 23 = .ok (.iconst 2, 1) := by decide +kernel
theorem dX12_whereAt_24 : decode cX12_whereAt 24 = .ok (.irem, 1) := by decide +kernel
theorem dX12_whereAt_25 : decode cX12_whereAt 25 = .ok (.iconst 1, 1) := by decide +kernel
theorem dX12_whereAt_26 : decode cX12_whereAt 26 = .ok (.if_icmp .ne 10, 3) := by decide +kernel
theorem dX12_whereAt_29 : decode cX12_whereAt 29 = .ok (.aload_n 0, 1) := by decide +kernel
theorem dX12_whereAt_30 : decode cX12_whereAt 30 = .ok (.getfield 29, 3) := by decide +kernel
theorem dX12_whereAt_33 : decode cX12_whereAt 33 = .ok (.iload_n 1, 1) := by decide +kernel
theorem dX12_whereAt_34 : decode cX12_whereAt 34 = .ok (.iaload, 1) := by decide +kernel
theorem dX12_whereAt_35 : decode cX12_whereAt 35 = .ok (.ireturn, 1) := by decide +kernel
theorem dX12_whereAt_36 : decode cX12_whereAt 36 = .ok (.aload_n 0, 1) := by decide +kernel
theorem dX12_whereAt_37 : decode cX12_whereAt 37 = .ok (.getfield 29, 3) := by decide +kernel
theorem dX12_whereAt_40 : decode cX12_whereAt 40 = .ok (.iload_n 1, 1) := by decide +kernel
theorem dX12_whereAt_41 : decode cX12_whereAt 41 = .ok (.iaload, 1) := by decide +kernel
theorem dX12_whereAt_42 : decode cX12_whereAt 42 = .ok (.bipush 6, 2) := by decide +kernel
theorem dX12_whereAt_44 : decode cX12_whereAt 44 = .ok (.idiv, 1) := by decide +kernel
theorem dX12_whereAt_45 : decode cX12_whereAt 45 = .ok (.bipush 6, 2) := by decide +kernel
theorem dX12_whereAt_47 : decode cX12_whereAt 47 = .ok (.imul, 1) := by decide +kernel
theorem dX12_whereAt_48 : decode cX12_whereAt 48 = .ok (.aload_n 0, 1) := by decide +kernel
theorem dX12_whereAt_49 : decode cX12_whereAt 49 = .ok (.getfield 29, 3) := by decide +kernel
theorem dX12_whereAt_52 : decode cX12_whereAt 52 = .ok (.iload_n 1, 1) := by decide +kernel
theorem dX12_whereAt_53 : decode cX12_whereAt 53 = .ok (.iaload, 1) := by decide +kernel
theorem dX12_whereAt_54 : decode cX12_whereAt 54 = .ok (.bipush 6, 2) := by decide +kernel
theorem dX12_whereAt_56 : decode cX12_whereAt 56 = .ok (.irem, 1) := by decide +kernel
theorem dX12_whereAt_57 : decode cX12_whereAt 57 = .ok (.iload_n 2, 1) := by decide +kernel
theorem dX12_whereAt_58 : decode cX12_whereAt 58 = .ok (.aload_n 0, 1) := by decide +kernel
theorem dX12_whereAt_59 : decode cX12_whereAt 59 = .ok (.getfield 35, 3) := by decide +kernel
theorem dX12_whereAt_62 : decode cX12_whereAt 62 = .ok (.iload_n 1, 1) := by decide +kernel
theorem dX12_whereAt_63 : decode cX12_whereAt 63 = .ok (.iaload, 1) := by decide +kernel
theorem dX12_whereAt_64 : decode cX12_whereAt 64 = .ok (.iconst 1, 1) := by decide +kernel
theorem dX12_whereAt_65 : decode cX12_whereAt 65 = .ok (.iadd, 1) := by decide +kernel
theorem dX12_whereAt_66 : decode cX12_whereAt 66 = .ok (.idiv, 1) := by decide +kernel
theorem dX12_whereAt_67 : decode cX12_whereAt 67 = .ok (.iadd, 1) := by decide +kernel
theorem dX12_whereAt_68 : decode cX12_whereAt 68 = .ok (.bipush 6, 2) := by decide +kernel
theorem dX12_whereAt_70 : decode cX12_whereAt 70 = .ok (.irem, 1) := by decide +kernel
theorem dX12_whereAt_71 : decode cX12_whereAt 71 = .ok (.iadd, 1) := by decide +kernel
theorem dX12_whereAt_72 : decode cX12_whereAt 72 = .ok (.ireturn, 1) := by decide +kernel
theorem dX12_where_0 : decode cX12_where 0 = .ok (.aload_n 0, 1) := by decide +kernel
theorem dX12_where_1 : decode cX12_where 1 = .ok (.iload_n 1, 1) := by decide +kernel
theorem dX12_where_2 : decode cX12_where 2 = .ok (.invokevirtual 136, 3) := by decide +kernel
theorem dX12_where_5 : decode cX12_where 5 = .ok (.ifCond .eq 24, 3) := by decide +kernel
theorem dX12_where_8 : decode cX12_where 8 = .ok (.iload_n 2, 1) := by decide +kernel
theorem dX12_where_9 : decode cX12_where 9 = .ok (.i2l, 1) := by decide +kernel
theorem dX12_where_10 : decode cX12_where 10 = .ok (.lconst 0, 1) := by decide +kernel
theorem dX12_where_11 : decode cX12_where 11 = .ok (.ldc2_w 144, 3) := by decide +kernel
theorem dX12_where_14 : decode cX12_where 14 = .ok (.invokestatic 109, 3) := by decide +kernel
theorem dX12_where_17 : decode cX12_where 17 = .ok (.ifCond .eq 12, 3) := by decide +kernel
theorem dX12_where_20 : decode cX12_where 20 = .ok (.aload_n 0, 1) := by decide +kernel
theorem dX12_where_21 : decode cX12_where 21 = .ok (.iload_n 1, 1) := by decide +kernel
theorem dX12_where_22 : decode cX12_where 22 = .ok (.iload_n 2, 1) := by decide +kernel
theorem dX12_where_23 : decode cX12_where 23 = .ok (.invokevirtual 148, 3) := by decide +kernel
theorem dX12_where_26 : decode cX12_where 26 = .ok (.goto 5, 3) := by decide +kernel
theorem dX12_where_29 : decode cX12_where 29 = .ok (.bipush (-2), 2) := by decide +kernel
theorem dX12_where_31 : decode cX12_where 31 = .ok (.ireturn, 1) := by decide +kernel
theorem dX12_shows_0 : decode cX12_shows 0 = .ok (.aload_n 0, 1) := by decide +kernel
theorem dX12_shows_1 : decode cX12_shows 1 = .ok (.getfield 26, 3) := by decide +kernel
theorem dX12_shows_4 : decode cX12_shows 4 = .ok (.iload_n 1, 1) := by decide +kernel
theorem dX12_shows_5 : decode cX12_shows 5 = .ok (.iaload, 1) := by decide +kernel
theorem dX12_shows_6 : decode cX12_shows 6 = .ok (.istore_n 3, 1) := by decide +kernel
theorem dX12_shows_7 : decode cX12_shows 7 = .ok (.iload_n 3, 1) := by decide +kernel
theorem dX12_shows_8 : decode cX12_shows 8 = .ok (.iconst 5, 1) := by decide +kernel
theorem dX12_shows_9 : decode cX12_shows 9 = .ok (.if_icmp .ne 18, 3) := by decide +kernel
theorem dX12_shows_12 : decode cX12_shows 12 = .ok (.aload_n 0, 1) := by decide +kernel
theorem dX12_shows_13 : decode cX12_shows 13 = .ok (.getfield 125, 3) := by decide +kernel
theorem dX12_shows_16 : decode cX12_shows 16 = .ok (.bipush 9, 2) := by decide +kernel
theorem dX12_shows_18 : decode cX12_shows 18 = .ok (.if_icmp .ge 7, 3) := by decide +kernel
theorem dX12_shows_21 : decode cX12_shows 21 = .ok (.iconst 1, 1) := by decide +kernel
theorem dX12_shows_22 : decode cX12_shows 22 = .ok (.goto 4, 3) := by decide +kernel
theorem dX12_shows_25 : decode cX12_shows 25 = .ok (.iconst 0, 1) := by decide +kernel
theorem dX12_shows_26 : decode cX12_shows 26 = .ok (.ireturn, 1) := by decide +kernel
theorem dX12_shows_27 : decode cX12_shows 27 = .ok (.iload_n 3, 1) := by decide +kernel
theorem dX12_shows_28 : decode cX12_shows 28 = .ok (.iconst 2, 1) := by decide +kernel
theorem dX12_shows_29 : decode cX12_shows 29 = .ok (.if_icmp .eq 8, 3) := by decide +kernel
theorem dX12_shows_32 : decode cX12_shows 32 = .ok (.iload_n 3, 1) := by decide +kernel
theorem dX12_shows_33 : decode cX12_shows 33 = .ok (.iconst 4, 1) := by decide +kernel
theorem dX12_shows_34 : decode cX12_shows 34 = .ok (.if_icmp .ne 29, 3) := by decide +kernel
theorem dX12_shows_37 : decode cX12_shows 37 = .ok (.iload_n 2, 1) := by decide +kernel
theorem dX12_shows_38 : decode cX12_shows 38 = .ok (.iconst 1, 1) := by decide +kernel
theorem dX12_shows_39 : decode cX12_shows 39 = .ok (.if_icmp .eq 18, 3) := by decide +kernel
theorem dX12_shows_42 : decode cX12_shows 42 = .ok (.iload_n 3, 1) := by decide +kernel
theorem dX12_shows_43 : decode cX12_shows 43 = .ok (.iconst 4, 1) := by decide +kernel
theorem dX12_shows_44 : decode cX12_shows 44 = .ok (.if_icmp .ne 17, 3) := by decide +kernel
theorem dX12_shows_47 : decode cX12_shows 47 = .ok (.iload_n 2, 1) := by decide +kernel
theorem dX12_shows_48 : decode cX12_shows 48 = .ok (.aload_n 0, 1) := by decide +kernel
theorem dX12_shows_49 : decode cX12_shows 49 = .ok (.getfield 35, 3) := by decide +kernel
theorem dX12_shows_52 : decode cX12_shows 52 = .ok (.iload_n 1, 1) := by decide +kernel
theorem dX12_shows_53 : decode cX12_shows 53 = .ok (.iaload, 1) := by decide +kernel
theorem dX12_shows_54 : decode cX12_shows 54 = .ok (.if_icmp .ne 7, 3) := by decide +kernel
theorem dX12_shows_57 : decode cX12_shows 57 = .ok (.iconst 1, 1) := by decide +kernel
theorem dX12_shows_58 : decode cX12_shows 58 = .ok (.goto 4, 3) := by decide +kernel
theorem dX12_shows_61 : decode cX12_shows 61 = .ok (.iconst 0, 1) := by decide +kernel
theorem dX12_shows_62 : decode cX12_shows 62 = .ok (.ireturn, 1) := by decide +kernel
theorem dX12_shows_63 : decode cX12_shows 63 = .ok (.iload_n 2, 1) := by decide +kernel
theorem dX12_shows_64 : decode cX12_shows 64 = .ok (.bipush 9, 2) := by decide +kernel
theorem dX12_shows_66 : decode cX12_shows 66 = .ok (.aload_n 0, 1) := by decide +kernel
theorem dX12_shows_67 : decode cX12_shows 67 = .ok (.getfield 125, 3) := by decide +kernel
theorem dX12_shows_70 : decode cX12_shows 70 = .ok (.isub, 1) := by decide +kernel
theorem dX12_shows_71 : decode cX12_shows 71 = .ok (.if_icmp .gt 17, 3) := by decide +kernel
theorem dX12_shows_74 : decode cX12_shows 74 = .ok (.iload_n 3, 1) := by decide +kernel
theorem dX12_shows_75 : decode cX12_shows 75 = .ok (.iconst 3, 1) := by decide +kernel
theorem dX12_shows_76 : decode cX12_shows 76 = .ok (.if_icmp .ne 8, 3) := by decide +kernel
theorem dX12_shows_79 : decode cX12_shows 79 = .ok (.iload_n 2, 1) := by decide +kernel
theorem dX12_shows_80 : decode cX12_shows 80 = .ok (.iconst 1, 1) := by decide +kernel
theorem dX12_shows_81 : decode cX12_shows 81 = .ok (.if_icmp .eq 7, 3) := by decide +kernel
theorem dX12_shows_84 : decode cX12_shows 84 = .ok (.iconst 1, 1) := by decide +kernel
theorem dX12_shows_85 : decode cX12_shows 85 = .ok (.goto 4, 3) := by decide +kernel
theorem dX12_shows_88 : decode cX12_shows 88 = .ok (.iconst 0, 1) := by decide +kernel
theorem dX12_shows_89 : decode cX12_shows 89 = .ok (.ireturn, 1) := by decide +kernel
theorem dX12_worthBy_0 : decode cX12_worthBy 0 = .ok (.aload_n 0, 1) := by decide +kernel
theorem dX12_worthBy_1 : decode cX12_worthBy 1 = .ok (.getfield 26, 3) := by decide +kernel
theorem dX12_worthBy_4 : decode cX12_worthBy 4 = .ok (.iload_n 1, 1) := by decide +kernel
theorem dX12_worthBy_5 : decode cX12_worthBy 5 = .ok (.iaload, 1) := by decide +kernel
theorem dX12_worthBy_6 : decode cX12_worthBy 6 = .ok (.istore 4, 2) := by decide +kernel
theorem dX12_worthBy_8 : decode cX12_worthBy 8 = .ok (.iload_n 2, 1) := by decide +kernel
theorem dX12_worthBy_9 : decode cX12_worthBy 9 = .ok (.istore 5, 2) := by decide +kernel
theorem dX12_worthBy_11 : decode cX12_worthBy 11 = .ok (.iload 4, 2) := by decide +kernel
theorem dX12_worthBy_13 : decode cX12_worthBy 13 = .ok (.iconst 1, 1) := by decide +kernel
theorem dX12_worthBy_14 : decode cX12_worthBy 14 = .ok (.if_icmp .ne 8, 3) := by decide +kernel
theorem dX12_worthBy_17 : decode cX12_worthBy 17 = .ok (.iload_n 2, 1) := by decide +kernel
theorem dX12_worthBy_18 : decode cX12_worthBy 18 = .ok (.iload_n 3, 1) := by decide +kernel
theorem dX12_worthBy_19 : decode cX12_worthBy 19 = .ok (.iadd, 1) := by decide +kernel
theorem dX12_worthBy_20 : decode cX12_worthBy 20 = .ok (.istore 5, 2) := by decide +kernel
theorem dX12_worthBy_22 : decode cX12_worthBy 22 = .ok (.iload 4, 2) := by decide +kernel
theorem dX12_worthBy_24 : decode cX12_worthBy 24 = .ok (.iconst 3, 1) := by decide +kernel
theorem dX12_worthBy_25 : decode cX12_worthBy 25 = .ok (.if_icmp .ne 10, 3) := by decide +kernel
theorem dX12_worthBy_28 : decode cX12_worthBy 28 = .ok (.iconst 2, 1) := by decide +kernel
theorem dX12_worthBy_29 : decode cX12_worthBy 29 = .ok (.iload_n 2, 1) := by decide +kernel
theorem dX12_worthBy_30 : decode cX12_worthBy 30 = .ok (.iload_n 3, 1) := by decide +kernel
theorem dX12_worthBy_31 : decode cX12_worthBy 31 = .ok (.iadd, 1) := by decide +kernel
theorem dX12_worthBy_32 : decode cX12_worthBy 32 = .ok (.imul, 1) := by decide +kernel
theorem dX12_worthBy_33 : decode cX12_worthBy 33 = .ok (.istore 5, 2) := by decide +kernel
theorem dX12_worthBy_35 : decode cX12_worthBy 35 = .ok (.iload 4, 2) := by decide +kernel
theorem dX12_worthBy_37 : decode cX12_worthBy 37 = .ok (.iconst 2, 1) := by decide +kernel
theorem dX12_worthBy_38 : decode cX12_worthBy 38 = .ok (.if_icmp .ne 8, 3) := by decide +kernel
theorem dX12_worthBy_41 : decode cX12_worthBy 41 = .ok (.iload_n 2, 1) := by decide +kernel
theorem dX12_worthBy_42 : decode cX12_worthBy 42 = .ok (.iconst 2, 1) := by decide +kernel
theorem dX12_worthBy_43 : decode cX12_worthBy 43 = .ok (.idiv, 1) := by decide +kernel
theorem dX12_worthBy_44 : decode cX12_worthBy 44 = .ok (.istore 5, 2) := by decide +kernel
theorem dX12_worthBy_46 : decode cX12_worthBy 46 = .ok (.iload 4, 2) := by decide +kernel
theorem dX12_worthBy_48 : decode cX12_worthBy 48 = .ok (.iconst 4, 1) := by decide +kernel
theorem dX12_worthBy_49 : decode cX12_worthBy 49 = .ok (.if_icmp .ne 15, 3) := by decide +kernel
theorem dX12_worthBy_52 : decode cX12_worthBy 52 = .ok (.iload_n 2, 1) := by decide +kernel
theorem dX12_worthBy_53 : decode cX12_worthBy 53 = .ok (.iconst 2, 1) := by decide +kernel
theorem dX12_worthBy_54 : decode cX12_worthBy 54 = .ok (.idiv, 1) := by decide +kernel
theorem dX12_worthBy_55 : decode cX12_worthBy 55 = .ok (.aload_n 0, 1) := by decide +kernel
theorem dX12_worthBy_56 : decode cX12_worthBy 56 = .ok (.getfield 35, 3) := by decide +kernel
theorem dX12_worthBy_59 : decode cX12_worthBy 59 = .ok (.iload_n 1, 1) := by decide +kernel
theorem dX12_worthBy_60 : decode cX12_worthBy 60 = .ok (.iaload, 1) := by decide +kernel
theorem dX12_worthBy_61 : decode cX12_worthBy 61 = .ok (.iadd, 1) := by decide +kernel
theorem dX12_worthBy_62 : decode cX12_worthBy 62 = .ok (.istore 5, 2) := by decide +kernel
theorem dX12_worthBy_64 : decode cX12_worthBy 64 = .ok (.iload 4, 2) := by decide +kernel
theorem dX12_worthBy_66 : decode cX12_worthBy 66 = .ok (.iconst 5, 1) := by decide +kernel
theorem dX12_worthBy_67 : decode cX12_worthBy 67 = .ok (.if_icmp .ne 8, 3) := by decide +kernel
theorem dX12_worthBy_70 : decode cX12_worthBy 70 = .ok (.iload_n 2, 1) := by decide +kernel
theorem dX12_worthBy_71 : decode cX12_worthBy 71 = .ok (.iload_n 3, 1) := by decide +kernel
theorem dX12_worthBy_72 : decode cX12_worthBy 72 = .ok (.isub, 1) := by decide +kernel
theorem dX12_worthBy_73 : decode cX12_worthBy 73 = .ok (.istore 5, 2) := by decide +kernel
theorem dX12_worthBy_75 : decode cX12_worthBy 75 = .ok (.iload 5, 2) := by decide +kernel
theorem dX12_worthBy_77 : decode cX12_worthBy 77 = .ok (.ifCond .ge 7, 3) := by decide +kernel
theorem dX12_worthBy_80 : decode cX12_worthBy 80 = .ok (.iconst 0, 1) := by decide +kernel
theorem dX12_worthBy_81 : decode cX12_worthBy 81 = .ok (.goto 5, 3) := by decide +kernel
theorem dX12_worthBy_84 : decode cX12_worthBy 84 = .ok (.iload 5, 2) := by decide +kernel
theorem dX12_worthBy_86 : decode cX12_worthBy 86 = .ok (.ireturn, 1) := by decide +kernel
theorem dX12_feed_0 : decode cX12_feed 0 = .ok (.iload_n 1, 1) := by decide +kernel
theorem dX12_feed_1 : decode cX12_feed 1 = .ok (.i2l, 1) := by decide +kernel
theorem dX12_feed_2 : decode cX12_feed 2 = .ok (.lconst 0, 1) := by decide +kernel
theorem dX12_feed_3 : decode cX12_feed 3 = .ok (.ldc2_w 152, 3) := by decide +kernel
theorem dX12_feed_6 : decode cX12_feed 6 = .ok (.invokestatic 109, 3) := by decide +kernel
theorem dX12_feed_9 : decode cX12_feed 9 = .ok (.ifCond .ne 6, 3) := by decide +kernel
theorem dX12_feed_12 : decode cX12_feed 12 = .ok (.bipush (-2), 2) := by decide +kernel
theorem dX12_feed_14 : decode cX12_feed 14 = .ok (.ireturn, 1) := by decide +kernel
theorem dX12_feed_15 : decode cX12_feed 15 = .ok (.aload_n 0, 1) := by decide +kernel
theorem dX12_feed_16 : decode cX12_feed 16 = .ok (.getfield 154, 3) := by decide +kernel
theorem dX12_feed_19 : decode cX12_feed 19 = .ok (.sipush 160, 3) := by decide +kernel
theorem dX12_feed_22 : decode cX12_feed 22 = .ok (.if_icmp .ne 6, 3) := by decide +kernel
theorem dX12_feed_25 : decode cX12_feed 25 = .ok (.bipush (-4), 2) := by decide +kernel
theorem dX12_feed_27 : decode cX12_feed 27 = .ok (.ireturn, 1) := by decide +kernel
theorem dX12_feed_28 : decode cX12_feed 28 = .ok (.aload_n 0, 1) := by decide +kernel
theorem dX12_feed_29 : decode cX12_feed 29 = .ok (.getfield 20, 3) := by decide +kernel
theorem dX12_feed_32 : decode cX12_feed 32 = .ok (.aload_n 0, 1) := by decide +kernel
theorem dX12_feed_33 : decode cX12_feed 33 = .ok (.getfield 154, 3) := by decide +kernel
theorem dX12_feed_36 : decode cX12_feed 36 = .ok (.iload_n 1, 1) := by decide +kernel
theorem dX12_feed_37 : decode cX12_feed 37 = .ok (.iastore, 1) := by decide +kernel
theorem dX12_feed_38 : decode cX12_feed 38 = .ok (.aload_n 0, 1) := by decide +kernel
theorem dX12_feed_39 : decode cX12_feed 39 = .ok (.dup, 1) := by decide +kernel
theorem dX12_feed_40 : decode cX12_feed 40 = .ok (.getfield 154, 3) := by decide +kernel
theorem dX12_feed_43 : decode cX12_feed 43 = .ok (.iconst 1, 1) := by decide +kernel
theorem dX12_feed_44 : decode cX12_feed 44 = .ok (.iadd, 1) := by decide +kernel
theorem dX12_feed_45 : decode cX12_feed 45 = .ok (.putfield 154, 3) := by decide +kernel
theorem dX12_feed_48 : decode cX12_feed 48 = .ok (.aload_n 0, 1) := by decide +kernel
theorem dX12_feed_49 : decode cX12_feed 49 = .ok (.getfield 154, 3) := by decide +kernel
theorem dX12_feed_52 : decode cX12_feed 52 = .ok (.ireturn, 1) := by decide +kernel
theorem dX12_byteAt_0 : decode cX12_byteAt 0 = .ok (.iload_n 1, 1) := by decide +kernel
theorem dX12_byteAt_1 : decode cX12_byteAt 1 = .ok (.aload_n 0, 1) := by decide +kernel
theorem dX12_byteAt_2 : decode cX12_byteAt 2 = .ok (.getfield 157, 3) := by decide +kernel
theorem dX12_byteAt_5 : decode cX12_byteAt 5 = .ok (.if_icmp .ge 17, 3) := by decide +kernel
theorem dX12_byteAt_8 : decode cX12_byteAt 8 = .ok (.aload_n 0, 1) := by decide +kernel
theorem dX12_byteAt_9 : decode cX12_byteAt 9 = .ok (.getfield 13, 3) := by decide +kernel
theorem dX12_byteAt_12 : decode cX12_byteAt 12 = .ok (.aload_n 0, 1) := by decide +kernel
theorem dX12_byteAt_13 : decode cX12_byteAt 13 = .ok (.getfield 160, 3) := by decide +kernel
theorem dX12_byteAt_16 : decode cX12_byteAt 16 = .ok (.iload_n 1, 1) := by decide +kernel
theorem dX12_byteAt_17 : decode cX12_byteAt 17 = .ok (.iadd, 1) := by decide +kernel
theorem dX12_byteAt_18 : decode cX12_byteAt 18 = .ok (.iaload, 1) := by decide +kernel
theorem dX12_byteAt_19 : decode cX12_byteAt 19 = .ok (.goto 4, 3) := by decide +kernel
theorem dX12_byteAt_22 : decode cX12_byteAt 22 = .ok (.iconst (-1), 1) := by decide +kernel
theorem dX12_byteAt_23 : decode cX12_byteAt 23 = .ok (.ireturn, 1) := by decide +kernel
theorem dX12_nextToken_0 : decode cX12_nextToken 0 = .ok (.aload_n 0, 1) := by decide +kernel
theorem dX12_nextToken_1 : decode cX12_nextToken 1 = .ok (.aload_n 0, 1) := by decide +kernel
theorem dX12_nextToken_2 : decode cX12_nextToken 2 = .ok (.getfield 163, 3) := by decide +kernel
theorem dX12_nextToken_5 : decode cX12_nextToken 5 = .ok (.invokevirtual 166, 3) := by decide +kernel
theorem dX12_nextToken_8 : decode cX12_nextToken 8 = .ok (.bipush 32, 2) := by decide +kernel
theorem dX12_nextToken_10 : decode cX12_nextToken 10 = .ok (.if_icmp .eq 16, 3) := by decide +kernel
theorem dX12_nextToken_13 : decode cX12_nextToken 13 = .ok (.aload_n 0, 1) := by decide +kernel
theorem dX12_nextToken_14 : decode cX12_nextToken 14 = .ok (.aload_n 0, 1) := by decide +kernel
theorem dX12_nextToken_15 : decode cX12_nextToken 15 = .ok (.getfield 163, 3) := by decide +kernel
theorem dX12_nextToken_18 : decode cX12_nextToken 18 = .ok (.invokevirtual 166, 3) := by decide +kernel
theorem dX12_nextToken_21 : decode cX12_nextToken 21 = .ok (.bipush 10, 2) := by decide +kernel
theorem dX12_nextToken_23 : decode cX12_nextToken 23 = .ok (.if_icmp .ne 16, 3) := by decide +kernel
theorem dX12_nextToken_26 : decode cX12_nextToken 26 = .ok (.aload_n 0, 1) := by decide +kernel
theorem dX12_nextToken_27 : decode cX12_nextToken 27 = .ok (.dup, 1) := by decide +kernel
theorem dX12_nextToken_28 : decode cX12_nextToken 28 = .ok (.getfield 163, 3) := by decide +kernel
theorem dX12_nextToken_31 : decode cX12_nextToken 31 = .ok (.iconst 1, 1) := by decide +kernel
theorem dX12_nextToken_32 : decode cX12_nextToken 32 = .ok (.iadd, 1) := by decide +kernel
theorem dX12_nextToken_33 : decode cX12_nextToken 33 = .ok (.putfield 163, 3) := by decide +kernel
theorem dX12_nextToken_36 : decode cX12_nextToken 36 = .ok (.goto (-36), 3) := by decide +kernel
theorem dX12_nextToken_39 : decode cX12_nextToken 39 = .ok (.aload_n 0, 1) := by decide +kernel
theorem dX12_nextToken_40 : decode cX12_nextToken 40 = .ok (.aload_n 0, 1) := by decide +kernel
theorem dX12_nextToken_41 : decode cX12_nextToken 41 = .ok (.getfield 163, 3) := by decide +kernel
theorem dX12_nextToken_44 : decode cX12_nextToken 44 = .ok (.putfield 170, 3) := by decide +kernel
theorem dX12_nextToken_47 : decode cX12_nextToken 47 = .ok (.aload_n 0, 1) := by decide +kernel
theorem dX12_nextToken_48 : decode cX12_nextToken 48 = .ok (.aload_n 0, 1) := by decide +kernel
theorem dX12_nextToken_49 : decode cX12_nextToken 49 = .ok (.getfield 163, 3) := by decide +kernel
theorem dX12_nextToken_52 : decode cX12_nextToken 52 = .ok (.invokevirtual 166, 3) := by decide +kernel
theorem dX12_nextToken_55 : decode cX12_nextToken 55 = .ok (.istore_n 1, 1) := by decide +kernel
theorem dX12_nextToken_56 : decode cX12_nextToken 56 = .ok (.aload_n 0, 1) := by decide +kernel
theorem dX12_nextToken_57 : decode cX12_nextToken 57 = .ok (.iconst 4, 1) := by decide +kernel
theorem dX12_nextToken_58 : decode cX12_nextToken 58 = .ok (.putfield 173, 3) := by decide +kernel
theorem dX12_nextToken_61 : decode cX12_nextToken 61 = .ok (.iload_n 1, 1) := by decide +kernel
theorem dX12_nextToken_62 : decode cX12_nextToken 62 = .ok (.ifCond .ge 19, 3) := by decide +kernel
theorem dX12_nextToken_65 : decode cX12_nextToken 65 = .ok (.aload_n 0, 1) := by decide +kernel
theorem dX12_nextToken_66 : decode cX12_nextToken 66 = .ok (.iconst 0, 1) := by decide +kernel
theorem dX12_nextToken_67 : decode cX12_nextToken 67 = .ok (.putfield 173, 3) := by decide +kernel
theorem dX12_nextToken_70 : decode cX12_nextToken 70 = .ok (.aload_n 0, 1) := by decide +kernel
theorem dX12_nextToken_71 : decode cX12_nextToken 71 = .ok (.aload_n 0, 1) := by decide +kernel
theorem dX12_nextToken_72 : decode cX12_nextToken 72 = .ok (.getfield 157, 3) := by decide +kernel
theorem dX12_nextToken_75 : decode cX12_nextToken 75 = .ok (.putfield 170, 3) := by decide +kernel
theorem dX12_nextToken_78 : decode cX12_nextToken 78 = .ok (.goto 243, 3) := by decide +kernel
theorem dX12_nextToken_81 : decode cX12_nextToken 81 = .ok (.iload_n 1, 1) := by decide +kernel
theorem dX12_nextToken_82 : decode cX12_nextToken 82 = .ok (.i2l, 1) := by decide +kernel
theorem dX12_nextToken_83 : decode cX12_nextToken 83 = .ok (.ldc2_w 176, 3) := by decide +kernel
theorem dX12_nextToken_86 : decode cX12_nextToken 86 = .ok (.ldc2_w 178, 3) := by decide +kernel
theorem dX12_nextToken_89 : decode cX12_nextToken 89 = .ok (.invokestatic 109, 3) := by decide +kernel
theorem dX12_nextToken_92 : decode cX12_nextToken 92 = .ok (.ifCond .eq 42, 3) := by decide +kernel
theorem dX12_nextToken_95 : decode cX12_nextToken 95 = .ok (.aload_n 0, 1) := by decide +kernel
theorem dX12_nextToken_96 : decode cX12_nextToken 96 = .ok (.iconst 1, 1) := by decide +kernel
theorem dX12_nextToken_97 : decode cX12_nextToken 97 = .ok (.putfield 173, 3) := by decide +kernel
theorem dX12_nextToken_100 : decode cX12_nextToken 100 = .ok (.aload_n 0, 1) := by decide +kernel
theorem dX12_nextToken_101 : decode cX12_nextToken 101 = .ok (.aload_n 0, 1) := by decide +kernel
theorem dX12_nextToken_102 : decode cX12_nextToken 102 = .ok (.getfield 163, 3) := by decide +kernel
theorem dX12_nextToken_105 : decode cX12_nextToken 105 = .ok (.invokevirtual 166, 3) := by decide +kernel
theorem dX12_nextToken_108 : decode cX12_nextToken 108 = .ok (.i2l, 1) := by decide +kernel
theorem dX12_nextToken_109 : decode cX12_nextToken 109 = .ok (.ldc2_w 176, 3) := by decide +kernel
theorem dX12_nextToken_112 : decode cX12_nextToken 112 = .ok (.ldc2_w 178, 3) := by decide +kernel
theorem dX12_nextToken_115 : decode cX12_nextToken 115 = .ok (.invokestatic 109, 3) := by decide +kernel
theorem dX12_nextToken_118 : decode cX12_nextToken 118 = .ok (.ifCond .eq 203, 3) := by decide +kernel
theorem dX12_nextToken_121 : decode cX12_nextToken 121 = .ok (.aload_n 0, 1) := by decide +kernel
theorem dX12_nextToken_122 : decode cX12_nextToken 122 = .ok (.dup, 1) := by decide +kernel
theorem dX12_nextToken_123 : decode cX12_nextToken 123 = .ok (.getfield 163, 3) := by decide +kernel
theorem dX12_nextToken_126 : decode cX12_nextToken 126 = .ok (.iconst 1, 1) := by decide +kernel
theorem dX12_nextToken_127 : decode cX12_nextToken 127 = .ok (.iadd, 1) := by decide +kernel
theorem dX12_nextToken_128 : decode cX12_nextToken 128 = .ok (.putfield 163, 3) := by decide +kernel
theorem dX12_nextToken_131 : decode cX12_nextToken 131 = .ok (.goto (-31), 3) := by decide +kernel
theorem dX12_nextToken_134 : decode cX12_nextToken 134 = .ok (.iload_n 1, 1) := by decide +kernel
theorem dX12_nextToken_135 : decode cX12_nextToken 135 = .ok (.i2l, 1) := by decide +kernel
theorem dX12_nextToken_136 : decode cX12_nextToken 136 = .ok (.ldc2_w 180, 3) := by decide +kernel
theorem dX12_nextToken_139 : decode cX12_nextToken 139 = .ok (.ldc2_w 182, 3) := by decide +kernel
theorem dX12_nextToken_142 : decode cX12_nextToken 142 = .ok (.invokestatic 109, 3) := by decide +kernel
theorem dX12_nextToken_145 : decode cX12_nextToken 145 = .ok (.ifCond .eq 107, 3) := by decide +kernel
theorem dX12_nextToken_148 : decode cX12_nextToken 148 = .ok (.aload_n 0, 1) := by decide +kernel
theorem dX12_nextToken_149 : decode cX12_nextToken 149 = .ok (.iconst 2, 1) := by decide +kernel
theorem dX12_nextToken_150 : decode cX12_nextToken 150 = .ok (.putfield 173, 3) := by decide +kernel
theorem dX12_nextToken_153 : decode cX12_nextToken 153 = .ok (.aload_n 0, 1) := by decide +kernel
theorem dX12_nextToken_154 : decode cX12_nextToken 154 = .ok (.lconst 0, 1) := by decide +kernel
theorem dX12_nextToken_155 : decode cX12_nextToken 155 = .ok (.putfield 184, 3) := by decide +kernel
theorem dX12_nextToken_158 : decode cX12_nextToken 158 = .ok (.iconst 0, 1) := by decide +kernel
theorem dX12_nextToken_159 : decode cX12_nextToken 159 = .ok (.istore_n 2, 1) := by decide +kernel
theorem dX12_nextToken_160 : decode cX12_nextToken 160 = .ok (.aload_n 0, 1) := by decide +kernel
theorem dX12_nextToken_161 : decode cX12_nextToken 161 = .ok (.aload_n 0, 1) := by decide +kernel
theorem dX12_nextToken_162 : decode cX12_nextToken 162 = .ok (.getfield 163, 3) := by decide +kernel
theorem dX12_nextToken_165 : decode cX12_nextToken 165 = .ok (.invokevirtual 166, 3) := by decide +kernel
theorem dX12_nextToken_168 : decode cX12_nextToken 168 = .ok (.i2l, 1) := by decide +kernel
theorem dX12_nextToken_169 : decode cX12_nextToken 169 = .ok (.ldc2_w 180, 3) := by decide +kernel
theorem dX12_nextToken_172 : decode cX12_nextToken 172 = .ok (.ldc2_w 182, 3) := by decide +kernel
theorem dX12_nextToken_175 : decode cX12_nextToken 175 = .ok (.invokestatic 109, 3) := by decide +kernel
theorem dX12_nextToken_178 : decode cX12_nextToken 178 = .ok (.ifCond .eq 57, 3) := by decide +kernel
theorem dX12_nextToken_181 : decode cX12_nextToken 181 = .ok (.aload_n 0, 1) := by decide +kernel
theorem dX12_nextToken_182 : decode cX12_nextToken 182 = .ok (.iload_n 2, 1) := by decide +kernel
theorem dX12_nextToken_183 : decode cX12_nextToken 183 = .ok (.iconst 4, 1) := by decide +kernel
theorem dX12_nextToken_184 : decode cX12_nextToken 184 = .ok (.if_icmp .ge 28, 3) := by decide +kernel
theorem dX12_nextToken_187 : decode cX12_nextToken 187 = .ok (.ldc2_w 188, 3) := by decide +kernel
theorem dX12_nextToken_190 : decode cX12_nextToken 190 = .ok (.aload_n 0, 1) := by decide +kernel
theorem dX12_nextToken_191 : decode cX12_nextToken 191 = .ok (.getfield 184, 3) := by decide +kernel
theorem dX12_nextToken_194 : decode cX12_nextToken 194 = .ok (.lmul, 1) := by decide +kernel
theorem dX12_nextToken_195 : decode cX12_nextToken 195 = .ok (.aload_n 0, 1) := by decide +kernel
theorem dX12_nextToken_196 : decode cX12_nextToken 196 = .ok (.aload_n 0, 1) := by decide +kernel
theorem dX12_nextToken_197 : decode cX12_nextToken 197 = .ok (.getfield 163, 3) := by decide +kernel
theorem dX12_nextToken_200 : decode cX12_nextToken 200 = .ok (.invokevirtual 166, 3) := by decide +kernel
theorem dX12_nextToken_203 : decode cX12_nextToken 203 = .ok (.i2l, 1) := by decide +kernel
theorem dX12_nextToken_204 : decode cX12_nextToken 204 = .ok (.ladd, 1) := by decide +kernel
theorem dX12_nextToken_205 : decode cX12_nextToken 205 = .ok (.ldc2_w 180, 3) := by decide +kernel
theorem dX12_nextToken_208 : decode cX12_nextToken 208 = .ok (.lsub, 1) := by decide +kernel
theorem dX12_nextToken_209 : decode cX12_nextToken 209 = .ok (.goto 7, 3) := by decide +kernel
theorem dX12_nextToken_212 : decode cX12_nextToken 212 = .ok (.aload_n 0, 1) := by decide +kernel
theorem dX12_nextToken_213 : decode cX12_nextToken 213 = .ok (.getfield 184, 3) := by decide +kernel
theorem dX12_nextToken_216 : decode cX12_nextToken 216 = .ok (.putfield 184, 3) := by decide +kernel
theorem dX12_nextToken_219 : decode cX12_nextToken 219 = .ok (.iinc 2 1, 3) := by decide +kernel
theorem dX12_nextToken_222 : decode cX12_nextToken 222 = .ok (.aload_n 0, 1) := by decide +kernel
theorem dX12_nextToken_223 : decode cX12_nextToken 223 = .ok (.dup, 1) := by decide +kernel
theorem dX12_nextToken_224 : decode cX12_nextToken 224 = .ok (.getfield 163, 3) := by decide +kernel
theorem dX12_nextToken_227 : decode cX12_nextToken 227 = .ok (.iconst 1, 1) := by decide +kernel
theorem dX12_nextToken_228 : decode cX12_nextToken 228 = .ok (.iadd, 1) := by decide +kernel
theorem dX12_nextToken_229 : decode cX12_nextToken 229 = .ok (.putfield 163, 3) := by decide +kernel
theorem dX12_nextToken_232 : decode cX12_nextToken 232 = .ok (.goto (-72), 3) := by decide +kernel
theorem dX12_nextToken_235 : decode cX12_nextToken 235 = .ok (.aload_n 0, 1) := by decide +kernel
theorem dX12_nextToken_236 : decode cX12_nextToken 236 = .ok (.iload_n 2, 1) := by decide +kernel
theorem dX12_nextToken_237 : decode cX12_nextToken 237 = .ok (.iconst 4, 1) := by decide +kernel
theorem dX12_nextToken_238 : decode cX12_nextToken 238 = .ok (.if_icmp .le 7, 3) := by decide +kernel
theorem dX12_nextToken_241 : decode cX12_nextToken 241 = .ok (.iconst 4, 1) := by decide +kernel
theorem dX12_nextToken_242 : decode cX12_nextToken 242 = .ok (.goto 4, 3) := by decide +kernel
theorem dX12_nextToken_245 : decode cX12_nextToken 245 = .ok (.iconst 2, 1) := by decide +kernel
theorem dX12_nextToken_246 : decode cX12_nextToken 246 = .ok (.putfield 173, 3) := by decide +kernel
theorem dX12_nextToken_249 : decode cX12_nextToken 249 = .ok (.goto 72, 3) := by decide +kernel
theorem dX12_nextToken_252 : decode cX12_nextToken 252 = .ok (.iload_n 1, 1) := by decide +kernel
theorem dX12_nextToken_253 : decode cX12_nextToken 253 = .ok (.bipush 40, 2) := by decide +kernel
theorem dX12_nextToken_255 : decode cX12_nextToken 255 = .ok (.if_icmp .eq 45, 3) := by decide +kernel
theorem dX12_nextToken_258 : decode cX12_nextToken 258 = .ok (.iload_n 1, 1) := by decide +kernel
theorem dX12_nextToken_259 : decode cX12_nextToken 259 = .ok (.bipush 41, 2) := by decide +kernel
theorem dX12_nextToken_261 : decode cX12_nextToken 261 = .ok (.if_icmp .eq 39, 3) := by decide +kernel
theorem dX12_nextToken_264 : decode cX12_nextToken 264 = .ok (.iload_n 1, 1) := by decide +kernel
theorem dX12_nextToken_265 : decode cX12_nextToken 265 = .ok (.bipush 59, 2) := by decide +kernel
theorem dX12_nextToken_267 : decode cX12_nextToken 267 = .ok (.if_icmp .eq 33, 3) := by decide +kernel
theorem dX12_nextToken_270 : decode cX12_nextToken 270 = .ok (.iload_n 1, 1) := by decide +kernel
theorem dX12_nextToken_271 : decode cX12_nextToken 271 = .ok (.bipush 43, 2) := by decide +kernel
theorem dX12_nextToken_273 : decode cX12_nextToken 273 = .ok (.if_icmp .eq 27, 3) := by decide +kernel
theorem dX12_nextToken_276 : decode cX12_nextToken 276 = .ok (.iload_n 1, 1) := by decide +kernel
theorem dX12_nextToken_277 : decode cX12_nextToken 277 = .ok (.bipush 45, 2) := by decide +kernel
theorem dX12_nextToken_279 : decode cX12_nextToken 279 = .ok (.if_icmp .eq 21, 3) := by decide +kernel
theorem dX12_nextToken_282 : decode cX12_nextToken 282 = .ok (.iload_n 1, 1) := by decide +kernel
theorem dX12_nextToken_283 : decode cX12_nextToken 283 = .ok (.bipush 42, 2) := by decide +kernel
theorem dX12_nextToken_285 : decode cX12_nextToken 285 = .ok (.if_icmp .eq 15, 3) := by decide +kernel
theorem dX12_nextToken_288 : decode cX12_nextToken 288 = .ok (.iload_n 1, 1) := by decide +kernel
theorem dX12_nextToken_289 : decode cX12_nextToken 289 = .ok (.bipush 60, 2) := by decide +kernel
theorem dX12_nextToken_291 : decode cX12_nextToken 291 = .ok (.if_icmp .eq 9, 3) := by decide +kernel
theorem dX12_nextToken_294 : decode cX12_nextToken 294 = .ok (.iload_n 1, 1) := by decide +kernel
theorem dX12_nextToken_295 : decode cX12_nextToken 295 = .ok (.bipush 61, 2) := by decide +kernel
theorem dX12_nextToken_297 : decode cX12_nextToken 297 = .ok (.if_icmp .ne 24, 3) := by decide +kernel
theorem dX12_nextToken_300 : decode cX12_nextToken 300 = .ok (.aload_n 0, 1) := by decide +kernel
theorem dX12_nextToken_301 : decode cX12_nextToken 301 = .ok (.iconst 3, 1) := by decide +kernel
theorem dX12_nextToken_302 : decode cX12_nextToken 302 = .ok (.putfield 173, 3) := by decide +kernel
theorem dX12_nextToken_305 : decode cX12_nextToken 305 = .ok (.aload_n 0, 1) := by decide +kernel
theorem dX12_nextToken_306 : decode cX12_nextToken 306 = .ok (.iload_n 1, 1) := by decide +kernel
theorem dX12_nextToken_307 : decode cX12_nextToken 307 = .ok (.i2l, 1) := by decide +kernel
theorem dX12_nextToken_308 : decode cX12_nextToken 308 = .ok (.putfield 184, 3) := by decide +kernel
theorem dX12_nextToken_311 : decode cX12_nextToken 311 = .ok (.aload_n 0, 1) := by decide +kernel
theorem dX12_nextToken_312 : decode cX12_nextToken 312 = .ok (.dup, 1) := by decide +kernel
theorem dX12_nextToken_313 : decode cX12_nextToken 313 = .ok (.getfield 163, 3) := by decide +kernel
theorem dX12_nextToken_316 : decode cX12_nextToken 316 = .ok (.iconst 1, 1) := by decide +kernel
theorem dX12_nextToken_317 : decode cX12_nextToken 317 = .ok (.iadd, 1) := by decide +kernel
theorem dX12_nextToken_318 : decode cX12_nextToken 318 = .ok (.putfield 163, 3) := by decide +kernel
theorem dX12_nextToken_321 : decode cX12_nextToken 321 = .ok (.return_, 1) := by decide +kernel
theorem dX12_fail_0 : decode cX12_fail 0 = .ok (.aload_n 0, 1) := by decide +kernel
theorem dX12_fail_1 : decode cX12_fail 1 = .ok (.getfield 190, 3) := by decide +kernel
theorem dX12_fail_4 : decode cX12_fail 4 = .ok (.ifCond .ne 16, 3) := by decide +kernel
theorem dX12_fail_7 : decode cX12_fail 7 = .ok (.aload_n 0, 1) := by decide +kernel
theorem dX12_fail_8 : decode cX12_fail 8 = .ok (.iconst 1, 1) := by decide +kernel
theorem dX12_fail_9 : decode cX12_fail 9 = .ok (.putfield 190, 3) := by decide +kernel
theorem dX12_fail_12 : decode cX12_fail 12 = .ok (.aload_n 0, 1) := by decide +kernel
theorem dX12_fail_13 : decode cX12_fail 13 = .ok (.aload_n 0, 1) := by decide +kernel
theorem dX12_fail_14 : decode cX12_fail 14 = .ok (.getfield 170, 3) := by decide +kernel
theorem dX12_fail_17 : decode cX12_fail 17 = .ok (.putfield 194, 3) := by decide +kernel
theorem dX12_fail_20 : decode cX12_fail 20 = .ok (.return_, 1) := by decide +kernel
theorem dX12_isLetter_0 : decode cX12_isLetter 0 = .ok (.aload_n 0, 1) := by decide +kernel
theorem dX12_isLetter_1 : decode cX12_isLetter 1 = .ok (.getfield 170, 3) := by decide +kernel
theorem dX12_isLetter_4 : decode cX12_isLetter 4 = .ok (.iload_n 1, 1) := by decide +kernel
theorem dX12_isLetter_5 : decode cX12_isLetter 5 = .ok (.iadd, 1) := by decide +kernel
theorem dX12_isLetter_6 : decode cX12_isLetter 6 = .ok (.aload_n 0, 1) := by decide +kernel
theorem dX12_isLetter_7 : decode cX12_isLetter 7 = .ok (.getfield 163, 3) := by decide +kernel
theorem dX12_isLetter_10 : decode cX12_isLetter 10 = .ok (.if_icmp .ge 25, 3) := by decide +kernel
theorem dX12_isLetter_13 : decode cX12_isLetter 13 = .ok (.aload_n 0, 1) := by decide +kernel
theorem dX12_isLetter_14 : decode cX12_isLetter 14 = .ok (.aload_n 0, 1) := by decide +kernel
theorem dX12_isLetter_15 : decode cX12_isLetter 15 = .ok (.getfield 170, 3) := by decide +kernel
theorem dX12_isLetter_18 : decode cX12_isLetter 18 = .ok (.iload_n 1, 1) := by decide +kernel
theorem dX12_isLetter_19 : decode cX12_isLetter 19 = .ok (.iadd, 1) := by decide +kernel
theorem dX12_isLetter_20 : decode cX12_isLetter 20 = .ok (.invokevirtual 166, 3) := by decide +kernel
theorem dX12_isLetter_23 : decode cX12_isLetter 23 = .ok (.iload_n 2, 1) := by decide +kernel
theorem dX12_isLetter_24 : decode cX12_isLetter 24 = .ok (.if_icmp .ne 7, 3) := by decide +kernel
theorem dX12_isLetter_27 : decode cX12_isLetter 27 = .ok (.iconst 1, 1) := by decide +kernel
theorem dX12_isLetter_28 : decode cX12_isLetter 28 = .ok (.goto 16, 3) := by decide +kernel
theorem dX12_isLetter_31 : decode cX12_isLetter 31 = .ok (.iconst 0, 1) := by decide +kernel
theorem dX12_isLetter_32 : decode cX12_isLetter 32 = .ok (.goto 12, 3) := by decide +kernel
theorem dX12_isLetter_35 : decode cX12_isLetter 35 = .ok (.iload_n 2, 1) := by decide +kernel
theorem dX12_isLetter_36 : decode cX12_isLetter 36 = .ok (.ifCond .ne 7, 3) := by decide +kernel
theorem dX12_isLetter_39 : decode cX12_isLetter 39 = .ok (.iconst 1, 1) := by decide +kernel
theorem dX12_isLetter_40 : decode cX12_isLetter 40 = .ok (.goto 4, 3) := by decide +kernel
theorem dX12_isLetter_43 : decode cX12_isLetter 43 = .ok (.iconst 0, 1) := by decide +kernel
theorem dX12_isLetter_44 : decode cX12_isLetter 44 = .ok (.ireturn, 1) := by decide +kernel
theorem dX12_isWord_0 : decode cX12_isWord 0 = .ok (.aload_n 0, 1) := by decide +kernel
theorem dX12_isWord_1 : decode cX12_isWord 1 = .ok (.getfield 190, 3) := by decide +kernel
theorem dX12_isWord_4 : decode cX12_isWord 4 = .ok (.ifCond .ne 108, 3) := by decide +kernel
theorem dX12_isWord_7 : decode cX12_isWord 7 = .ok (.aload_n 0, 1) := by decide +kernel
theorem dX12_isWord_8 : decode cX12_isWord 8 = .ok (.getfield 173, 3) := by decide +kernel
theorem dX12_isWord_11 : decode cX12_isWord 11 = .ok (.iconst 1, 1) := by decide +kernel
theorem dX12_isWord_12 : decode cX12_isWord 12 = .ok (.if_icmp .ne 100, 3) := by decide +kernel
theorem dX12_isWord_15 : decode cX12_isWord 15 = .ok (.aload_n 0, 1) := by decide +kernel
theorem dX12_isWord_16 : decode cX12_isWord 16 = .ok (.getfield 163, 3) := by decide +kernel
theorem dX12_isWord_19 : decode cX12_isWord 19 = .ok (.aload_n 0, 1) := by decide +kernel
theorem dX12_isWord_20 : decode cX12_isWord 20 = .ok (.getfield 170, 3) := by decide +kernel
theorem dX12_isWord_23 : decode cX12_isWord 23 = .ok (.bipush 8, 2) := by decide +kernel
theorem dX12_isWord_25 : decode cX12_isWord 25 = .ok (.iadd, 1) := by decide +kernel
theorem dX12_isWord_26 : decode cX12_isWord 26 = .ok (.if_icmp .gt 86, 3) := by decide +kernel
theorem dX12_isWord_29 : decode cX12_isWord 29 = .ok (.aload_n 0, 1) := by decide +kernel
theorem dX12_isWord_30 : decode cX12_isWord 30 = .ok (.iconst 0, 1) := by decide +kernel
theorem dX12_isWord_31 : decode cX12_isWord 31 = .ok (.iload_n 1, 1) := by decide +kernel
theorem dX12_isWord_32 : decode cX12_isWord 32 = .ok (.invokevirtual 197, 3) := by decide +kernel
theorem dX12_isWord_35 : decode cX12_isWord 35 = .ok (.ifCond .eq 77, 3) := by decide +kernel
theorem dX12_isWord_38 : decode cX12_isWord 38 = .ok (.aload_n 0, 1) := by decide +kernel
theorem dX12_isWord_39 : decode cX12_isWord 39 = .ok (.iconst 1, 1) := by decide +kernel
theorem dX12_isWord_40 : decode cX12_isWord 40 = .ok (.iload_n 2, 1) := by decide +kernel
theorem dX12_isWord_41 : decode cX12_isWord 41 = .ok (.invokevirtual 197, 3) := by decide +kernel
theorem dX12_isWord_44 : decode cX12_isWord 44 = .ok (.ifCond .eq 68, 3) := by decide +kernel
theorem dX12_isWord_47 : decode cX12_isWord 47 = .ok (.aload_n 0, 1) := by decide +kernel
theorem dX12_isWord_48 : decode cX12_isWord 48 = .ok (.iconst 2, 1) := by decide +kernel
theorem dX12_isWord_49 : decode cX12_isWord 49 = .ok (.iload_n 3, 1) := by decide +kernel
theorem dX12_isWord_50 : decode cX12_isWord 50 = .ok (.invokevirtual 197, 3) := by decide +kernel
theorem dX12_isWord_53 : decode cX12_isWord 53 = .ok (.ifCond .eq 59, 3) := by decide +kernel
theorem dX12_isWord_56 : decode cX12_isWord 56 = .ok (.aload_n 0, 1) := by decide +kernel
theorem dX12_isWord_57 : decode cX12_isWord 57 = .ok (.iconst 3, 1) := by decide +kernel
theorem dX12_isWord_58 : decode cX12_isWord 58 = .ok (.iload 4, 2) := by decide +kernel
theorem dX12_isWord_60 : decode cX12_isWord 60 = .ok (.invokevirtual 197, 3) := by decide +kernel
theorem dX12_isWord_63 : decode cX12_isWord 63 = .ok (.ifCond .eq 49, 3) := by decide +kernel
theorem dX12_isWord_66 : decode cX12_isWord 66 = .ok (.aload_n 0, 1) := by decide +kernel
theorem dX12_isWord_67 : decode cX12_isWord 67 = .ok (.iconst 4, 1) := by decide +kernel
theorem dX12_isWord_68 : decode cX12_isWord 68 = .ok (.iload 5, 2) := by decide +kernel
theorem dX12_isWord_70 : decode cX12_isWord 70 = .ok (.invokevirtual 197, 3) := by decide +kernel
theorem dX12_isWord_73 : decode cX12_isWord 73 = .ok (.ifCond .eq 39, 3) := by decide +kernel
theorem dX12_isWord_76 : decode cX12_isWord 76 = .ok (.aload_n 0, 1) := by decide +kernel
theorem dX12_isWord_77 : decode cX12_isWord 77 = .ok (.iconst 5, 1) := by decide +kernel
theorem dX12_isWord_78 : decode cX12_isWord 78 = .ok (.iload 6, 2) := by decide +kernel
theorem dX12_isWord_80 : decode cX12_isWord 80 = .ok (.invokevirtual 197, 3) := by decide +kernel
theorem dX12_isWord_83 : decode cX12_isWord 83 = .ok (.ifCond .eq 29, 3) := by decide +kernel
theorem dX12_isWord_86 : decode cX12_isWord 86 = .ok (.aload_n 0, 1) := by decide +kernel
theorem dX12_isWord_87 : decode cX12_isWord 87 = .ok (.bipush 6, 2) := by decide +kernel
theorem dX12_isWord_89 : decode cX12_isWord 89 = .ok (.iload 7, 2) := by decide +kernel
theorem dX12_isWord_91 : decode cX12_isWord 91 = .ok (.invokevirtual 197, 3) := by decide +kernel
theorem dX12_isWord_94 : decode cX12_isWord 94 = .ok (.ifCond .eq 18, 3) := by decide +kernel
theorem dX12_isWord_97 : decode cX12_isWord 97 = .ok (.aload_n 0, 1) := by decide +kernel
theorem dX12_isWord_98 : decode cX12_isWord 98 = .ok (.bipush 7, 2) := by decide +kernel
theorem dX12_isWord_100 : decode cX12_isWord 100 = .ok (.iload 8, 2) := by decide +kernel
theorem dX12_isWord_102 : decode cX12_isWord 102 = .ok (.invokevirtual 197, 3) := by decide +kernel
theorem dX12_isWord_105 : decode cX12_isWord 105 = .ok (.ifCond .eq 7, 3) := by decide +kernel
theorem dX12_isWord_108 : decode cX12_isWord 108 = .ok (.iconst 1, 1) := by decide +kernel
theorem dX12_isWord_109 : decode cX12_isWord 109 = .ok (.goto 4, 3) := by decide +kernel
theorem dX12_isWord_112 : decode cX12_isWord 112 = .ok (.iconst 0, 1) := by decide +kernel
theorem dX12_isWord_113 : decode cX12_isWord 113 = .ok (.ireturn, 1) := by decide +kernel
theorem dX12_isSign_0 : decode cX12_isSign 0 = .ok (.aload_n 0, 1) := by decide +kernel
theorem dX12_isSign_1 : decode cX12_isSign 1 = .ok (.getfield 190, 3) := by decide +kernel
theorem dX12_isSign_4 : decode cX12_isSign 4 = .ok (.ifCond .ne 25, 3) := by decide +kernel
theorem dX12_isSign_7 : decode cX12_isSign 7 = .ok (.aload_n 0, 1) := by decide +kernel
theorem dX12_isSign_8 : decode cX12_isSign 8 = .ok (.getfield 173, 3) := by decide +kernel
theorem dX12_isSign_11 : decode cX12_isSign 11 = .ok (.iconst 3, 1) := by decide +kernel
theorem dX12_isSign_12 : decode cX12_isSign 12 = .ok (.if_icmp .ne 17, 3) := by decide +kernel
theorem dX12_isSign_15 : decode cX12_isSign 15 = .ok (.aload_n 0, 1) := by decide +kernel
theorem dX12_isSign_16 : decode cX12_isSign 16 = .ok (.getfield 184, 3) := by decide +kernel
theorem dX12_isSign_19 : decode cX12_isSign 19 = .ok (.iload_n 1, 1) := by decide +kernel
theorem dX12_isSign_20 : decode cX12_isSign 20 = .ok (.i2l, 1) := by decide +kernel
theorem dX12_isSign_21 : decode cX12_isSign 21 = .ok (.lcmp, 1) := by decide +kernel
theorem dX12_isSign_22 : decode cX12_isSign 22 = .ok (.ifCond .ne 7, 3) := by decide +kernel
theorem dX12_isSign_25 : decode cX12_isSign 25 = .ok (.iconst 1, 1) := by decide +kernel
theorem dX12_isSign_26 : decode cX12_isSign 26 = .ok (.goto 4, 3) := by decide +kernel
theorem dX12_isSign_29 : decode cX12_isSign 29 = .ok (.iconst 0, 1) := by decide +kernel
theorem dX12_isSign_30 : decode cX12_isSign 30 = .ok (.ireturn, 1) := by decide +kernel
theorem dX12_opens_0 : decode cX12_opens 0 = .ok (.aload_n 0, 1) := by decide +kernel
theorem dX12_opens_1 : decode cX12_opens 1 = .ok (.getfield 201, 3) := by decide +kernel
theorem dX12_opens_4 : decode cX12_opens 4 = .ok (.iconst 5, 1) := by decide +kernel
theorem dX12_opens_5 : decode cX12_opens 5 = .ok (.if_icmp .ne 9, 3) := by decide +kernel
theorem dX12_opens_8 : decode cX12_opens 8 = .ok (.aload_n 0, 1) := by decide +kernel
theorem dX12_opens_9 : decode cX12_opens 9 = .ok (.invokevirtual 204, 3) := by decide +kernel
theorem dX12_opens_12 : decode cX12_opens 12 = .ok (.iconst 0, 1) := by decide +kernel
theorem dX12_opens_13 : decode cX12_opens 13 = .ok (.ireturn, 1) := by decide +kernel
theorem dX12_opens_14 : decode cX12_opens 14 = .ok (.aload_n 0, 1) := by decide +kernel
theorem dX12_opens_15 : decode cX12_opens 15 = .ok (.dup, 1) := by decide +kernel
theorem dX12_opens_16 : decode cX12_opens 16 = .ok (.getfield 201, 3) := by decide +kernel
theorem dX12_opens_19 : decode cX12_opens 19 = .ok (.iconst 1, 1) := by decide +kernel
theorem dX12_opens_20 : decode cX12_opens 20 = .ok (.iadd, 1) := by decide +kernel
theorem dX12_opens_21 : decode cX12_opens 21 = .ok (.putfield 201, 3) := by decide +kernel
theorem dX12_opens_24 : decode cX12_opens 24 = .ok (.aload_n 0, 1) := by decide +kernel
theorem dX12_opens_25 : decode cX12_opens 25 = .ok (.invokevirtual 207, 3) := by decide +kernel
theorem dX12_opens_28 : decode cX12_opens 28 = .ok (.iconst 1, 1) := by decide +kernel
theorem dX12_opens_29 : decode cX12_opens 29 = .ok (.ireturn, 1) := by decide +kernel
theorem dX12_name_0 : decode cX12_name 0 = .ok (.aload_n 0, 1) := by decide +kernel
theorem dX12_name_1 : decode cX12_name 1 = .ok (.bipush 102, 2) := by decide +kernel
theorem dX12_name_3 : decode cX12_name 3 = .ok (.bipush 97, 2) := by decide +kernel
theorem dX12_name_5 : decode cX12_name 5 = .ok (.bipush 114, 2) := by decide +kernel
theorem dX12_name_7 : decode cX12_name 7 = .ok (.iconst 0, 1) := by decide +kernel
theorem dX12_name_8 : decode cX12_name 8 = .ok (.iconst 0, 1) := by decide +kernel
theorem dX12_name_9 : decode cX12_name 9 = .ok (.iconst 0, 1) := by decide +kernel
theorem dX12_name_10 : decode cX12_name 10 = .ok (.iconst 0, 1) := by decide +kernel
theorem dX12_name_11 : decode cX12_name 11 = .ok (.iconst 0, 1) := by decide +kernel
theorem dX12_name_12 : decode cX12_name 12 = .ok (.invokevirtual 210, 3) := by decide +kernel
theorem dX12_name_15 : decode cX12_name 15 = .ok (.ifCond .eq 8, 3) := by decide +kernel
theorem dX12_name_18 : decode cX12_name 18 = .ok (.aload_n 0, 1) := by decide +kernel
theorem dX12_name_19 : decode cX12_name 19 = .ok (.getfield 214, 3) := by decide +kernel
theorem dX12_name_22 : decode cX12_name 22 = .ok (.ireturn, 1) := by decide +kernel
theorem dX12_name_23 : decode cX12_name 23 = .ok (.aload_n 0, 1) := by decide +kernel
theorem dX12_name_24 : decode cX12_name 24 = .ok (.bipush 109, 2) := by decide +kernel
theorem dX12_name_26 : decode cX12_name 26 = .ok (.bipush 105, 2) := by decide +kernel
theorem dX12_name_28 : decode cX12_name 28 = .ok (.bipush 110, 2) := by decide +kernel
theorem dX12_name_30 : decode cX12_name 30 = .ok (.bipush 117, 2) := by decide +kernel
theorem dX12_name_32 : decode cX12_name 32 = .ok (.bipush 116, 2) := by decide +kernel
theorem dX12_name_34 : decode cX12_name 34 = .ok (.bipush 101, 2) := by decide +kernel
theorem dX12_name_36 : decode cX12_name 36 = .ok (.iconst 0, 1) := by decide +kernel
theorem dX12_name_37 : decode cX12_name 37 = .ok (.iconst 0, 1) := by decide +kernel
theorem dX12_name_38 : decode cX12_name 38 = .ok (.invokevirtual 210, 3) := by decide +kernel
theorem dX12_name_41 : decode cX12_name 41 = .ok (.ifCond .eq 8, 3) := by decide +kernel
theorem dX12_name_44 : decode cX12_name 44 = .ok (.aload_n 0, 1) := by decide +kernel
theorem dX12_name_45 : decode cX12_name 45 = .ok (.getfield 217, 3) := by decide +kernel
theorem dX12_name_48 : decode cX12_name 48 = .ok (.ireturn, 1) := by decide +kernel
theorem dX12_name_49 : decode cX12_name 49 = .ok (.aload_n 0, 1) := by decide +kernel
theorem dX12_name_50 : decode cX12_name 50 = .ok (.bipush 102, 2) := by decide +kernel
theorem dX12_name_52 : decode cX12_name 52 = .ok (.bipush 111, 2) := by decide +kernel
theorem dX12_name_54 : decode cX12_name 54 = .ok (.bipush 103, 2) := by decide +kernel
theorem dX12_name_56 : decode cX12_name 56 = .ok (.iconst 0, 1) := by decide +kernel
theorem dX12_name_57 : decode cX12_name 57 = .ok (.iconst 0, 1) := by decide +kernel
theorem dX12_name_58 : decode cX12_name 58 = .ok (.iconst 0, 1) := by decide +kernel
theorem dX12_name_59 : decode cX12_name 59 = .ok (.iconst 0, 1) := by decide +kernel
theorem dX12_name_60 : decode cX12_name 60 = .ok (.iconst 0, 1) := by decide +kernel
theorem dX12_name_61 : decode cX12_name 61 = .ok (.invokevirtual 210, 3) := by decide +kernel
theorem dX12_name_64 : decode cX12_name 64 = .ok (.ifCond .eq 8, 3) := by decide +kernel
theorem dX12_name_67 : decode cX12_name 67 = .ok (.aload_n 0, 1) := by decide +kernel
theorem dX12_name_68 : decode cX12_name 68 = .ok (.getfield 220, 3) := by decide +kernel
theorem dX12_name_71 : decode cX12_name 71 = .ok (.ireturn, 1) := by decide +kernel
theorem dX12_name_72 : decode cX12_name 72 = .ok (.aload_n 0, 1) := by decide +kernel
theorem dX12_name_73 : decode cX12_name 73 = .ok (.bipush 104, 2) := by decide +kernel
theorem dX12_name_75 : decode cX12_name 75 = .ok (.bipush 105, 2) := by decide +kernel
theorem dX12_name_77 : decode cX12_name 77 = .ok (.bipush 103, 2) := by decide +kernel
theorem dX12_name_79 : decode cX12_name 79 = .ok (.bipush 104, 2) := by decide +kernel
theorem dX12_name_81 : decode cX12_name 81 = .ok (.iconst 0, 1) := by decide +kernel
theorem dX12_name_82 : decode cX12_name 82 = .ok (.iconst 0, 1) := by decide +kernel
theorem dX12_name_83 : decode cX12_name 83 = .ok (.iconst 0, 1) := by decide +kernel
theorem dX12_name_84 : decode cX12_name 84 = .ok (.iconst 0, 1) := by decide +kernel
theorem dX12_name_85 : decode cX12_name 85 = .ok (.invokevirtual 210, 3) := by decide +kernel
theorem dX12_name_88 : decode cX12_name 88 = .ok (.ifCond .eq 8, 3) := by decide +kernel
theorem dX12_name_91 : decode cX12_name 91 = .ok (.aload_n 0, 1) := by decide +kernel
theorem dX12_name_92 : decode cX12_name 92 = .ok (.getfield 223, 3) := by decide +kernel
theorem dX12_name_95 : decode cX12_name 95 = .ok (.ireturn, 1) := by decide +kernel
theorem dX12_name_96 : decode cX12_name 96 = .ok (.aload_n 0, 1) := by decide +kernel
theorem dX12_name_97 : decode cX12_name 97 = .ok (.bipush 111, 2) := by decide +kernel
theorem dX12_name_99 : decode cX12_name 99 = .ok (.bipush 110, 2) := by decide +kernel
theorem dX12_name_101 : decode cX12_name 101 = .ok (.bipush 101, 2) := by decide +kernel
theorem dX12_name_103 : decode cX12_name 103 = .ok (.iconst 0, 1) := by decide +kernel
theorem dX12_name_104 : decode cX12_name 104 = .ok (.iconst 0, 1) := by decide +kernel
theorem dX12_name_105 : decode cX12_name 105 = .ok (.iconst 0, 1) := by decide +kernel
theorem dX12_name_106 : decode cX12_name 106 = .ok (.iconst 0, 1) := by decide +kernel
theorem dX12_name_107 : decode cX12_name 107 = .ok (.iconst 0, 1) := by decide +kernel
theorem dX12_name_108 : decode cX12_name 108 = .ok (.invokevirtual 210, 3) := by decide +kernel
theorem dX12_name_111 : decode cX12_name 111 = .ok (.ifCond .eq 8, 3) := by decide +kernel
theorem dX12_name_114 : decode cX12_name 114 = .ok (.aload_n 0, 1) := by decide +kernel
theorem dX12_name_115 : decode cX12_name 115 = .ok (.getfield 226, 3) := by decide +kernel
theorem dX12_name_118 : decode cX12_name 118 = .ok (.ireturn, 1) := by decide +kernel
theorem dX12_name_119 : decode cX12_name 119 = .ok (.aload_n 0, 1) := by decide +kernel
theorem dX12_name_120 : decode cX12_name 120 = .ok (.bipush 116, 2) := by decide +kernel
theorem dX12_name_122 : decode cX12_name 122 = .ok (.bipush 104, 2) := by decide +kernel
theorem dX12_name_124 : decode cX12_name 124 = .ok (.bipush 105, 2) := by decide +kernel
theorem dX12_name_126 : decode cX12_name 126 = .ok (.bipush 110, 2) := by decide +kernel
theorem dX12_name_128 : decode cX12_name 128 = .ok (.bipush 103, 2) := by decide +kernel
theorem dX12_name_130 : decode cX12_name 130 = .ok (.iconst 0, 1) := by decide +kernel
theorem dX12_name_131 : decode cX12_name 131 = .ok (.iconst 0, 1) := by decide +kernel
theorem dX12_name_132 : decode cX12_name 132 = .ok (.iconst 0, 1) := by decide +kernel
theorem dX12_name_133 : decode cX12_name 133 = .ok (.invokevirtual 210, 3) := by decide +kernel
theorem dX12_name_136 : decode cX12_name 136 = .ok (.ifCond .eq 8, 3) := by decide +kernel
theorem dX12_name_139 : decode cX12_name 139 = .ok (.aload_n 0, 1) := by decide +kernel
theorem dX12_name_140 : decode cX12_name 140 = .ok (.getfield 229, 3) := by decide +kernel
theorem dX12_name_143 : decode cX12_name 143 = .ok (.ireturn, 1) := by decide +kernel
theorem dX12_name_144 : decode cX12_name 144 = .ok (.aload_n 0, 1) := by decide +kernel
theorem dX12_name_145 : decode cX12_name 145 = .ok (.invokevirtual 204, 3) := by decide +kernel
theorem dX12_name_148 : decode cX12_name 148 = .ok (.iconst 0, 1) := by decide +kernel
theorem dX12_name_149 : decode cX12_name 149 = .ok (.ireturn, 1) := by decide +kernel
theorem dX12_atom_0 : decode cX12_atom 0 = .ok (.iconst 0, 1) := by decide +kernel
theorem dX12_atom_1 : decode cX12_atom 1 = .ok (.istore_n 1, 1) := by decide +kernel
theorem dX12_atom_2 : decode cX12_atom 2 = .ok (.aload_n 0, 1) := by decide +kernel
theorem dX12_atom_3 : decode cX12_atom 3 = .ok (.bipush 45, 2) := by decide +kernel
theorem dX12_atom_5 : decode cX12_atom 5 = .ok (.invokevirtual 232, 3) := by decide +kernel
theorem dX12_atom_8 : decode cX12_atom 8 = .ok (.ifCond .eq 29, 3) := by decide +kernel
theorem dX12_atom_11 : decode cX12_atom 11 = .ok (.aload_n 0, 1) := by decide +kernel
theorem dX12_atom_12 : decode cX12_atom 12 = .ok (.invokevirtual 235, 3) := by decide +kernel
theorem dX12_atom_15 : decode cX12_atom 15 = .ok (.ifCond .eq 146, 3) := by decide +kernel
theorem dX12_atom_18 : decode cX12_atom 18 = .ok (.aload_n 0, 1) := by decide +kernel
theorem dX12_atom_19 : decode cX12_atom 19 = .ok (.invokevirtual 239, 3) := by decide +kernel
theorem dX12_atom_22 : decode cX12_atom 22 = .ok (.ineg, 1) := by decide +kernel
theorem dX12_atom_23 : decode cX12_atom 23 = .ok (.istore_n 1, 1) := by decide +kernel
theorem dX12_atom_24 : decode cX12_atom 24 = .ok (.aload_n 0, 1) := by decide +kernel
theorem dX12_atom_25 : decode cX12_atom 25 = .ok (.dup, 1) := by decide +kernel
theorem dX12_atom_26 : decode cX12_atom 26 = .ok (.getfield 201, 3) := by decide +kernel
theorem dX12_atom_29 : decode cX12_atom 29 = .ok (.iconst 1, 1) := by decide +kernel
theorem dX12_atom_30 : decode cX12_atom 30 = .ok (.isub, 1) := by decide +kernel
theorem dX12_atom_31 : decode cX12_atom 31 = .ok (.putfield 201, 3) := by decide +kernel
theorem dX12_atom_34 : decode cX12_atom 34 = .ok (.goto 127, 3) := by decide +kernel
theorem dX12_atom_37 : decode cX12_atom 37 = .ok (.aload_n 0, 1) := by decide +kernel
theorem dX12_atom_38 : decode cX12_atom 38 = .ok (.bipush 40, 2) := by decide +kernel
theorem dX12_atom_40 : decode cX12_atom 40 = .ok (.invokevirtual 232, 3) := by decide +kernel
theorem dX12_atom_43 : decode cX12_atom 43 = .ok (.ifCond .eq 52, 3) := by decide +kernel
theorem dX12_atom_46 : decode cX12_atom 46 = .ok (.aload_n 0, 1) := by decide +kernel
theorem dX12_atom_47 : decode cX12_atom 47 = .ok (.invokevirtual 235, 3) := by decide +kernel
theorem dX12_atom_50 : decode cX12_atom 50 = .ok (.ifCond .eq 111, 3) := by decide +kernel
theorem dX12_atom_53 : decode cX12_atom 53 = .ok (.aload_n 0, 1) := by decide +kernel
theorem dX12_atom_54 : decode cX12_atom 54 = .ok (.invokevirtual 243, 3) := by decide +kernel
theorem dX12_atom_57 : decode cX12_atom 57 = .ok (.istore_n 1, 1) := by decide +kernel
theorem dX12_atom_58 : decode cX12_atom 58 = .ok (.aload_n 0, 1) := by decide +kernel
theorem dX12_atom_59 : decode cX12_atom 59 = .ok (.bipush 41, 2) := by decide +kernel
theorem dX12_atom_61 : decode cX12_atom 61 = .ok (.invokevirtual 232, 3) := by decide +kernel
theorem dX12_atom_64 : decode cX12_atom 64 = .ok (.ifCond .ne 7, 3) := by decide +kernel
theorem dX12_atom_67 : decode cX12_atom 67 = .ok (.aload_n 0, 1) := by decide +kernel
theorem dX12_atom_68 : decode cX12_atom 68 = .ok (.invokevirtual 204, 3) := by decide +kernel
theorem dX12_atom_71 : decode cX12_atom 71 = .ok (.aload_n 0, 1) := by decide +kernel
theorem dX12_atom_72 : decode cX12_atom 72 = .ok (.dup, 1) := by decide +kernel
theorem dX12_atom_73 : decode cX12_atom 73 = .ok (.getfield 201, 3) := by decide +kernel
theorem dX12_atom_76 : decode cX12_atom 76 = .ok (.iconst 1, 1) := by decide +kernel
theorem dX12_atom_77 : decode cX12_atom 77 = .ok (.isub, 1) := by decide +kernel
theorem dX12_atom_78 : decode cX12_atom 78 = .ok (.putfield 201, 3) := by decide +kernel
theorem dX12_atom_81 : decode cX12_atom 81 = .ok (.aload_n 0, 1) := by decide +kernel
theorem dX12_atom_82 : decode cX12_atom 82 = .ok (.getfield 190, 3) := by decide +kernel
theorem dX12_atom_85 : decode cX12_atom 85 = .ok (.ifCond .ne 76, 3) := by decide +kernel
theorem dX12_atom_88 : decode cX12_atom 88 = .ok (.aload_n 0, 1) := by decide +kernel
theorem dX12_atom_89 : decode cX12_atom 89 = .ok (.invokevirtual 207, 3) := by decide +kernel
theorem dX12_atom_92 : decode cX12_atom 92 = .ok (.goto 69, 3) := by decide +kernel
theorem dX12_atom_95 : decode cX12_atom 95 = .ok (.aload_n 0, 1) := by decide +kernel
theorem dX12_atom_96 : decode cX12_atom 96 = .ok (.getfield 190, 3) := by decide +kernel
theorem dX12_atom_99 : decode cX12_atom 99 = .ok (.ifCond .ne 24, 3) := by decide +kernel
theorem dX12_atom_102 : decode cX12_atom 102 = .ok (.aload_n 0, 1) := by decide +kernel
theorem dX12_atom_103 : decode cX12_atom 103 = .ok (.getfield 173, 3) := by decide +kernel
theorem dX12_atom_106 : decode cX12_atom 106 = .ok (.iconst 2, 1) := by decide +kernel
theorem dX12_atom_107 : decode cX12_atom 107 = .ok (.if_icmp .ne 16, 3) := by decide +kernel
theorem dX12_atom_110 : decode cX12_atom 110 = .ok (.aload_n 0, 1) := by decide +kernel
theorem dX12_atom_111 : decode cX12_atom 111 = .ok (.getfield 184, 3) := by decide +kernel
theorem dX12_atom_114 : decode cX12_atom 114 = .ok (.l2i, 1) := by decide +kernel
theorem dX12_atom_115 : decode cX12_atom 115 = .ok (.istore_n 1, 1) := by decide +kernel
theorem dX12_atom_116 : decode cX12_atom 116 = .ok (.aload_n 0, 1) := by decide +kernel
theorem dX12_atom_117 : decode cX12_atom 117 = .ok (.invokevirtual 207, 3) := by decide +kernel
theorem dX12_atom_120 : decode cX12_atom 120 = .ok (.goto 41, 3) := by decide +kernel
theorem dX12_atom_123 : decode cX12_atom 123 = .ok (.aload_n 0, 1) := by decide +kernel
theorem dX12_atom_124 : decode cX12_atom 124 = .ok (.getfield 190, 3) := by decide +kernel
theorem dX12_atom_127 : decode cX12_atom 127 = .ok (.ifCond .ne 30, 3) := by decide +kernel
theorem dX12_atom_130 : decode cX12_atom 130 = .ok (.aload_n 0, 1) := by decide +kernel
theorem dX12_atom_131 : decode cX12_atom 131 = .ok (.getfield 173, 3) := by decide +kernel
theorem dX12_atom_134 : decode cX12_atom 134 = .ok (.iconst 1, 1) := by decide +kernel
theorem dX12_atom_135 : decode cX12_atom 135 = .ok (.if_icmp .ne 22, 3) := by decide +kernel
theorem dX12_atom_138 : decode cX12_atom 138 = .ok (.aload_n 0, 1) := by decide +kernel
theorem dX12_atom_139 : decode cX12_atom 139 = .ok (.invokevirtual 246, 3) := by decide +kernel
theorem dX12_atom_142 : decode cX12_atom 142 = .ok (.istore_n 1, 1) := by decide +kernel
theorem dX12_atom_143 : decode cX12_atom 143 = .ok (.aload_n 0, 1) := by decide +kernel
theorem dX12_atom_144 : decode cX12_atom 144 = .ok (.getfield 190, 3) := by decide +kernel
theorem dX12_atom_147 : decode cX12_atom 147 = .ok (.ifCond .ne 14, 3) := by decide +kernel
theorem dX12_atom_150 : decode cX12_atom 150 = .ok (.aload_n 0, 1) := by decide +kernel
theorem dX12_atom_151 : decode cX12_atom 151 = .ok (.invokevirtual 207, 3) := by decide +kernel
theorem dX12_atom_154 : decode cX12_atom 154 = .ok (.goto 7, 3) := by decide +kernel
theorem dX12_atom_157 : decode cX12_atom 157 = .ok (.aload_n 0, 1) := by decide +kernel
theorem dX12_atom_158 : decode cX12_atom 158 = .ok (.invokevirtual 204, 3) := by decide +kernel
theorem dX12_atom_161 : decode cX12_atom 161 = .ok (.iload_n 1, 1) := by decide +kernel
theorem dX12_atom_162 : decode cX12_atom 162 = .ok (.ireturn, 1) := by decide +kernel
theorem dX12_term_0 : decode cX12_term 0 = .ok (.aload_n 0, 1) := by decide +kernel
theorem dX12_term_1 : decode cX12_term 1 = .ok (.invokevirtual 239, 3) := by decide +kernel
theorem dX12_term_4 : decode cX12_term 4 = .ok (.istore_n 1, 1) := by decide +kernel
theorem dX12_term_5 : decode cX12_term 5 = .ok (.aload_n 0, 1) := by decide +kernel
theorem dX12_term_6 : decode cX12_term 6 = .ok (.bipush 42, 2) := by decide +kernel
theorem dX12_term_8 : decode cX12_term 8 = .ok (.invokevirtual 232, 3) := by decide +kernel
theorem dX12_term_11 : decode cX12_term 11 = .ok (.ifCond .eq 17, 3) := by decide +kernel
theorem dX12_term_14 : decode cX12_term 14 = .ok (.aload_n 0, 1) := by decide +kernel
theorem dX12_term_15 : decode cX12_term 15 = .ok (.invokevirtual 207, 3) := by decide +kernel
theorem dX12_term_18 : decode cX12_term 18 = .ok (.iload_n 1, 1) := by decide +kernel
theorem dX12_term_19 : decode cX12_term 19 = .ok (.aload_n 0, 1) := by decide +kernel
theorem dX12_term_20 : decode cX12_term 20 = .ok (.invokevirtual 239, 3) := by decide +kernel
theorem dX12_term_23 : decode cX12_term 23 = .ok (.imul, 1) := by decide +kernel
theorem dX12_term_24 : decode cX12_term 24 = .ok (.istore_n 1, 1) := by decide +kernel
theorem dX12_term_25 : decode cX12_term 25 = .ok (.goto (-20), 3) := by decide +kernel
theorem dX12_term_28 : decode cX12_term 28 = .ok (.iload_n 1, 1) := by decide +kernel
theorem dX12_term_29 : decode cX12_term 29 = .ok (.ireturn, 1) := by decide +kernel
theorem dX12_added_0 : decode cX12_added 0 = .ok (.aload_n 0, 1) := by decide +kernel
theorem dX12_added_1 : decode cX12_added 1 = .ok (.invokevirtual 249, 3) := by decide +kernel
theorem dX12_added_4 : decode cX12_added 4 = .ok (.istore_n 1, 1) := by decide +kernel
theorem dX12_added_5 : decode cX12_added 5 = .ok (.aload_n 0, 1) := by decide +kernel
theorem dX12_added_6 : decode cX12_added 6 = .ok (.bipush 43, 2) := by decide +kernel
theorem dX12_added_8 : decode cX12_added 8 = .ok (.invokevirtual 232, 3) := by decide +kernel
theorem dX12_added_11 : decode cX12_added 11 = .ok (.ifCond .ne 12, 3) := by decide +kernel
theorem dX12_added_14 : decode cX12_added 14 = .ok (.aload_n 0, 1) := by decide +kernel
theorem dX12_added_15 : decode cX12_added 15 = .ok (.bipush 45, 2) := by decide +kernel
theorem dX12_added_17 : decode cX12_added 17 = .ok (.invokevirtual 232, 3) := by decide +kernel
theorem dX12_added_20 : decode cX12_added 20 = .ok (.ifCond .eq 46, 3) := by decide +kernel
theorem dX12_added_23 : decode cX12_added 23 = .ok (.aload_n 0, 1) := by decide +kernel
theorem dX12_added_24 : decode cX12_added 24 = .ok (.getfield 184, 3) := by decide +kernel
theorem dX12_added_27 : decode cX12_added 27 = .ok (.ldc2_w 252, 3) := by decide +kernel
theorem dX12_added_30 : decode cX12_added 30 = .ok (.lcmp, 1) := by decide +kernel
theorem dX12_added_31 : decode cX12_added 31 = .ok (.ifCond .ne 7, 3) := by decide +kernel
theorem dX12_added_34 : decode cX12_added 34 = .ok (.iconst 1, 1) := by decide +kernel
theorem dX12_added_35 : decode cX12_added 35 = .ok (.goto 4, 3) := by decide +kernel
theorem dX12_added_38 : decode cX12_added 38 = .ok (.iconst 0, 1) := by decide +kernel
theorem dX12_added_39 : decode cX12_added 39 = .ok (.istore_n 2, 1) := by decide +kernel
theorem dX12_added_40 : decode cX12_added 40 = .ok (.aload_n 0, 1) := by decide +kernel
theorem dX12_added_41 : decode cX12_added 41 = .ok (.invokevirtual 207, 3) := by decide +kernel
theorem dX12_added_44 : decode cX12_added 44 = .ok (.aload_n 0, 1) := by decide +kernel
theorem dX12_added_45 : decode cX12_added 45 = .ok (.invokevirtual 249, 3) := by decide +kernel
theorem dX12_added_48 : decode cX12_added 48 = .ok (.istore_n 3, 1) := by decide +kernel
theorem dX12_added_49 : decode cX12_added 49 = .ok (.iload_n 2, 1) := by decide +kernel
theorem dX12_added_50 : decode cX12_added 50 = .ok (.ifCond .eq 9, 3) := by decide +kernel
theorem dX12_added_53 : decode cX12_added 53 = .ok (.iload_n 1, 1) := by decide +kernel
theorem dX12_added_54 : decode cX12_added 54 = .ok (.iload_n 3, 1) := by decide +kernel
theorem dX12_added_55 : decode cX12_added 55 = .ok (.iadd, 1) := by decide +kernel
theorem dX12_added_56 : decode cX12_added 56 = .ok (.goto 6, 3) := by decide +kernel
theorem dX12_added_59 : decode cX12_added 59 = .ok (.iload_n 1, 1) := by decide +kernel
theorem dX12_added_60 : decode cX12_added 60 = .ok (.iload_n 3, 1) := by decide +kernel
theorem dX12_added_61 : decode cX12_added 61 = .ok (.isub, 1) := by decide +kernel
theorem dX12_added_62 : decode cX12_added 62 = .ok (.istore_n 1, 1) := by decide +kernel
theorem dX12_added_63 : decode cX12_added 63 = .ok (.goto (-58), 3) := by decide +kernel
theorem dX12_added_66 : decode cX12_added 66 = .ok (.iload_n 1, 1) := by decide +kernel
theorem dX12_added_67 : decode cX12_added 67 = .ok (.ireturn, 1) := by decide +kernel
theorem dX12_not_0 : decode cX12_not 0 = .ok (.aload_n 0, 1) := by decide +kernel
theorem dX12_not_1 : decode cX12_not 1 = .ok (.bipush 110, 2) := by decide +kernel
theorem dX12_not_3 : decode cX12_not 3 = .ok (.bipush 111, 2) := by decide +kernel
theorem dX12_not_5 : decode cX12_not 5 = .ok (.bipush 116, 2) := by decide +kernel
theorem dX12_not_7 : decode cX12_not 7 = .ok (.iconst 0, 1) := by decide +kernel
theorem dX12_not_8 : decode cX12_not 8 = .ok (.iconst 0, 1) := by decide +kernel
theorem dX12_not_9 : decode cX12_not 9 = .ok (.iconst 0, 1) := by decide +kernel
theorem dX12_not_10 : decode cX12_not 10 = .ok (.iconst 0, 1) := by decide +kernel
theorem dX12_not_11 : decode cX12_not 11 = .ok (.iconst 0, 1) := by decide +kernel
theorem dX12_not_12 : decode cX12_not 12 = .ok (.invokevirtual 210, 3) := by decide +kernel
theorem dX12_not_15 : decode cX12_not 15 = .ok (.ifCond .eq 37, 3) := by decide +kernel
theorem dX12_not_18 : decode cX12_not 18 = .ok (.aload_n 0, 1) := by decide +kernel
theorem dX12_not_19 : decode cX12_not 19 = .ok (.invokevirtual 235, 3) := by decide +kernel
theorem dX12_not_22 : decode cX12_not 22 = .ok (.ifCond .ne 5, 3) := by decide +kernel
theorem dX12_not_25 : decode cX12_not 25 = .ok (.iconst 0, 1) := by decide +kernel
theorem dX12_not_26 : decode cX12_not 26 = .ok (.ireturn, 1) := by decide +kernel
theorem dX12_not_27 : decode cX12_not 27 = .ok (.aload_n 0, 1) := by decide +kernel
theorem dX12_not_28 : decode cX12_not 28 = .ok (.invokevirtual 254, 3) := by decide +kernel
theorem dX12_not_31 : decode cX12_not 31 = .ok (.istore_n 1, 1) := by decide +kernel
theorem dX12_not_32 : decode cX12_not 32 = .ok (.aload_n 0, 1) := by decide +kernel
theorem dX12_not_33 : decode cX12_not 33 = .ok (.dup, 1) := by decide +kernel
theorem dX12_not_34 : decode cX12_not 34 = .ok (.getfield 201, 3) := by decide +kernel
theorem dX12_not_37 : decode cX12_not 37 = .ok (.iconst 1, 1) := by decide +kernel
theorem dX12_not_38 : decode cX12_not 38 = .ok (.isub, 1) := by decide +kernel
theorem dX12_not_39 : decode cX12_not 39 = .ok (.putfield 201, 3) := by decide +kernel
theorem dX12_not_42 : decode cX12_not 42 = .ok (.iload_n 1, 1) := by decide +kernel
theorem dX12_not_43 : decode cX12_not 43 = .ok (.ifCond .ne 7, 3) := by decide +kernel
theorem dX12_not_46 : decode cX12_not 46 = .ok (.iconst 1, 1) := by decide +kernel
theorem dX12_not_47 : decode cX12_not 47 = .ok (.goto 4, 3) := by decide +kernel
theorem dX12_not_50 : decode cX12_not 50 = .ok (.iconst 0, 1) := by decide +kernel
theorem dX12_not_51 : decode cX12_not 51 = .ok (.ireturn, 1) := by decide +kernel
theorem dX12_not_52 : decode cX12_not 52 = .ok (.aload_n 0, 1) := by decide +kernel
theorem dX12_not_53 : decode cX12_not 53 = .ok (.invokevirtual 257, 3) := by decide +kernel
theorem dX12_not_56 : decode cX12_not 56 = .ok (.istore_n 1, 1) := by decide +kernel
theorem dX12_not_57 : decode cX12_not 57 = .ok (.aload_n 0, 1) := by decide +kernel
theorem dX12_not_58 : decode cX12_not 58 = .ok (.bipush 60, 2) := by decide +kernel
theorem dX12_not_60 : decode cX12_not 60 = .ok (.invokevirtual 232, 3) := by decide +kernel
theorem dX12_not_63 : decode cX12_not 63 = .ok (.ifCond .ne 14, 3) := by decide +kernel
theorem dX12_not_66 : decode cX12_not 66 = .ok (.aload_n 0, 1) := by decide +kernel
theorem dX12_not_67 : decode cX12_not 67 = .ok (.bipush 61, 2) := by decide +kernel
theorem dX12_not_69 : decode cX12_not 69 = .ok (.invokevirtual 232, 3) := by decide +kernel
theorem dX12_not_72 : decode cX12_not 72 = .ok (.ifCond .ne 5, 3) := by decide +kernel
theorem dX12_not_75 : decode cX12_not 75 = .ok (.iload_n 1, 1) := by decide +kernel
theorem dX12_not_76 : decode cX12_not 76 = .ok (.ireturn, 1) := by decide +kernel
theorem dX12_not_77 : decode cX12_not 77 = .ok (.aload_n 0, 1) := by decide +kernel
theorem dX12_not_78 : decode cX12_not 78 = .ok (.getfield 184, 3) := by decide +kernel
theorem dX12_not_81 : decode cX12_not 81 = .ok (.ldc2_w 260, 3) := by decide +kernel
theorem dX12_not_84 : decode cX12_not 84 = .ok (.lcmp, 1) := by decide +kernel
theorem dX12_not_85 : decode cX12_not 85 = .ok (.ifCond .ne 7, 3) := by decide +kernel
theorem dX12_not_88 : decode cX12_not 88 = .ok (.iconst 1, 1) := by decide +kernel
theorem dX12_not_89 : decode cX12_not 89 = .ok (.goto 4, 3) := by decide +kernel
theorem dX12_not_92 : decode cX12_not 92 = .ok (.iconst 0, 1) := by decide +kernel
theorem dX12_not_93 : decode cX12_not 93 = .ok (.istore_n 2, 1) := by decide +kernel
theorem dX12_not_94 : decode cX12_not 94 = .ok (.aload_n 0, 1) := by decide +kernel
theorem dX12_not_95 : decode cX12_not 95 = .ok (.invokevirtual 207, 3) := by decide +kernel
theorem dX12_not_98 : decode cX12_not 98 = .ok (.aload_n 0, 1) := by decide +kernel
theorem dX12_not_99 : decode cX12_not 99 = .ok (.invokevirtual 257, 3) := by decide +kernel
theorem dX12_not_102 : decode cX12_not 102 = .ok (.istore_n 3, 1) := by decide +kernel
theorem dX12_not_103 : decode cX12_not 103 = .ok (.iload_n 2, 1) := by decide +kernel
theorem dX12_not_104 : decode cX12_not 104 = .ok (.ifCond .eq 11, 3) := by decide +kernel
theorem dX12_not_107 : decode cX12_not 107 = .ok (.iload_n 1, 1) := by decide +kernel
theorem dX12_not_108 : decode cX12_not 108 = .ok (.iload_n 3, 1) := by decide +kernel
theorem dX12_not_109 : decode cX12_not 109 = .ok (.if_icmp .ge 15, 3) := by decide +kernel
theorem dX12_not_112 : decode cX12_not 112 = .ok (.goto 8, 3) := by decide +kernel
theorem dX12_not_115 : decode cX12_not 115 = .ok (.iload_n 1, 1) := by decide +kernel
theorem dX12_not_116 : decode cX12_not 116 = .ok (.iload_n 3, 1) := by decide +kernel
theorem dX12_not_117 : decode cX12_not 117 = .ok (.if_icmp .ne 7, 3) := by decide +kernel
theorem dX12_not_120 : decode cX12_not 120 = .ok (.iconst 1, 1) := by decide +kernel
theorem dX12_not_121 : decode cX12_not 121 = .ok (.goto 4, 3) := by decide +kernel
theorem dX12_not_124 : decode cX12_not 124 = .ok (.iconst 0, 1) := by decide +kernel
theorem dX12_not_125 : decode cX12_not 125 = .ok (.ireturn, 1) := by decide +kernel
theorem dX12_both_0 : decode cX12_both 0 = .ok (.aload_n 0, 1) := by decide +kernel
theorem dX12_both_1 : decode cX12_both 1 = .ok (.invokevirtual 254, 3) := by decide +kernel
theorem dX12_both_4 : decode cX12_both 4 = .ok (.istore_n 1, 1) := by decide +kernel
theorem dX12_both_5 : decode cX12_both 5 = .ok (.aload_n 0, 1) := by decide +kernel
theorem dX12_both_6 : decode cX12_both 6 = .ok (.bipush 97, 2) := by decide +kernel
theorem dX12_both_8 : decode cX12_both 8 = .ok (.bipush 110, 2) := by decide +kernel
theorem dX12_both_10 : decode cX12_both 10 = .ok (.bipush 100, 2) := by decide +kernel
theorem dX12_both_12 : decode cX12_both 12 = .ok (.iconst 0, 1) := by decide +kernel
theorem dX12_both_13 : decode cX12_both 13 = .ok (.iconst 0, 1) := by decide +kernel
theorem dX12_both_14 : decode cX12_both 14 = .ok (.iconst 0, 1) := by decide +kernel
theorem dX12_both_15 : decode cX12_both 15 = .ok (.iconst 0, 1) := by decide +kernel
theorem dX12_both_16 : decode cX12_both 16 = .ok (.iconst 0, 1) := by decide +kernel
theorem dX12_both_17 : decode cX12_both 17 = .ok (.invokevirtual 210, 3) := by decide +kernel
theorem dX12_both_20 : decode cX12_both 20 = .ok (.ifCond .eq 29, 3) := by decide +kernel
theorem dX12_both_23 : decode cX12_both 23 = .ok (.aload_n 0, 1) := by decide +kernel
theorem dX12_both_24 : decode cX12_both 24 = .ok (.invokevirtual 207, 3) := by decide +kernel
theorem dX12_both_27 : decode cX12_both 27 = .ok (.aload_n 0, 1) := by decide +kernel
theorem dX12_both_28 : decode cX12_both 28 = .ok (.invokevirtual 254, 3) := by decide +kernel
theorem dX12_both_31 : decode cX12_both 31 = .ok (.istore_n 2, 1) := by decide +kernel
theorem dX12_both_32 : decode cX12_both 32 = .ok (.iload_n 1, 1) := by decide +kernel
theorem dX12_both_33 : decode cX12_both 33 = .ok (.ifCond .eq 11, 3) := by decide +kernel
theorem dX12_both_36 : decode cX12_both 36 = .ok (.iload_n 2, 1) := by decide +kernel
theorem dX12_both_37 : decode cX12_both 37 = .ok (.ifCond .eq 7, 3) := by decide +kernel
theorem dX12_both_40 : decode cX12_both 40 = .ok (.iconst 1, 1) := by decide +kernel
theorem dX12_both_41 : decode cX12_both 41 = .ok (.goto 4, 3) := by decide +kernel
theorem dX12_both_44 : decode cX12_both 44 = .ok (.iconst 0, 1) := by decide +kernel
theorem dX12_both_45 : decode cX12_both 45 = .ok (.istore_n 1, 1) := by decide +kernel
theorem dX12_both_46 : decode cX12_both 46 = .ok (.goto (-41), 3) := by decide +kernel
theorem dX12_both_49 : decode cX12_both 49 = .ok (.iload_n 1, 1) := by decide +kernel
theorem dX12_both_50 : decode cX12_both 50 = .ok (.ireturn, 1) := by decide +kernel
theorem dX12_either_0 : decode cX12_either 0 = .ok (.aload_n 0, 1) := by decide +kernel
theorem dX12_either_1 : decode cX12_either 1 = .ok (.invokevirtual 262, 3) := by decide +kernel
theorem dX12_either_4 : decode cX12_either 4 = .ok (.istore_n 1, 1) := by decide +kernel
theorem dX12_either_5 : decode cX12_either 5 = .ok (.aload_n 0, 1) := by decide +kernel
theorem dX12_either_6 : decode cX12_either 6 = .ok (.bipush 111, 2) := by decide +kernel
theorem dX12_either_8 : decode cX12_either 8 = .ok (.bipush 114, 2) := by decide +kernel
theorem dX12_either_10 : decode cX12_either 10 = .ok (.iconst 0, 1) := by decide +kernel
theorem dX12_either_11 : decode cX12_either 11 = .ok (.iconst 0, 1) := by decide +kernel
theorem dX12_either_12 : decode cX12_either 12 = .ok (.iconst 0, 1) := by decide +kernel
theorem dX12_either_13 : decode cX12_either 13 = .ok (.iconst 0, 1) := by decide +kernel
theorem dX12_either_14 : decode cX12_either 14 = .ok (.iconst 0, 1) := by decide +kernel
theorem dX12_either_15 : decode cX12_either 15 = .ok (.iconst 0, 1) := by decide +kernel
theorem dX12_either_16 : decode cX12_either 16 = .ok (.invokevirtual 210, 3) := by decide +kernel
theorem dX12_either_19 : decode cX12_either 19 = .ok (.ifCond .eq 29, 3) := by decide +kernel
theorem dX12_either_22 : decode cX12_either 22 = .ok (.aload_n 0, 1) := by decide +kernel
theorem dX12_either_23 : decode cX12_either 23 = .ok (.invokevirtual 207, 3) := by decide +kernel
theorem dX12_either_26 : decode cX12_either 26 = .ok (.aload_n 0, 1) := by decide +kernel
theorem dX12_either_27 : decode cX12_either 27 = .ok (.invokevirtual 262, 3) := by decide +kernel
theorem dX12_either_30 : decode cX12_either 30 = .ok (.istore_n 2, 1) := by decide +kernel
theorem dX12_either_31 : decode cX12_either 31 = .ok (.iload_n 1, 1) := by decide +kernel
theorem dX12_either_32 : decode cX12_either 32 = .ok (.ifCond .ne 7, 3) := by decide +kernel
theorem dX12_either_35 : decode cX12_either 35 = .ok (.iload_n 2, 1) := by decide +kernel
theorem dX12_either_36 : decode cX12_either 36 = .ok (.ifCond .eq 7, 3) := by decide +kernel
theorem dX12_either_39 : decode cX12_either 39 = .ok (.iconst 1, 1) := by decide +kernel
theorem dX12_either_40 : decode cX12_either 40 = .ok (.goto 4, 3) := by decide +kernel
theorem dX12_either_43 : decode cX12_either 43 = .ok (.iconst 0, 1) := by decide +kernel
theorem dX12_either_44 : decode cX12_either 44 = .ok (.istore_n 1, 1) := by decide +kernel
theorem dX12_either_45 : decode cX12_either 45 = .ok (.goto (-40), 3) := by decide +kernel
theorem dX12_either_48 : decode cX12_either 48 = .ok (.iload_n 1, 1) := by decide +kernel
theorem dX12_either_49 : decode cX12_either 49 = .ok (.ireturn, 1) := by decide +kernel
theorem dX12_part_0 : decode cX12_part 0 = .ok (.iload_n 1, 1) := by decide +kernel
theorem dX12_part_1 : decode cX12_part 1 = .ok (.ifCond .ne 7, 3) := by decide +kernel
theorem dX12_part_4 : decode cX12_part 4 = .ok (.aload_n 0, 1) := by decide +kernel
theorem dX12_part_5 : decode cX12_part 5 = .ok (.invokevirtual 204, 3) := by decide +kernel
theorem dX12_part_8 : decode cX12_part 8 = .ok (.aload_n 0, 1) := by decide +kernel
theorem dX12_part_9 : decode cX12_part 9 = .ok (.getfield 190, 3) := by decide +kernel
theorem dX12_part_12 : decode cX12_part 12 = .ok (.ifCond .ne 7, 3) := by decide +kernel
theorem dX12_part_15 : decode cX12_part 15 = .ok (.aload_n 0, 1) := by decide +kernel
theorem dX12_part_16 : decode cX12_part 16 = .ok (.invokevirtual 207, 3) := by decide +kernel
theorem dX12_part_19 : decode cX12_part 19 = .ok (.aload_n 0, 1) := by decide +kernel
theorem dX12_part_20 : decode cX12_part 20 = .ok (.getfield 190, 3) := by decide +kernel
theorem dX12_part_23 : decode cX12_part 23 = .ok (.ifCond .eq 7, 3) := by decide +kernel
theorem dX12_part_26 : decode cX12_part 26 = .ok (.iconst 0, 1) := by decide +kernel
theorem dX12_part_27 : decode cX12_part 27 = .ok (.goto 7, 3) := by decide +kernel
theorem dX12_part_30 : decode cX12_part 30 = .ok (.aload_n 0, 1) := by decide +kernel
theorem dX12_part_31 : decode cX12_part 31 = .ok (.invokevirtual 243, 3) := by decide +kernel
theorem dX12_part_34 : decode cX12_part 34 = .ok (.istore_n 2, 1) := by decide +kernel
theorem dX12_part_35 : decode cX12_part 35 = .ok (.aload_n 0, 1) := by decide +kernel
theorem dX12_part_36 : decode cX12_part 36 = .ok (.bipush 59, 2) := by decide +kernel
theorem dX12_part_38 : decode cX12_part 38 = .ok (.invokevirtual 232, 3) := by decide +kernel
theorem dX12_part_41 : decode cX12_part 41 = .ok (.ifCond .ne 7, 3) := by decide +kernel
theorem dX12_part_44 : decode cX12_part 44 = .ok (.aload_n 0, 1) := by decide +kernel
theorem dX12_part_45 : decode cX12_part 45 = .ok (.invokevirtual 204, 3) := by decide +kernel
theorem dX12_part_48 : decode cX12_part 48 = .ok (.aload_n 0, 1) := by decide +kernel
theorem dX12_part_49 : decode cX12_part 49 = .ok (.getfield 190, 3) := by decide +kernel
theorem dX12_part_52 : decode cX12_part 52 = .ok (.ifCond .ne 7, 3) := by decide +kernel
theorem dX12_part_55 : decode cX12_part 55 = .ok (.aload_n 0, 1) := by decide +kernel
theorem dX12_part_56 : decode cX12_part 56 = .ok (.invokevirtual 207, 3) := by decide +kernel
theorem dX12_part_59 : decode cX12_part 59 = .ok (.iload_n 2, 1) := by decide +kernel
theorem dX12_part_60 : decode cX12_part 60 = .ok (.ireturn, 1) := by decide +kernel
theorem dX12_read_0 : decode cX12_read 0 = .ok (.aload_n 0, 1) := by decide +kernel
theorem dX12_read_1 : decode cX12_read 1 = .ok (.sipush 160, 3) := by decide +kernel
theorem dX12_read_4 : decode cX12_read 4 = .ok (.iload_n 1, 1) := by decide +kernel
theorem dX12_read_5 : decode cX12_read 5 = .ok (.imul, 1) := by decide +kernel
theorem dX12_read_6 : decode cX12_read 6 = .ok (.putfield 160, 3) := by decide +kernel
theorem dX12_read_9 : decode cX12_read 9 = .ok (.aload_n 0, 1) := by decide +kernel
theorem dX12_read_10 : decode cX12_read 10 = .ok (.aload_n 0, 1) := by decide +kernel
theorem dX12_read_11 : decode cX12_read 11 = .ok (.getfield 17, 3) := by decide +kernel
theorem dX12_read_14 : decode cX12_read 14 = .ok (.iload_n 1, 1) := by decide +kernel
theorem dX12_read_15 : decode cX12_read 15 = .ok (.iaload, 1) := by decide +kernel
theorem dX12_read_16 : decode cX12_read 16 = .ok (.putfield 157, 3) := by decide +kernel
theorem dX12_read_19 : decode cX12_read 19 = .ok (.aload_n 0, 1) := by decide +kernel
theorem dX12_read_20 : decode cX12_read 20 = .ok (.iconst 0, 1) := by decide +kernel
theorem dX12_read_21 : decode cX12_read 21 = .ok (.putfield 163, 3) := by decide +kernel
theorem dX12_read_24 : decode cX12_read 24 = .ok (.aload_n 0, 1) := by decide +kernel
theorem dX12_read_25 : decode cX12_read 25 = .ok (.iconst 0, 1) := by decide +kernel
theorem dX12_read_26 : decode cX12_read 26 = .ok (.putfield 201, 3) := by decide +kernel
theorem dX12_read_29 : decode cX12_read 29 = .ok (.aload_n 0, 1) := by decide +kernel
theorem dX12_read_30 : decode cX12_read 30 = .ok (.iconst 0, 1) := by decide +kernel
theorem dX12_read_31 : decode cX12_read 31 = .ok (.putfield 190, 3) := by decide +kernel
theorem dX12_read_34 : decode cX12_read 34 = .ok (.aload_n 0, 1) := by decide +kernel
theorem dX12_read_35 : decode cX12_read 35 = .ok (.invokevirtual 207, 3) := by decide +kernel
theorem dX12_read_38 : decode cX12_read 38 = .ok (.aload_n 0, 1) := by decide +kernel
theorem dX12_read_39 : decode cX12_read 39 = .ok (.aload_n 0, 1) := by decide +kernel
theorem dX12_read_40 : decode cX12_read 40 = .ok (.bipush 115, 2) := by decide +kernel
theorem dX12_read_42 : decode cX12_read 42 = .ok (.bipush 101, 2) := by decide +kernel
theorem dX12_read_44 : decode cX12_read 44 = .ok (.bipush 101, 2) := by decide +kernel
theorem dX12_read_46 : decode cX12_read 46 = .ok (.bipush 115, 2) := by decide +kernel
theorem dX12_read_48 : decode cX12_read 48 = .ok (.iconst 0, 1) := by decide +kernel
theorem dX12_read_49 : decode cX12_read 49 = .ok (.iconst 0, 1) := by decide +kernel
theorem dX12_read_50 : decode cX12_read 50 = .ok (.iconst 0, 1) := by decide +kernel
theorem dX12_read_51 : decode cX12_read 51 = .ok (.iconst 0, 1) := by decide +kernel
theorem dX12_read_52 : decode cX12_read 52 = .ok (.invokevirtual 210, 3) := by decide +kernel
theorem dX12_read_55 : decode cX12_read 55 = .ok (.invokevirtual 265, 3) := by decide +kernel
theorem dX12_read_58 : decode cX12_read 58 = .ok (.istore_n 3, 1) := by decide +kernel
theorem dX12_read_59 : decode cX12_read 59 = .ok (.aload_n 0, 1) := by decide +kernel
theorem dX12_read_60 : decode cX12_read 60 = .ok (.getfield 190, 3) := by decide +kernel
theorem dX12_read_63 : decode cX12_read 63 = .ok (.ifCond .eq 7, 3) := by decide +kernel
theorem dX12_read_66 : decode cX12_read 66 = .ok (.iconst 0, 1) := by decide +kernel
theorem dX12_read_67 : decode cX12_read 67 = .ok (.goto 24, 3) := by decide +kernel
theorem dX12_read_70 : decode cX12_read 70 = .ok (.aload_n 0, 1) := by decide +kernel
theorem dX12_read_71 : decode cX12_read 71 = .ok (.aload_n 0, 1) := by decide +kernel
theorem dX12_read_72 : decode cX12_read 72 = .ok (.bipush 119, 2) := by decide +kernel
theorem dX12_read_74 : decode cX12_read 74 = .ok (.bipush 111, 2) := by decide +kernel
theorem dX12_read_76 : decode cX12_read 76 = .ok (.bipush 114, 2) := by decide +kernel
theorem dX12_read_78 : decode cX12_read 78 = .ok (.bipush 116, 2) := by decide +kernel
theorem dX12_read_80 : decode cX12_read 80 = .ok (.bipush 104, 2) := by decide +kernel
theorem dX12_read_82 : decode cX12_read 82 = .ok (.iconst 0, 1) := by decide +kernel
theorem dX12_read_83 : decode cX12_read 83 = .ok (.iconst 0, 1) := by decide +kernel
theorem dX12_read_84 : decode cX12_read 84 = .ok (.iconst 0, 1) := by decide +kernel
theorem dX12_read_85 : decode cX12_read 85 = .ok (.invokevirtual 210, 3) := by decide +kernel
theorem dX12_read_88 : decode cX12_read 88 = .ok (.invokevirtual 265, 3) := by decide +kernel
theorem dX12_read_91 : decode cX12_read 91 = .ok (.istore 4, 2) := by decide +kernel
theorem dX12_read_93 : decode cX12_read 93 = .ok (.aload_n 0, 1) := by decide +kernel
theorem dX12_read_94 : decode cX12_read 94 = .ok (.getfield 190, 3) := by decide +kernel
theorem dX12_read_97 : decode cX12_read 97 = .ok (.ifCond .eq 7, 3) := by decide +kernel
theorem dX12_read_100 : decode cX12_read 100 = .ok (.iconst 0, 1) := by decide +kernel
theorem dX12_read_101 : decode cX12_read 101 = .ok (.goto 24, 3) := by decide +kernel
theorem dX12_read_104 : decode cX12_read 104 = .ok (.aload_n 0, 1) := by decide +kernel
theorem dX12_read_105 : decode cX12_read 105 = .ok (.aload_n 0, 1) := by decide +kernel
theorem dX12_read_106 : decode cX12_read 106 = .ok (.bipush 115, 2) := by decide +kernel
theorem dX12_read_108 : decode cX12_read 108 = .ok (.bipush 108, 2) := by decide +kernel
theorem dX12_read_110 : decode cX12_read 110 = .ok (.bipush 101, 2) := by decide +kernel
theorem dX12_read_112 : decode cX12_read 112 = .ok (.bipush 101, 2) := by decide +kernel
theorem dX12_read_114 : decode cX12_read 114 = .ok (.bipush 112, 2) := by decide +kernel
theorem dX12_read_116 : decode cX12_read 116 = .ok (.iconst 0, 1) := by decide +kernel
theorem dX12_read_117 : decode cX12_read 117 = .ok (.iconst 0, 1) := by decide +kernel
theorem dX12_read_118 : decode cX12_read 118 = .ok (.iconst 0, 1) := by decide +kernel
theorem dX12_read_119 : decode cX12_read 119 = .ok (.invokevirtual 210, 3) := by decide +kernel
theorem dX12_read_122 : decode cX12_read 122 = .ok (.invokevirtual 265, 3) := by decide +kernel
theorem dX12_read_125 : decode cX12_read 125 = .ok (.istore 5, 2) := by decide +kernel
theorem dX12_read_127 : decode cX12_read 127 = .ok (.aload_n 0, 1) := by decide +kernel
theorem dX12_read_128 : decode cX12_read 128 = .ok (.getfield 190, 3) := by decide +kernel
theorem dX12_read_131 : decode cX12_read 131 = .ok (.ifCond .ne 14, 3) := by decide +kernel
theorem dX12_read_134 : decode cX12_read 134 = .ok (.aload_n 0, 1) := by decide +kernel
theorem dX12_read_135 : decode cX12_read 135 = .ok (.getfield 173, 3) := by decide +kernel
theorem dX12_read_138 : decode cX12_read 138 = .ok (.ifCond .eq 7, 3) := by decide +kernel
theorem dX12_read_141 : decode cX12_read 141 = .ok (.aload_n 0, 1) := by decide +kernel
theorem dX12_read_142 : decode cX12_read 142 = .ok (.invokevirtual 204, 3) := by decide +kernel
theorem dX12_read_145 : decode cX12_read 145 = .ok (.iload_n 2, 1) := by decide +kernel
theorem dX12_read_146 : decode cX12_read 146 = .ok (.ifCond .ne 7, 3) := by decide +kernel
theorem dX12_read_149 : decode cX12_read 149 = .ok (.iload_n 3, 1) := by decide +kernel
theorem dX12_read_150 : decode cX12_read 150 = .ok (.goto 15, 3) := by decide +kernel
theorem dX12_read_153 : decode cX12_read 153 = .ok (.iload_n 2, 1) := by decide +kernel
theorem dX12_read_154 : decode cX12_read 154 = .ok (.iconst 1, 1) := by decide +kernel
theorem dX12_read_155 : decode cX12_read 155 = .ok (.if_icmp .ne 8, 3) := by decide +kernel
theorem dX12_read_158 : decode cX12_read 158 = .ok (.iload 4, 2) := by decide +kernel
theorem dX12_read_160 : decode cX12_read 160 = .ok (.goto 5, 3) := by decide +kernel
theorem dX12_read_163 : decode cX12_read 163 = .ok (.iload 5, 2) := by decide +kernel
theorem dX12_read_165 : decode cX12_read 165 = .ok (.ireturn, 1) := by decide +kernel
theorem dX12_text_0 : decode cX12_text 0 = .ok (.aload_n 0, 1) := by decide +kernel
theorem dX12_text_1 : decode cX12_text 1 = .ok (.getfield 104, 3) := by decide +kernel
theorem dX12_text_4 : decode cX12_text 4 = .ok (.bipush 6, 2) := by decide +kernel
theorem dX12_text_6 : decode cX12_text 6 = .ok (.if_icmp .ne 6, 3) := by decide +kernel
theorem dX12_text_9 : decode cX12_text 9 = .ok (.bipush (-4), 2) := by decide +kernel
theorem dX12_text_11 : decode cX12_text 11 = .ok (.ireturn, 1) := by decide +kernel
theorem dX12_text_12 : decode cX12_text 12 = .ok (.iconst 0, 1) := by decide +kernel
theorem dX12_text_13 : decode cX12_text 13 = .ok (.istore_n 1, 1) := by decide +kernel
theorem dX12_text_14 : decode cX12_text 14 = .ok (.iload_n 1, 1) := by decide +kernel
theorem dX12_text_15 : decode cX12_text 15 = .ok (.aload_n 0, 1) := by decide +kernel
theorem dX12_text_16 : decode cX12_text 16 = .ok (.getfield 154, 3) := by decide +kernel
theorem dX12_text_19 : decode cX12_text 19 = .ok (.if_icmp .ge 30, 3) := by decide +kernel
theorem dX12_text_22 : decode cX12_text 22 = .ok (.aload_n 0, 1) := by decide +kernel
theorem dX12_text_23 : decode cX12_text 23 = .ok (.getfield 13, 3) := by decide +kernel
theorem dX12_text_26 : decode cX12_text 26 = .ok (.sipush 160, 3) := by decide +kernel
theorem dX12_text_29 : decode cX12_text 29 = .ok (.aload_n 0, 1) := by decide +kernel
theorem dX12_text_30 : decode cX12_text 30 = .ok (.getfield 104, 3) := by decide +kernel
theorem dX12_text_33 : decode cX12_text 33 = .ok (.imul, 1) := by decide +kernel
theorem dX12_text_34 : decode cX12_text 34 = .ok (.iload_n 1, 1) := by decide +kernel
theorem dX12_text_35 : decode cX12_text 35 = .ok (.iadd, 1) := by decide +kernel
theorem dX12_text_36 : decode cX12_text 36 = .ok (.aload_n 0, 1) := by decide +kernel
theorem dX12_text_37 : decode cX12_text 37 = .ok (.getfield 20, 3) := by decide +kernel
theorem dX12_text_40 : decode cX12_text 40 = .ok (.iload_n 1, 1) := by decide +kernel
theorem dX12_text_41 : decode cX12_text 41 = .ok (.iaload, 1) := by decide +kernel
theorem dX12_text_42 : decode cX12_text 42 = .ok (.iastore, 1) := by decide +kernel
theorem dX12_text_43 : decode cX12_text 43 = .ok (.iinc 1 1, 3) := by decide +kernel
theorem dX12_text_46 : decode cX12_text 46 = .ok (.goto (-32), 3) := by decide +kernel
theorem dX12_text_49 : decode cX12_text 49 = .ok (.aload_n 0, 1) := by decide +kernel
theorem dX12_text_50 : decode cX12_text 50 = .ok (.getfield 17, 3) := by decide +kernel
theorem dX12_text_53 : decode cX12_text 53 = .ok (.aload_n 0, 1) := by decide +kernel
theorem dX12_text_54 : decode cX12_text 54 = .ok (.getfield 104, 3) := by decide +kernel
theorem dX12_text_57 : decode cX12_text 57 = .ok (.aload_n 0, 1) := by decide +kernel
theorem dX12_text_58 : decode cX12_text 58 = .ok (.getfield 154, 3) := by decide +kernel
theorem dX12_text_61 : decode cX12_text 61 = .ok (.iastore, 1) := by decide +kernel
theorem dX12_text_62 : decode cX12_text 62 = .ok (.aload_n 0, 1) := by decide +kernel
theorem dX12_text_63 : decode cX12_text 63 = .ok (.iconst 0, 1) := by decide +kernel
theorem dX12_text_64 : decode cX12_text 64 = .ok (.putfield 154, 3) := by decide +kernel
theorem dX12_text_67 : decode cX12_text 67 = .ok (.aload_n 0, 1) := by decide +kernel
theorem dX12_text_68 : decode cX12_text 68 = .ok (.aload_n 0, 1) := by decide +kernel
theorem dX12_text_69 : decode cX12_text 69 = .ok (.getfield 104, 3) := by decide +kernel
theorem dX12_text_72 : decode cX12_text 72 = .ok (.iconst 0, 1) := by decide +kernel
theorem dX12_text_73 : decode cX12_text 73 = .ok (.invokevirtual 269, 3) := by decide +kernel
theorem dX12_text_76 : decode cX12_text 76 = .ok (.istore_n 1, 1) := by decide +kernel
theorem dX12_text_77 : decode cX12_text 77 = .ok (.aload_n 0, 1) := by decide +kernel
theorem dX12_text_78 : decode cX12_text 78 = .ok (.getfield 190, 3) := by decide +kernel
theorem dX12_text_81 : decode cX12_text 81 = .ok (.ifCond .eq 11, 3) := by decide +kernel
theorem dX12_text_84 : decode cX12_text 84 = .ok (.bipush (-100), 2) := by decide +kernel
theorem dX12_text_86 : decode cX12_text 86 = .ok (.aload_n 0, 1) := by decide +kernel
theorem dX12_text_87 : decode cX12_text 87 = .ok (.getfield 194, 3) := by decide +kernel
theorem dX12_text_90 : decode cX12_text 90 = .ok (.isub, 1) := by decide +kernel
theorem dX12_text_91 : decode cX12_text 91 = .ok (.ireturn, 1) := by decide +kernel
theorem dX12_text_92 : decode cX12_text 92 = .ok (.aload_n 0, 1) := by decide +kernel
theorem dX12_text_93 : decode cX12_text 93 = .ok (.dup, 1) := by decide +kernel
theorem dX12_text_94 : decode cX12_text 94 = .ok (.getfield 104, 3) := by decide +kernel
theorem dX12_text_97 : decode cX12_text 97 = .ok (.iconst 1, 1) := by decide +kernel
theorem dX12_text_98 : decode cX12_text 98 = .ok (.iadd, 1) := by decide +kernel
theorem dX12_text_99 : decode cX12_text 99 = .ok (.putfield 104, 3) := by decide +kernel
theorem dX12_text_102 : decode cX12_text 102 = .ok (.aload_n 0, 1) := by decide +kernel
theorem dX12_text_103 : decode cX12_text 103 = .ok (.getfield 104, 3) := by decide +kernel
theorem dX12_text_106 : decode cX12_text 106 = .ok (.iconst 1, 1) := by decide +kernel
theorem dX12_text_107 : decode cX12_text 107 = .ok (.isub, 1) := by decide +kernel
theorem dX12_text_108 : decode cX12_text 108 = .ok (.ireturn, 1) := by decide +kernel
theorem dX12_force_0 : decode cX12_force 0 = .ok (.iload_n 1, 1) := by decide +kernel
theorem dX12_force_1 : decode cX12_force 1 = .ok (.i2l, 1) := by decide +kernel
theorem dX12_force_2 : decode cX12_force 2 = .ok (.lconst 0, 1) := by decide +kernel
theorem dX12_force_3 : decode cX12_force 3 = .ok (.aload_n 0, 1) := by decide +kernel
theorem dX12_force_4 : decode cX12_force 4 = .ok (.getfield 104, 3) := by decide +kernel
theorem dX12_force_7 : decode cX12_force 7 = .ok (.iconst 1, 1) := by decide +kernel
theorem dX12_force_8 : decode cX12_force 8 = .ok (.isub, 1) := by decide +kernel
theorem dX12_force_9 : decode cX12_force 9 = .ok (.i2l, 1) := by decide +kernel
theorem dX12_force_10 : decode cX12_force 10 = .ok (.invokestatic 109, 3) := by decide +kernel
theorem dX12_force_13 : decode cX12_force 13 = .ok (.ifCond .ne 6, 3) := by decide +kernel
theorem dX12_force_16 : decode cX12_force 16 = .ok (.bipush (-2), 2) := by decide +kernel
theorem dX12_force_18 : decode cX12_force 18 = .ok (.ireturn, 1) := by decide +kernel
theorem dX12_force_19 : decode cX12_force 19 = .ok (.aload_n 0, 1) := by decide +kernel
theorem dX12_force_20 : decode cX12_force 20 = .ok (.getfield 272, 3) := by decide +kernel
theorem dX12_force_23 : decode cX12_force 23 = .ok (.istore_n 2, 1) := by decide +kernel
theorem dX12_force_24 : decode cX12_force 24 = .ok (.aload_n 0, 1) := by decide +kernel
theorem dX12_force_25 : decode cX12_force 25 = .ok (.iload_n 1, 1) := by decide +kernel
theorem dX12_force_26 : decode cX12_force 26 = .ok (.putfield 272, 3) := by decide +kernel
theorem dX12_force_29 : decode cX12_force 29 = .ok (.iload_n 2, 1) := by decide +kernel
theorem dX12_force_30 : decode cX12_force 30 = .ok (.ireturn, 1) := by decide +kernel
theorem dX12_says_0 : decode cX12_says 0 = .ok (.aload_n 0, 1) := by decide +kernel
theorem dX12_says_1 : decode cX12_says 1 = .ok (.iload 4, 2) := by decide +kernel
theorem dX12_says_3 : decode cX12_says 3 = .ok (.putfield 214, 3) := by decide +kernel
theorem dX12_says_6 : decode cX12_says 6 = .ok (.aload_n 0, 1) := by decide +kernel
theorem dX12_says_7 : decode cX12_says 7 = .ok (.aload_n 0, 1) := by decide +kernel
theorem dX12_says_8 : decode cX12_says 8 = .ok (.getfield 44, 3) := by decide +kernel
theorem dX12_says_11 : decode cX12_says 11 = .ok (.iload_n 2, 1) := by decide +kernel
theorem dX12_says_12 : decode cX12_says 12 = .ok (.iaload, 1) := by decide +kernel
theorem dX12_says_13 : decode cX12_says 13 = .ok (.putfield 217, 3) := by decide +kernel
theorem dX12_says_16 : decode cX12_says 16 = .ok (.aload_n 0, 1) := by decide +kernel
theorem dX12_says_17 : decode cX12_says 17 = .ok (.iload_n 1, 1) := by decide +kernel
theorem dX12_says_18 : decode cX12_says 18 = .ok (.iconst 2, 1) := by decide +kernel
theorem dX12_says_19 : decode cX12_says 19 = .ok (.if_icmp .ne 7, 3) := by decide +kernel
theorem dX12_says_22 : decode cX12_says 22 = .ok (.iconst 0, 1) := by decide +kernel
theorem dX12_says_23 : decode cX12_says 23 = .ok (.goto 7, 3) := by decide +kernel
theorem dX12_says_26 : decode cX12_says 26 = .ok (.aload_n 0, 1) := by decide +kernel
theorem dX12_says_27 : decode cX12_says 27 = .ok (.getfield 125, 3) := by decide +kernel
theorem dX12_says_30 : decode cX12_says 30 = .ok (.putfield 220, 3) := by decide +kernel
theorem dX12_says_33 : decode cX12_says 33 = .ok (.aload_n 0, 1) := by decide +kernel
theorem dX12_says_34 : decode cX12_says 34 = .ok (.iload_n 1, 1) := by decide +kernel
theorem dX12_says_35 : decode cX12_says 35 = .ok (.iconst 2, 1) := by decide +kernel
theorem dX12_says_36 : decode cX12_says 36 = .ok (.if_icmp .ne 7, 3) := by decide +kernel
theorem dX12_says_39 : decode cX12_says 39 = .ok (.iconst 0, 1) := by decide +kernel
theorem dX12_says_40 : decode cX12_says 40 = .ok (.goto 19, 3) := by decide +kernel
theorem dX12_says_43 : decode cX12_says 43 = .ok (.aload_n 0, 1) := by decide +kernel
theorem dX12_says_44 : decode cX12_says 44 = .ok (.getfield 23, 3) := by decide +kernel
theorem dX12_says_47 : decode cX12_says 47 = .ok (.aload_n 0, 1) := by decide +kernel
theorem dX12_says_48 : decode cX12_says 48 = .ok (.iload_n 3, 1) := by decide +kernel
theorem dX12_says_49 : decode cX12_says 49 = .ok (.aload_n 0, 1) := by decide +kernel
theorem dX12_says_50 : decode cX12_says 50 = .ok (.getfield 44, 3) := by decide +kernel
theorem dX12_says_53 : decode cX12_says 53 = .ok (.iload_n 2, 1) := by decide +kernel
theorem dX12_says_54 : decode cX12_says 54 = .ok (.iaload, 1) := by decide +kernel
theorem dX12_says_55 : decode cX12_says 55 = .ok (.invokevirtual 148, 3) := by decide +kernel
theorem dX12_says_58 : decode cX12_says 58 = .ok (.iaload, 1) := by decide +kernel
theorem dX12_says_59 : decode cX12_says 59 = .ok (.putfield 223, 3) := by decide +kernel
theorem dX12_says_62 : decode cX12_says 62 = .ok (.aload_n 0, 1) := by decide +kernel
theorem dX12_says_63 : decode cX12_says 63 = .ok (.iload_n 2, 1) := by decide +kernel
theorem dX12_says_64 : decode cX12_says 64 = .ok (.putfield 226, 3) := by decide +kernel
theorem dX12_says_67 : decode cX12_says 67 = .ok (.aload_n 0, 1) := by decide +kernel
theorem dX12_says_68 : decode cX12_says 68 = .ok (.iload_n 3, 1) := by decide +kernel
theorem dX12_says_69 : decode cX12_says 69 = .ok (.putfield 229, 3) := by decide +kernel
theorem dX12_says_72 : decode cX12_says 72 = .ok (.aload_n 0, 1) := by decide +kernel
theorem dX12_says_73 : decode cX12_says 73 = .ok (.iload_n 1, 1) := by decide +kernel
theorem dX12_says_74 : decode cX12_says 74 = .ok (.invokevirtual 275, 3) := by decide +kernel
theorem dX12_says_77 : decode cX12_says 77 = .ok (.ireturn, 1) := by decide +kernel
theorem dX12_keptRead_0 : decode cX12_keptRead 0 = .ok (.aload_n 0, 1) := by decide +kernel
theorem dX12_keptRead_1 : decode cX12_keptRead 1 = .ok (.getfield 272, 3) := by decide +kernel
theorem dX12_keptRead_4 : decode cX12_keptRead 4 = .ok (.i2l, 1) := by decide +kernel
theorem dX12_keptRead_5 : decode cX12_keptRead 5 = .ok (.ldc2_w 142, 3) := by decide +kernel
theorem dX12_keptRead_8 : decode cX12_keptRead 8 = .ok (.lmul, 1) := by decide +kernel
theorem dX12_keptRead_9 : decode cX12_keptRead 9 = .ok (.iload_n 1, 1) := by decide +kernel
theorem dX12_keptRead_10 : decode cX12_keptRead 10 = .ok (.i2l, 1) := by decide +kernel
theorem dX12_keptRead_11 : decode cX12_keptRead 11 = .ok (.ladd, 1) := by decide +kernel
theorem dX12_keptRead_12 : decode cX12_keptRead 12 = .ok (.lstore_n 2, 1) := by decide +kernel
theorem dX12_keptRead_13 : decode cX12_keptRead 13 = .ok (.lload_n 2, 1) := by decide +kernel
theorem dX12_keptRead_14 : decode cX12_keptRead 14 = .ok (.ldc2_w 278, 3) := by decide +kernel
theorem dX12_keptRead_17 : decode cX12_keptRead 17 = .ok (.lmul, 1) := by decide +kernel
theorem dX12_keptRead_18 : decode cX12_keptRead 18 = .ok (.aload_n 0, 1) := by decide +kernel
theorem dX12_keptRead_19 : decode cX12_keptRead 19 = .ok (.getfield 214, 3) := by decide +kernel
theorem dX12_keptRead_22 : decode cX12_keptRead 22 = .ok (.i2l, 1) := by decide +kernel
theorem dX12_keptRead_23 : decode cX12_keptRead 23 = .ok (.ladd, 1) := by decide +kernel
theorem dX12_keptRead_24 : decode cX12_keptRead 24 = .ok (.lstore_n 2, 1) := by decide +kernel
theorem dX12_keptRead_25 : decode cX12_keptRead 25 = .ok (.lload_n 2, 1) := by decide +kernel
theorem dX12_keptRead_26 : decode cX12_keptRead 26 = .ok (.ldc2_w 278, 3) := by decide +kernel
theorem dX12_keptRead_29 : decode cX12_keptRead 29 = .ok (.lmul, 1) := by decide +kernel
theorem dX12_keptRead_30 : decode cX12_keptRead 30 = .ok (.aload_n 0, 1) := by decide +kernel
theorem dX12_keptRead_31 : decode cX12_keptRead 31 = .ok (.getfield 217, 3) := by decide +kernel
theorem dX12_keptRead_34 : decode cX12_keptRead 34 = .ok (.i2l, 1) := by decide +kernel
theorem dX12_keptRead_35 : decode cX12_keptRead 35 = .ok (.ladd, 1) := by decide +kernel
theorem dX12_keptRead_36 : decode cX12_keptRead 36 = .ok (.lstore_n 2, 1) := by decide +kernel
theorem dX12_keptRead_37 : decode cX12_keptRead 37 = .ok (.lload_n 2, 1) := by decide +kernel
theorem dX12_keptRead_38 : decode cX12_keptRead 38 = .ok (.ldc2_w 278, 3) := by decide +kernel
theorem dX12_keptRead_41 : decode cX12_keptRead 41 = .ok (.lmul, 1) := by decide +kernel
theorem dX12_keptRead_42 : decode cX12_keptRead 42 = .ok (.aload_n 0, 1) := by decide +kernel
theorem dX12_keptRead_43 : decode cX12_keptRead 43 = .ok (.getfield 220, 3) := by decide +kernel
theorem dX12_keptRead_46 : decode cX12_keptRead 46 = .ok (.i2l, 1) := by decide +kernel
theorem dX12_keptRead_47 : decode cX12_keptRead 47 = .ok (.ladd, 1) := by decide +kernel
theorem dX12_keptRead_48 : decode cX12_keptRead 48 = .ok (.lstore_n 2, 1) := by decide +kernel
theorem dX12_keptRead_49 : decode cX12_keptRead 49 = .ok (.lload_n 2, 1) := by decide +kernel
theorem dX12_keptRead_50 : decode cX12_keptRead 50 = .ok (.ldc2_w 278, 3) := by decide +kernel
theorem dX12_keptRead_53 : decode cX12_keptRead 53 = .ok (.lmul, 1) := by decide +kernel
theorem dX12_keptRead_54 : decode cX12_keptRead 54 = .ok (.aload_n 0, 1) := by decide +kernel
theorem dX12_keptRead_55 : decode cX12_keptRead 55 = .ok (.getfield 223, 3) := by decide +kernel
theorem dX12_keptRead_58 : decode cX12_keptRead 58 = .ok (.i2l, 1) := by decide +kernel
theorem dX12_keptRead_59 : decode cX12_keptRead 59 = .ok (.ladd, 1) := by decide +kernel
theorem dX12_keptRead_60 : decode cX12_keptRead 60 = .ok (.lstore_n 2, 1) := by decide +kernel
theorem dX12_keptRead_61 : decode cX12_keptRead 61 = .ok (.lload_n 2, 1) := by decide +kernel
theorem dX12_keptRead_62 : decode cX12_keptRead 62 = .ok (.ldc2_w 280, 3) := by decide +kernel
theorem dX12_keptRead_65 : decode cX12_keptRead 65 = .ok (.lmul, 1) := by decide +kernel
theorem dX12_keptRead_66 : decode cX12_keptRead 66 = .ok (.aload_n 0, 1) := by decide +kernel
theorem dX12_keptRead_67 : decode cX12_keptRead 67 = .ok (.getfield 226, 3) := by decide +kernel
theorem dX12_keptRead_70 : decode cX12_keptRead 70 = .ok (.i2l, 1) := by decide +kernel
theorem dX12_keptRead_71 : decode cX12_keptRead 71 = .ok (.ladd, 1) := by decide +kernel
theorem dX12_keptRead_72 : decode cX12_keptRead 72 = .ok (.lstore_n 2, 1) := by decide +kernel
theorem dX12_keptRead_73 : decode cX12_keptRead 73 = .ok (.lload_n 2, 1) := by decide +kernel
theorem dX12_keptRead_74 : decode cX12_keptRead 74 = .ok (.ldc2_w 280, 3) := by decide +kernel
theorem dX12_keptRead_77 : decode cX12_keptRead 77 = .ok (.lmul, 1) := by decide +kernel
theorem dX12_keptRead_78 : decode cX12_keptRead 78 = .ok (.aload_n 0, 1) := by decide +kernel
theorem dX12_keptRead_79 : decode cX12_keptRead 79 = .ok (.getfield 229, 3) := by decide +kernel
theorem dX12_keptRead_82 : decode cX12_keptRead 82 = .ok (.i2l, 1) := by decide +kernel
theorem dX12_keptRead_83 : decode cX12_keptRead 83 = .ok (.ladd, 1) := by decide +kernel
theorem dX12_keptRead_84 : decode cX12_keptRead 84 = .ok (.lconst 1, 1) := by decide +kernel
theorem dX12_keptRead_85 : decode cX12_keptRead 85 = .ok (.ladd, 1) := by decide +kernel
theorem dX12_keptRead_86 : decode cX12_keptRead 86 = .ok (.lstore_n 2, 1) := by decide +kernel
theorem dX12_keptRead_87 : decode cX12_keptRead 87 = .ok (.lload_n 2, 1) := by decide +kernel
theorem dX12_keptRead_88 : decode cX12_keptRead 88 = .ok (.ldc2_w 282, 3) := by decide +kernel
theorem dX12_keptRead_91 : decode cX12_keptRead 91 = .ok (.lmul, 1) := by decide +kernel
theorem dX12_keptRead_92 : decode cX12_keptRead 92 = .ok (.bipush 54, 2) := by decide +kernel
theorem dX12_keptRead_94 : decode cX12_keptRead 94 = .ok (.lushr, 1) := by decide +kernel
theorem dX12_keptRead_95 : decode cX12_keptRead 95 = .ok (.l2i, 1) := by decide +kernel
theorem dX12_keptRead_96 : decode cX12_keptRead 96 = .ok (.istore 4, 2) := by decide +kernel
theorem dX12_keptRead_98 : decode cX12_keptRead 98 = .ok (.aload_n 0, 1) := by decide +kernel
theorem dX12_keptRead_99 : decode cX12_keptRead 99 = .ok (.getfield 50, 3) := by decide +kernel
theorem dX12_keptRead_102 : decode cX12_keptRead 102 = .ok (.iload 4, 2) := by decide +kernel
theorem dX12_keptRead_104 : decode cX12_keptRead 104 = .ok (.laload, 1) := by decide +kernel
theorem dX12_keptRead_105 : decode cX12_keptRead 105 = .ok (.lload_n 2, 1) := by decide +kernel
theorem dX12_keptRead_106 : decode cX12_keptRead 106 = .ok (.lcmp, 1) := by decide +kernel
theorem dX12_keptRead_107 : decode cX12_keptRead 107 = .ok (.ifCond .eq 27, 3) := by decide +kernel
theorem dX12_keptRead_110 : decode cX12_keptRead 110 = .ok (.aload_n 0, 1) := by decide +kernel
theorem dX12_keptRead_111 : decode cX12_keptRead 111 = .ok (.getfield 54, 3) := by decide +kernel
theorem dX12_keptRead_114 : decode cX12_keptRead 114 = .ok (.iload 4, 2) := by decide +kernel
theorem dX12_keptRead_116 : decode cX12_keptRead 116 = .ok (.aload_n 0, 1) := by decide +kernel
theorem dX12_keptRead_117 : decode cX12_keptRead 117 = .ok (.aload_n 0, 1) := by decide +kernel
theorem dX12_keptRead_118 : decode cX12_keptRead 118 = .ok (.getfield 272, 3) := by decide +kernel
theorem dX12_keptRead_121 : decode cX12_keptRead 121 = .ok (.iload_n 1, 1) := by decide +kernel
theorem dX12_keptRead_122 : decode cX12_keptRead 122 = .ok (.invokevirtual 269, 3) := by decide +kernel
theorem dX12_keptRead_125 : decode cX12_keptRead 125 = .ok (.iastore, 1) := by decide +kernel
theorem dX12_keptRead_126 : decode cX12_keptRead 126 = .ok (.aload_n 0, 1) := by decide +kernel
theorem dX12_keptRead_127 : decode cX12_keptRead 127 = .ok (.getfield 50, 3) := by decide +kernel
theorem dX12_keptRead_130 : decode cX12_keptRead 130 = .ok (.iload 4, 2) := by decide +kernel
theorem dX12_keptRead_132 : decode cX12_keptRead 132 = .ok (.lload_n 2, 1) := by decide +kernel
theorem dX12_keptRead_133 : decode cX12_keptRead 133 = .ok (.lastore, 1) := by decide +kernel
theorem dX12_keptRead_134 : decode cX12_keptRead 134 = .ok (.aload_n 0, 1) := by decide +kernel
theorem dX12_keptRead_135 : decode cX12_keptRead 135 = .ok (.getfield 54, 3) := by decide +kernel
theorem dX12_keptRead_138 : decode cX12_keptRead 138 = .ok (.iload 4, 2) := by decide +kernel
theorem dX12_keptRead_140 : decode cX12_keptRead 140 = .ok (.iaload, 1) := by decide +kernel
theorem dX12_keptRead_141 : decode cX12_keptRead 141 = .ok (.ireturn, 1) := by decide +kernel
theorem dX12_beside_0 : decode cX12_beside 0 = .ok (.iload_n 0, 1) := by decide +kernel
theorem dX12_beside_1 : decode cX12_beside 1 = .ok (.bipush 6, 2) := by decide +kernel
theorem dX12_beside_3 : decode cX12_beside 3 = .ok (.idiv, 1) := by decide +kernel
theorem dX12_beside_4 : decode cX12_beside 4 = .ok (.iload_n 1, 1) := by decide +kernel
theorem dX12_beside_5 : decode cX12_beside 5 = .ok (.iconst 2, 1) := by decide +kernel
theorem dX12_beside_6 : decode cX12_beside 6 = .ok (.if_icmp .ne 7, 3) := by decide +kernel
theorem dX12_beside_9 : decode cX12_beside 9 = .ok (.iconst 1, 1) := by decide +kernel
theorem dX12_beside_10 : decode cX12_beside 10 = .ok (.goto 12, 3) := by decide +kernel
theorem dX12_beside_13 : decode cX12_beside 13 = .ok (.iload_n 1, 1) := by decide +kernel
theorem dX12_beside_14 : decode cX12_beside 14 = .ok (.ifCond .ne 7, 3) := by decide +kernel
theorem dX12_beside_17 : decode cX12_beside 17 = .ok (.iconst (-1), 1) := by decide +kernel
theorem dX12_beside_18 : decode cX12_beside 18 = .ok (.goto 4, 3) := by decide +kernel
theorem dX12_beside_21 : decode cX12_beside 21 = .ok (.iconst 0, 1) := by decide +kernel
theorem dX12_beside_22 : decode cX12_beside 22 = .ok (.iadd, 1) := by decide +kernel
theorem dX12_beside_23 : decode cX12_beside 23 = .ok (.istore_n 2, 1) := by decide +kernel
theorem dX12_beside_24 : decode cX12_beside 24 = .ok (.iload_n 0, 1) := by decide +kernel
theorem dX12_beside_25 : decode cX12_beside 25 = .ok (.bipush 6, 2) := by decide +kernel
theorem dX12_beside_27 : decode cX12_beside 27 = .ok (.irem, 1) := by decide +kernel
theorem dX12_beside_28 : decode cX12_beside 28 = .ok (.iload_n 1, 1) := by decide +kernel
theorem dX12_beside_29 : decode cX12_beside 29 = .ok (.iconst 1, 1) := by decide +kernel
theorem dX12_beside_30 : decode cX12_beside 30 = .ok (.if_icmp .ne 7, 3) := by decide +kernel
theorem dX12_beside_33 : decode cX12_beside 33 = .ok (.iconst 1, 1) := by decide +kernel
theorem dX12_beside_34 : decode cX12_beside 34 = .ok (.goto 13, 3) := by decide +kernel
theorem dX12_beside_37 : decode cX12_beside 37 = .ok (.iload_n 1, 1) := by decide +kernel
theorem dX12_beside_38 : decode cX12_beside 38 = .ok (.iconst 3, 1) := by decide +kernel
theorem dX12_beside_39 : decode cX12_beside 39 = .ok (.if_icmp .ne 7, 3) := by decide +kernel
theorem dX12_beside_42 : decode cX12_beside 42 = .ok (.iconst (-1), 1) := by decide +kernel
theorem dX12_beside_43 : decode cX12_beside 43 = .ok (.goto 4, 3) := by decide +kernel
theorem dX12_beside_46 : decode cX12_beside 46 = .ok (.iconst 0, 1) := by decide +kernel
theorem dX12_beside_47 : decode cX12_beside 47 = .ok (.iadd, 1) := by decide +kernel
theorem dX12_beside_48 : decode cX12_beside 48 = .ok (.istore_n 3, 1) := by decide +kernel
theorem dX12_beside_49 : decode cX12_beside 49 = .ok (.iload_n 2, 1) := by decide +kernel
theorem dX12_beside_50 : decode cX12_beside 50 = .ok (.i2l, 1) := by decide +kernel
theorem dX12_beside_51 : decode cX12_beside 51 = .ok (.lconst 0, 1) := by decide +kernel
theorem dX12_beside_52 : decode cX12_beside 52 = .ok (.ldc2_w 128, 3) := by decide +kernel
theorem dX12_beside_55 : decode cX12_beside 55 = .ok (.invokestatic 109, 3) := by decide +kernel
theorem dX12_beside_58 : decode cX12_beside 58 = .ok (.ifCond .eq 24, 3) := by decide +kernel
theorem dX12_beside_61 : decode cX12_beside 61 = .ok (.iload_n 3, 1) := by decide +kernel
theorem dX12_beside_62 : decode cX12_beside 62 = .ok (.i2l, 1) := by decide +kernel
theorem dX12_beside_63 : decode cX12_beside 63 = .ok (.lconst 0, 1) := by decide +kernel
theorem dX12_beside_64 : decode cX12_beside 64 = .ok (.ldc2_w 128, 3) := by decide +kernel
theorem dX12_beside_67 : decode cX12_beside 67 = .ok (.invokestatic 109, 3) := by decide +kernel
theorem dX12_beside_70 : decode cX12_beside 70 = .ok (.ifCond .eq 12, 3) := by decide +kernel
theorem dX12_beside_73 : decode cX12_beside 73 = .ok (.bipush 6, 2) := by decide +kernel
theorem dX12_beside_75 : decode cX12_beside 75 = .ok (.iload_n 2, 1) := by decide +kernel
theorem dX12_beside_76 : decode cX12_beside 76 = .ok (.imul, 1) := by decide +kernel
theorem dX12_beside_77 : decode cX12_beside 77 = .ok (.iload_n 3, 1) := by decide +kernel
theorem dX12_beside_78 : decode cX12_beside 78 = .ok (.iadd, 1) := by decide +kernel
theorem dX12_beside_79 : decode cX12_beside 79 = .ok (.goto 4, 3) := by decide +kernel
theorem dX12_beside_82 : decode cX12_beside 82 = .ok (.iconst (-1), 1) := by decide +kernel
theorem dX12_beside_83 : decode cX12_beside 83 = .ok (.ireturn, 1) := by decide +kernel
theorem dX12_looks_0 : decode cX12_looks 0 = .ok (.aload_n 0, 1) := by decide +kernel
theorem dX12_looks_1 : decode cX12_looks 1 = .ok (.getfield 63, 3) := by decide +kernel
theorem dX12_looks_4 : decode cX12_looks 4 = .ok (.iload_n 1, 1) := by decide +kernel
theorem dX12_looks_5 : decode cX12_looks 5 = .ok (.iconst 0, 1) := by decide +kernel
theorem dX12_looks_6 : decode cX12_looks 6 = .ok (.iastore, 1) := by decide +kernel
theorem dX12_looks_7 : decode cX12_looks 7 = .ok (.aload_n 0, 1) := by decide +kernel
theorem dX12_looks_8 : decode cX12_looks 8 = .ok (.getfield 23, 3) := by decide +kernel
theorem dX12_looks_11 : decode cX12_looks 11 = .ok (.aload_n 0, 1) := by decide +kernel
theorem dX12_looks_12 : decode cX12_looks 12 = .ok (.getfield 38, 3) := by decide +kernel
theorem dX12_looks_15 : decode cX12_looks 15 = .ok (.iload_n 1, 1) := by decide +kernel
theorem dX12_looks_16 : decode cX12_looks 16 = .ok (.iaload, 1) := by decide +kernel
theorem dX12_looks_17 : decode cX12_looks 17 = .ok (.iaload, 1) := by decide +kernel
theorem dX12_looks_18 : decode cX12_looks 18 = .ok (.istore_n 2, 1) := by decide +kernel
theorem dX12_looks_19 : decode cX12_looks 19 = .ok (.iconst 1, 1) := by decide +kernel
theorem dX12_looks_20 : decode cX12_looks 20 = .ok (.istore_n 3, 1) := by decide +kernel
theorem dX12_looks_21 : decode cX12_looks 21 = .ok (.iconst 1, 1) := by decide +kernel
theorem dX12_looks_22 : decode cX12_looks 22 = .ok (.istore 4, 2) := by decide +kernel
theorem dX12_looks_24 : decode cX12_looks 24 = .ok (.aload_n 0, 1) := by decide +kernel
theorem dX12_looks_25 : decode cX12_looks 25 = .ok (.getfield 38, 3) := by decide +kernel
theorem dX12_looks_28 : decode cX12_looks 28 = .ok (.iload_n 1, 1) := by decide +kernel
theorem dX12_looks_29 : decode cX12_looks 29 = .ok (.iaload, 1) := by decide +kernel
theorem dX12_looks_30 : decode cX12_looks 30 = .ok (.aload_n 0, 1) := by decide +kernel
theorem dX12_looks_31 : decode cX12_looks 31 = .ok (.getfield 41, 3) := by decide +kernel
theorem dX12_looks_34 : decode cX12_looks 34 = .ok (.iload_n 1, 1) := by decide +kernel
theorem dX12_looks_35 : decode cX12_looks 35 = .ok (.iaload, 1) := by decide +kernel
theorem dX12_looks_36 : decode cX12_looks 36 = .ok (.invokestatic 284, 3) := by decide +kernel
theorem dX12_looks_39 : decode cX12_looks 39 = .ok (.istore 5, 2) := by decide +kernel
theorem dX12_looks_41 : decode cX12_looks 41 = .ok (.iload 5, 2) := by decide +kernel
theorem dX12_looks_43 : decode cX12_looks 43 = .ok (.iconst (-1), 1) := by decide +kernel
theorem dX12_looks_44 : decode cX12_looks 44 = .ok (.if_icmp .eq 163, 3) := by decide +kernel
theorem dX12_looks_47 : decode cX12_looks 47 = .ok (.iload_n 3, 1) := by decide +kernel
theorem dX12_looks_48 : decode cX12_looks 48 = .ok (.ifCond .ne 14, 3) := by decide +kernel
theorem dX12_looks_51 : decode cX12_looks 51 = .ok (.aload_n 0, 1) := by decide +kernel
theorem dX12_looks_52 : decode cX12_looks 52 = .ok (.getfield 23, 3) := by decide +kernel
theorem dX12_looks_55 : decode cX12_looks 55 = .ok (.iload 5, 2) := by decide +kernel
theorem dX12_looks_57 : decode cX12_looks 57 = .ok (.iaload, 1) := by decide +kernel
theorem dX12_looks_58 : decode cX12_looks 58 = .ok (.iload_n 2, 1) := by decide +kernel
theorem dX12_looks_59 : decode cX12_looks 59 = .ok (.if_icmp .le 108, 3) := by decide +kernel
theorem dX12_looks_62 : decode cX12_looks 62 = .ok (.iconst 0, 1) := by decide +kernel
theorem dX12_looks_63 : decode cX12_looks 63 = .ok (.istore 6, 2) := by decide +kernel
theorem dX12_looks_65 : decode cX12_looks 65 = .ok (.iload 6, 2) := by decide +kernel
theorem dX12_looks_67 : decode cX12_looks 67 = .ok (.aload_n 0, 1) := by decide +kernel
theorem dX12_looks_68 : decode cX12_looks 68 = .ok (.getfield 113, 3) := by decide +kernel
theorem dX12_looks_71 : decode cX12_looks 71 = .ok (.if_icmp .ge 96, 3) := by decide +kernel
theorem dX12_looks_74 : decode cX12_looks 74 = .ok (.aload_n 0, 1) := by decide +kernel
theorem dX12_looks_75 : decode cX12_looks 75 = .ok (.iload 6, 2) := by decide +kernel
theorem dX12_looks_77 : decode cX12_looks 77 = .ok (.aload_n 0, 1) := by decide +kernel
theorem dX12_looks_78 : decode cX12_looks 78 = .ok (.getfield 44, 3) := by decide +kernel
theorem dX12_looks_81 : decode cX12_looks 81 = .ok (.iload_n 1, 1) := by decide +kernel
theorem dX12_looks_82 : decode cX12_looks 82 = .ok (.iaload, 1) := by decide +kernel
theorem dX12_looks_83 : decode cX12_looks 83 = .ok (.invokevirtual 148, 3) := by decide +kernel
theorem dX12_looks_86 : decode cX12_looks 86 = .ok (.iload 5, 2) := by decide +kernel
theorem dX12_looks_88 : decode cX12_looks 88 = .ok (.if_icmp .ne 73, 3) := by decide +kernel
theorem dX12_looks_91 : decode cX12_looks 91 = .ok (.aload_n 0, 1) := by decide +kernel
theorem dX12_looks_92 : decode cX12_looks 92 = .ok (.iload 6, 2) := by decide +kernel
theorem dX12_looks_94 : decode cX12_looks 94 = .ok (.iload 4, 2) := by decide +kernel
theorem dX12_looks_96 : decode cX12_looks 96 = .ok (.invokevirtual 287, 3) := by decide +kernel
theorem dX12_looks_99 : decode cX12_looks 99 = .ok (.ifCond .eq 62, 3) := by decide +kernel
theorem dX12_looks_102 : decode cX12_looks 102 = .ok (.aload_n 0, 1) := by decide +kernel
theorem dX12_looks_103 : decode cX12_looks 103 = .ok (.iconst 0, 1) := by decide +kernel
theorem dX12_looks_104 : decode cX12_looks 104 = .ok (.iload_n 1, 1) := by decide +kernel
theorem dX12_looks_105 : decode cX12_looks 105 = .ok (.iload 6, 2) := by decide +kernel
theorem dX12_looks_107 : decode cX12_looks 107 = .ok (.iload 4, 2) := by decide +kernel
theorem dX12_looks_109 : decode cX12_looks 109 = .ok (.invokevirtual 290, 3) := by decide +kernel
theorem dX12_looks_112 : decode cX12_looks 112 = .ok (.ifCond .eq 49, 3) := by decide +kernel
theorem dX12_looks_115 : decode cX12_looks 115 = .ok (.aload_n 0, 1) := by decide +kernel
theorem dX12_looks_116 : decode cX12_looks 116 = .ok (.getfield 57, 3) := by decide +kernel
theorem dX12_looks_119 : decode cX12_looks 119 = .ok (.bipush 6, 2) := by decide +kernel
theorem dX12_looks_121 : decode cX12_looks 121 = .ok (.iload_n 1, 1) := by decide +kernel
theorem dX12_looks_122 : decode cX12_looks 122 = .ok (.imul, 1) := by decide +kernel
theorem dX12_looks_123 : decode cX12_looks 123 = .ok (.aload_n 0, 1) := by decide +kernel
theorem dX12_looks_124 : decode cX12_looks 124 = .ok (.getfield 63, 3) := by decide +kernel
theorem dX12_looks_127 : decode cX12_looks 127 = .ok (.iload_n 1, 1) := by decide +kernel
theorem dX12_looks_128 : decode cX12_looks 128 = .ok (.iaload, 1) := by decide +kernel
theorem dX12_looks_129 : decode cX12_looks 129 = .ok (.iadd, 1) := by decide +kernel
theorem dX12_looks_130 : decode cX12_looks 130 = .ok (.iload 6, 2) := by decide +kernel
theorem dX12_looks_132 : decode cX12_looks 132 = .ok (.iastore, 1) := by decide +kernel
theorem dX12_looks_133 : decode cX12_looks 133 = .ok (.aload_n 0, 1) := by decide +kernel
theorem dX12_looks_134 : decode cX12_looks 134 = .ok (.getfield 60, 3) := by decide +kernel
theorem dX12_looks_137 : decode cX12_looks 137 = .ok (.bipush 6, 2) := by decide +kernel
theorem dX12_looks_139 : decode cX12_looks 139 = .ok (.iload_n 1, 1) := by decide +kernel
theorem dX12_looks_140 : decode cX12_looks 140 = .ok (.imul, 1) := by decide +kernel
theorem dX12_looks_141 : decode cX12_looks 141 = .ok (.aload_n 0, 1) := by decide +kernel
theorem dX12_looks_142 : decode cX12_looks 142 = .ok (.getfield 63, 3) := by decide +kernel
theorem dX12_looks_145 : decode cX12_looks 145 = .ok (.iload_n 1, 1) := by decide +kernel
theorem dX12_looks_146 : decode cX12_looks 146 = .ok (.iaload, 1) := by decide +kernel
theorem dX12_looks_147 : decode cX12_looks 147 = .ok (.iadd, 1) := by decide +kernel
theorem dX12_looks_148 : decode cX12_looks 148 = .ok (.iload 4, 2) := by decide +kernel
theorem dX12_looks_150 : decode cX12_looks 150 = .ok (.iastore, 1) := by decide +kernel
theorem dX12_looks_151 : decode cX12_looks 151 = .ok (.aload_n 0, 1) := by decide +kernel
theorem dX12_looks_152 : decode cX12_looks 152 = .ok (.getfield 63, 3) := by decide +kernel
theorem dX12_looks_155 : decode cX12_looks 155 = .ok (.iload_n 1, 1) := by decide +kernel
theorem dX12_looks_156 : decode cX12_looks 156 = .ok (.dup2, 1) := by decide +kernel
theorem dX12_looks_157 : decode cX12_looks 157 = .ok (.iaload, 1) := by decide +kernel
theorem dX12_looks_158 : decode cX12_looks 158 = .ok (.iconst 1, 1) := by decide +kernel
theorem dX12_looks_159 : decode cX12_looks 159 = .ok (.iadd, 1) := by decide +kernel
theorem dX12_looks_160 : decode cX12_looks 160 = .ok (.iastore, 1) := by decide +kernel
theorem dX12_looks_161 : decode cX12_looks 161 = .ok (.iinc 6 1, 3) := by decide +kernel
theorem dX12_looks_164 : decode cX12_looks 164 = .ok (.goto (-99), 3) := by decide +kernel
theorem dX12_looks_167 : decode cX12_looks 167 = .ok (.aload_n 0, 1) := by decide +kernel
theorem dX12_looks_168 : decode cX12_looks 168 = .ok (.getfield 23, 3) := by decide +kernel
theorem dX12_looks_171 : decode cX12_looks 171 = .ok (.iload 5, 2) := by decide +kernel
theorem dX12_looks_173 : decode cX12_looks 173 = .ok (.iaload, 1) := by decide +kernel
theorem dX12_looks_174 : decode cX12_looks 174 = .ok (.iload_n 2, 1) := by decide +kernel
theorem dX12_looks_175 : decode cX12_looks 175 = .ok (.if_icmp .le 13, 3) := by decide +kernel
theorem dX12_looks_178 : decode cX12_looks 178 = .ok (.aload_n 0, 1) := by decide +kernel
theorem dX12_looks_179 : decode cX12_looks 179 = .ok (.getfield 23, 3) := by decide +kernel
theorem dX12_looks_182 : decode cX12_looks 182 = .ok (.iload 5, 2) := by decide +kernel
theorem dX12_looks_184 : decode cX12_looks 184 = .ok (.iaload, 1) := by decide +kernel
theorem dX12_looks_185 : decode cX12_looks 185 = .ok (.istore_n 2, 1) := by decide +kernel
theorem dX12_looks_186 : decode cX12_looks 186 = .ok (.iconst 0, 1) := by decide +kernel
theorem dX12_looks_187 : decode cX12_looks 187 = .ok (.istore_n 3, 1) := by decide +kernel
theorem dX12_looks_188 : decode cX12_looks 188 = .ok (.iinc 4 1, 3) := by decide +kernel
theorem dX12_looks_191 : decode cX12_looks 191 = .ok (.iload 5, 2) := by decide +kernel
theorem dX12_looks_193 : decode cX12_looks 193 = .ok (.aload_n 0, 1) := by decide +kernel
theorem dX12_looks_194 : decode cX12_looks 194 = .ok (.getfield 41, 3) := by decide +kernel
theorem dX12_looks_197 : decode cX12_looks 197 = .ok (.iload_n 1, 1) := by decide +kernel
theorem dX12_looks_198 : decode cX12_looks 198 = .ok (.iaload, 1) := by decide +kernel
theorem dX12_looks_199 : decode cX12_looks 199 = .ok (.invokestatic 284, 3) := by decide +kernel
theorem dX12_looks_202 : decode cX12_looks 202 = .ok (.istore 5, 2) := by decide +kernel
theorem dX12_looks_204 : decode cX12_looks 204 = .ok (.goto (-163), 3) := by decide +kernel
theorem dX12_looks_207 : decode cX12_looks 207 = .ok (.return_, 1) := by decide +kernel
theorem dX12_ahead_0 : decode cX12_ahead 0 = .ok (.aload_n 0, 1) := by decide +kernel
theorem dX12_ahead_1 : decode cX12_ahead 1 = .ok (.getfield 44, 3) := by decide +kernel
theorem dX12_ahead_4 : decode cX12_ahead 4 = .ok (.iload_n 1, 1) := by decide +kernel
theorem dX12_ahead_5 : decode cX12_ahead 5 = .ok (.iaload, 1) := by decide +kernel
theorem dX12_ahead_6 : decode cX12_ahead 6 = .ok (.aload_n 0, 1) := by decide +kernel
theorem dX12_ahead_7 : decode cX12_ahead 7 = .ok (.getfield 44, 3) := by decide +kernel
theorem dX12_ahead_10 : decode cX12_ahead 10 = .ok (.iload_n 2, 1) := by decide +kernel
theorem dX12_ahead_11 : decode cX12_ahead 11 = .ok (.iaload, 1) := by decide +kernel
theorem dX12_ahead_12 : decode cX12_ahead 12 = .ok (.if_icmp .eq 24, 3) := by decide +kernel
theorem dX12_ahead_15 : decode cX12_ahead 15 = .ok (.aload_n 0, 1) := by decide +kernel
theorem dX12_ahead_16 : decode cX12_ahead 16 = .ok (.getfield 44, 3) := by decide +kernel
theorem dX12_ahead_19 : decode cX12_ahead 19 = .ok (.iload_n 1, 1) := by decide +kernel
theorem dX12_ahead_20 : decode cX12_ahead 20 = .ok (.iaload, 1) := by decide +kernel
theorem dX12_ahead_21 : decode cX12_ahead 21 = .ok (.aload_n 0, 1) := by decide +kernel
theorem dX12_ahead_22 : decode cX12_ahead 22 = .ok (.getfield 44, 3) := by decide +kernel
theorem dX12_ahead_25 : decode cX12_ahead 25 = .ok (.iload_n 2, 1) := by decide +kernel
theorem dX12_ahead_26 : decode cX12_ahead 26 = .ok (.iaload, 1) := by decide +kernel
theorem dX12_ahead_27 : decode cX12_ahead 27 = .ok (.if_icmp .ge 7, 3) := by decide +kernel
theorem dX12_ahead_30 : decode cX12_ahead 30 = .ok (.iconst 1, 1) := by decide +kernel
theorem dX12_ahead_31 : decode cX12_ahead 31 = .ok (.goto 4, 3) := by decide +kernel
theorem dX12_ahead_34 : decode cX12_ahead 34 = .ok (.iconst 0, 1) := by decide +kernel
theorem dX12_ahead_35 : decode cX12_ahead 35 = .ok (.ireturn, 1) := by decide +kernel
theorem dX12_ahead_36 : decode cX12_ahead 36 = .ok (.aload_n 0, 1) := by decide +kernel
theorem dX12_ahead_37 : decode cX12_ahead 37 = .ok (.getfield 47, 3) := by decide +kernel
theorem dX12_ahead_40 : decode cX12_ahead 40 = .ok (.iload_n 1, 1) := by decide +kernel
theorem dX12_ahead_41 : decode cX12_ahead 41 = .ok (.iaload, 1) := by decide +kernel
theorem dX12_ahead_42 : decode cX12_ahead 42 = .ok (.aload_n 0, 1) := by decide +kernel
theorem dX12_ahead_43 : decode cX12_ahead 43 = .ok (.getfield 47, 3) := by decide +kernel
theorem dX12_ahead_46 : decode cX12_ahead 46 = .ok (.iload_n 2, 1) := by decide +kernel
theorem dX12_ahead_47 : decode cX12_ahead 47 = .ok (.iaload, 1) := by decide +kernel
theorem dX12_ahead_48 : decode cX12_ahead 48 = .ok (.if_icmp .ne 16, 3) := by decide +kernel
theorem dX12_ahead_51 : decode cX12_ahead 51 = .ok (.iload_n 1, 1) := by decide +kernel
theorem dX12_ahead_52 : decode cX12_ahead 52 = .ok (.iload_n 2, 1) := by decide +kernel
theorem dX12_ahead_53 : decode cX12_ahead 53 = .ok (.if_icmp .ge 7, 3) := by decide +kernel
theorem dX12_ahead_56 : decode cX12_ahead 56 = .ok (.iconst 1, 1) := by decide +kernel
theorem dX12_ahead_57 : decode cX12_ahead 57 = .ok (.goto 27, 3) := by decide +kernel
theorem dX12_ahead_60 : decode cX12_ahead 60 = .ok (.iconst 0, 1) := by decide +kernel
theorem dX12_ahead_61 : decode cX12_ahead 61 = .ok (.goto 23, 3) := by decide +kernel
theorem dX12_ahead_64 : decode cX12_ahead 64 = .ok (.aload_n 0, 1) := by decide +kernel
theorem dX12_ahead_65 : decode cX12_ahead 65 = .ok (.getfield 47, 3) := by decide +kernel
theorem dX12_ahead_68 : decode cX12_ahead 68 = .ok (.iload_n 1, 1) := by decide +kernel
theorem dX12_ahead_69 : decode cX12_ahead 69 = .ok (.iaload, 1) := by decide +kernel
theorem dX12_ahead_70 : decode cX12_ahead 70 = .ok (.aload_n 0, 1) := by decide +kernel
theorem dX12_ahead_71 : decode cX12_ahead 71 = .ok (.getfield 47, 3) := by decide +kernel
theorem dX12_ahead_74 : decode cX12_ahead 74 = .ok (.iload_n 2, 1) := by decide +kernel
theorem dX12_ahead_75 : decode cX12_ahead 75 = .ok (.iaload, 1) := by decide +kernel
theorem dX12_ahead_76 : decode cX12_ahead 76 = .ok (.if_icmp .le 7, 3) := by decide +kernel
theorem dX12_ahead_79 : decode cX12_ahead 79 = .ok (.iconst 1, 1) := by decide +kernel
theorem dX12_ahead_80 : decode cX12_ahead 80 = .ok (.goto 4, 3) := by decide +kernel
theorem dX12_ahead_83 : decode cX12_ahead 83 = .ok (.iconst 0, 1) := by decide +kernel
theorem dX12_ahead_84 : decode cX12_ahead 84 = .ok (.ireturn, 1) := by decide +kernel
theorem dX12_morning_0 : decode cX12_morning 0 = .ok (.iconst 0, 1) := by decide +kernel
theorem dX12_morning_1 : decode cX12_morning 1 = .ok (.istore_n 1, 1) := by decide +kernel
theorem dX12_morning_2 : decode cX12_morning 2 = .ok (.iconst 0, 1) := by decide +kernel
theorem dX12_morning_3 : decode cX12_morning 3 = .ok (.istore_n 2, 1) := by decide +kernel
theorem dX12_morning_4 : decode cX12_morning 4 = .ok (.iconst 0, 1) := by decide +kernel
theorem dX12_morning_5 : decode cX12_morning 5 = .ok (.istore_n 3, 1) := by decide +kernel
theorem dX12_morning_6 : decode cX12_morning 6 = .ok (.iload_n 3, 1) := by decide +kernel
theorem dX12_morning_7 : decode cX12_morning 7 = .ok (.aload_n 0, 1) := by decide +kernel
theorem dX12_morning_8 : decode cX12_morning 8 = .ok (.getfield 116, 3) := by decide +kernel
theorem dX12_morning_11 : decode cX12_morning 11 = .ok (.if_icmp .ge 21, 3) := by decide +kernel
theorem dX12_morning_14 : decode cX12_morning 14 = .ok (.aload_n 0, 1) := by decide +kernel
theorem dX12_morning_15 : decode cX12_morning 15 = .ok (.iload_n 3, 1) := by decide +kernel
theorem dX12_morning_16 : decode cX12_morning 16 = .ok (.invokevirtual 294, 3) := by decide +kernel
theorem dX12_morning_19 : decode cX12_morning 19 = .ok (.aload_n 0, 1) := by decide +kernel
theorem dX12_morning_20 : decode cX12_morning 20 = .ok (.getfield 66, 3) := by decide +kernel
theorem dX12_morning_23 : decode cX12_morning 23 = .ok (.iload_n 3, 1) := by decide +kernel
theorem dX12_morning_24 : decode cX12_morning 24 = .ok (.iconst (-1), 1) := by decide +kernel
theorem dX12_morning_25 : decode cX12_morning 25 = .ok (.iastore, 1) := by decide +kernel
theorem dX12_morning_26 : decode cX12_morning 26 = .ok (.iinc 3 1, 3) := by decide +kernel
theorem dX12_morning_29 : decode cX12_morning 29 = .ok (.goto (-23), 3) := by decide +kernel
theorem dX12_morning_32 : decode cX12_morning 32 = .ok (.iconst 0, 1) := by decide +kernel
theorem dX12_morning_33 : decode cX12_morning 33 = .ok (.istore_n 3, 1) := by decide +kernel
theorem dX12_morning_34 : decode cX12_morning 34 = .ok (.iload_n 3, 1) := by decide +kernel
theorem dX12_morning_35 : decode cX12_morning 35 = .ok (.aload_n 0, 1) := by decide +kernel
theorem dX12_morning_36 : decode cX12_morning 36 = .ok (.getfield 116, 3) := by decide +kernel
theorem dX12_morning_39 : decode cX12_morning 39 = .ok (.if_icmp .ge 159, 3) := by decide +kernel
theorem dX12_morning_42 : decode cX12_morning 42 = .ok (.iconst (-1), 1) := by decide +kernel
theorem dX12_morning_43 : decode cX12_morning 43 = .ok (.istore 4, 2) := by decide +kernel
theorem dX12_morning_45 : decode cX12_morning 45 = .ok (.iconst 0, 1) := by decide +kernel
theorem dX12_morning_46 : decode cX12_morning 46 = .ok (.istore 5, 2) := by decide +kernel
theorem dX12_morning_48 : decode cX12_morning 48 = .ok (.iload 5, 2) := by decide +kernel
theorem dX12_morning_50 : decode cX12_morning 50 = .ok (.aload_n 0, 1) := by decide +kernel
theorem dX12_morning_51 : decode cX12_morning 51 = .ok (.getfield 116, 3) := by decide +kernel
theorem dX12_morning_54 : decode cX12_morning 54 = .ok (.if_icmp .ge 39, 3) := by decide +kernel
theorem dX12_morning_57 : decode cX12_morning 57 = .ok (.iload_n 1, 1) := by decide +kernel
theorem dX12_morning_58 : decode cX12_morning 58 = .ok (.iload 5, 2) := by decide +kernel
theorem dX12_morning_60 : decode cX12_morning 60 = .ok (.ishr, 1) := by decide +kernel
theorem dX12_morning_61 : decode cX12_morning 61 = .ok (.iconst 1, 1) := by decide +kernel
theorem dX12_morning_62 : decode cX12_morning 62 = .ok (.iand, 1) := by decide +kernel
theorem dX12_morning_63 : decode cX12_morning 63 = .ok (.ifCond .ne 24, 3) := by decide +kernel
theorem dX12_morning_66 : decode cX12_morning 66 = .ok (.iload 4, 2) := by decide +kernel
theorem dX12_morning_68 : decode cX12_morning 68 = .ok (.iconst (-1), 1) := by decide +kernel
theorem dX12_morning_69 : decode cX12_morning 69 = .ok (.if_icmp .eq 14, 3) := by decide +kernel
theorem dX12_morning_72 : decode cX12_morning 72 = .ok (.aload_n 0, 1) := by decide +kernel
theorem dX12_morning_73 : decode cX12_morning 73 = .ok (.iload 5, 2) := by decide +kernel
theorem dX12_morning_75 : decode cX12_morning 75 = .ok (.iload 4, 2) := by decide +kernel
theorem dX12_morning_77 : decode cX12_morning 77 = .ok (.invokevirtual 298, 3) := by decide +kernel
theorem dX12_morning_80 : decode cX12_morning 80 = .ok (.ifCond .eq 7, 3) := by decide +kernel
theorem dX12_morning_83 : decode cX12_morning 83 = .ok (.iload 5, 2) := by decide +kernel
theorem dX12_morning_85 : decode cX12_morning 85 = .ok (.istore 4, 2) := by decide +kernel
theorem dX12_morning_87 : decode cX12_morning 87 = .ok (.iinc 5 1, 3) := by decide +kernel
theorem dX12_morning_90 : decode cX12_morning 90 = .ok (.goto (-42), 3) := by decide +kernel
theorem dX12_morning_93 : decode cX12_morning 93 = .ok (.iload_n 1, 1) := by decide +kernel
theorem dX12_morning_94 : decode cX12_morning 94 = .ok (.iconst 1, 1) := by decide +kernel
theorem dX12_morning_95 : decode cX12_morning 95 = .ok (.iload 4, 2) := by decide +kernel
theorem dX12_morning_97 : decode cX12_morning 97 = .ok (.ishl, 1) := by decide +kernel
theorem dX12_morning_98 : decode cX12_morning 98 = .ok (.ior, 1) := by decide +kernel
theorem dX12_morning_99 : decode cX12_morning 99 = .ok (.istore_n 1, 1) := by decide +kernel
theorem dX12_morning_100 : decode cX12_morning 100 = .ok (.iconst 0, 1) := by decide +kernel
theorem dX12_morning_101 : decode cX12_morning 101 = .ok (.istore 5, 2) := by decide +kernel
theorem dX12_morning_103 : decode cX12_morning 103 = .ok (.iload 5, 2) := by decide +kernel
theorem dX12_morning_105 : decode cX12_morning 105 = .ok (.aload_n 0, 1) := by decide +kernel
theorem dX12_morning_106 : decode cX12_morning 106 = .ok (.getfield 63, 3) := by decide +kernel
theorem dX12_morning_109 : decode cX12_morning 109 = .ok (.iload 4, 2) := by decide +kernel
theorem dX12_morning_111 : decode cX12_morning 111 = .ok (.iaload, 1) := by decide +kernel
theorem dX12_morning_112 : decode cX12_morning 112 = .ok (.if_icmp .ge 80, 3) := by decide +kernel
theorem dX12_morning_115 : decode cX12_morning 115 = .ok (.aload_n 0, 1) := by decide +kernel
theorem dX12_morning_116 : decode cX12_morning 116 = .ok (.getfield 66, 3) := by decide +kernel
theorem dX12_morning_119 : decode cX12_morning 119 = .ok (.iload 4, 2) := by decide +kernel
theorem dX12_morning_121 : decode cX12_morning 121 = .ok (.iaload, 1) := by decide +kernel
theorem dX12_morning_122 : decode cX12_morning 122 = .ok (.iconst (-1), 1) := by decide +kernel
theorem dX12_morning_123 : decode cX12_morning 123 = .ok (.if_icmp .ne 69, 3) := by decide +kernel
theorem dX12_morning_126 : decode cX12_morning 126 = .ok (.aload_n 0, 1) := by decide +kernel
theorem dX12_morning_127 : decode cX12_morning 127 = .ok (.getfield 57, 3) := by decide +kernel
theorem dX12_morning_130 : decode cX12_morning 130 = .ok (.bipush 6, 2) := by decide +kernel
theorem dX12_morning_132 : decode cX12_morning 132 = .ok (.iload 4, 2) := by decide +kernel
theorem dX12_morning_134 : decode cX12_morning 134 = .ok (.imul, 1) := by decide +kernel
theorem dX12_morning_135 : decode cX12_morning 135 = .ok (.iload 5, 2) := by decide +kernel
theorem dX12_morning_137 : decode cX12_morning 137 = .ok (.iadd, 1) := by decide +kernel
theorem dX12_morning_138 : decode cX12_morning 138 = .ok (.iaload, 1) := by decide +kernel
theorem dX12_morning_139 : decode cX12_morning 139 = .ok (.istore 6, 2) := by decide +kernel
theorem dX12_morning_141 : decode cX12_morning 141 = .ok (.iload_n 2, 1) := by decide +kernel
theorem dX12_morning_142 : decode cX12_morning 142 = .ok (.iload 6, 2) := by decide +kernel
theorem dX12_morning_144 : decode cX12_morning 144 = .ok (.ishr, 1) := by decide +kernel
theorem dX12_morning_145 : decode cX12_morning 145 = .ok (.iconst 1, 1) := by decide +kernel
theorem dX12_morning_146 : decode cX12_morning 146 = .ok (.iand, 1) := by decide +kernel
theorem dX12_morning_147 : decode cX12_morning 147 = .ok (.ifCond .ne 39, 3) := by decide +kernel
theorem dX12_morning_150 : decode cX12_morning 150 = .ok (.iload_n 2, 1) := by decide +kernel
theorem dX12_morning_151 : decode cX12_morning 151 = .ok (.iconst 1, 1) := by decide +kernel
theorem dX12_morning_152 : decode cX12_morning 152 = .ok (.iload 6, 2) := by decide +kernel
theorem dX12_morning_154 : decode cX12_morning 154 = .ok (.ishl, 1) := by decide +kernel
theorem dX12_morning_155 : decode cX12_morning 155 = .ok (.ior, 1) := by decide +kernel
theorem dX12_morning_156 : decode cX12_morning 156 = .ok (.istore_n 2, 1) := by decide +kernel
theorem dX12_morning_157 : decode cX12_morning 157 = .ok (.aload_n 0, 1) := by decide +kernel
theorem dX12_morning_158 : decode cX12_morning 158 = .ok (.getfield 66, 3) := by decide +kernel
theorem dX12_morning_161 : decode cX12_morning 161 = .ok (.iload 4, 2) := by decide +kernel
theorem dX12_morning_163 : decode cX12_morning 163 = .ok (.iload 6, 2) := by decide +kernel
theorem dX12_morning_165 : decode cX12_morning 165 = .ok (.iastore, 1) := by decide +kernel
theorem dX12_morning_166 : decode cX12_morning 166 = .ok (.aload_n 0, 1) := by decide +kernel
theorem dX12_morning_167 : decode cX12_morning 167 = .ok (.getfield 69, 3) := by decide +kernel
theorem dX12_morning_170 : decode cX12_morning 170 = .ok (.iload 4, 2) := by decide +kernel
theorem dX12_morning_172 : decode cX12_morning 172 = .ok (.aload_n 0, 1) := by decide +kernel
theorem dX12_morning_173 : decode cX12_morning 173 = .ok (.getfield 60, 3) := by decide +kernel
theorem dX12_morning_176 : decode cX12_morning 176 = .ok (.bipush 6, 2) := by decide +kernel
theorem dX12_morning_178 : decode cX12_morning 178 = .ok (.iload 4, 2) := by decide +kernel
theorem dX12_morning_180 : decode cX12_morning 180 = .ok (.imul, 1) := by decide +kernel
theorem dX12_morning_181 : decode cX12_morning 181 = .ok (.iload 5, 2) := by decide +kernel
theorem dX12_morning_183 : decode cX12_morning 183 = .ok (.iadd, 1) := by decide +kernel
theorem dX12_morning_184 : decode cX12_morning 184 = .ok (.iaload, 1) := by decide +kernel
theorem dX12_morning_185 : decode cX12_morning 185 = .ok (.iastore, 1) := by decide +kernel
theorem dX12_morning_186 : decode cX12_morning 186 = .ok (.iinc 5 1, 3) := by decide +kernel
theorem dX12_morning_189 : decode cX12_morning 189 = .ok (.goto (-86), 3) := by decide +kernel
theorem dX12_morning_192 : decode cX12_morning 192 = .ok (.iinc 3 1, 3) := by decide +kernel
theorem dX12_morning_195 : decode cX12_morning 195 = .ok (.goto (-161), 3) := by decide +kernel
theorem dX12_morning_198 : decode cX12_morning 198 = .ok (.return_, 1) := by decide +kernel
theorem dX12_leftOf_0 : decode cX12_leftOf 0 = .ok (.aload_n 0, 1) := by decide +kernel
theorem dX12_leftOf_1 : decode cX12_leftOf 1 = .ok (.iconst 2, 1) := by decide +kernel
theorem dX12_leftOf_2 : decode cX12_leftOf 2 = .ok (.iload_n 1, 1) := by decide +kernel
theorem dX12_leftOf_3 : decode cX12_leftOf 3 = .ok (.iconst 0, 1) := by decide +kernel
theorem dX12_leftOf_4 : decode cX12_leftOf 4 = .ok (.iconst 0, 1) := by decide +kernel
theorem dX12_leftOf_5 : decode cX12_leftOf 5 = .ok (.invokevirtual 290, 3) := by decide +kernel
theorem dX12_leftOf_8 : decode cX12_leftOf 8 = .ok (.iconst 0, 1) := by decide +kernel
theorem dX12_leftOf_9 : decode cX12_leftOf 9 = .ok (.bipush 99, 2) := by decide +kernel
theorem dX12_leftOf_11 : decode cX12_leftOf 11 = .ok (.invokestatic 301, 3) := by decide +kernel
theorem dX12_leftOf_14 : decode cX12_leftOf 14 = .ok (.istore_n 2, 1) := by decide +kernel
theorem dX12_leftOf_15 : decode cX12_leftOf 15 = .ok (.aload_n 0, 1) := by decide +kernel
theorem dX12_leftOf_16 : decode cX12_leftOf 16 = .ok (.getfield 66, 3) := by decide +kernel
theorem dX12_leftOf_19 : decode cX12_leftOf 19 = .ok (.iload_n 1, 1) := by decide +kernel
theorem dX12_leftOf_20 : decode cX12_leftOf 20 = .ok (.iaload, 1) := by decide +kernel
theorem dX12_leftOf_21 : decode cX12_leftOf 21 = .ok (.istore_n 3, 1) := by decide +kernel
theorem dX12_leftOf_22 : decode cX12_leftOf 22 = .ok (.iload_n 3, 1) := by decide +kernel
theorem dX12_leftOf_23 : decode cX12_leftOf 23 = .ok (.iconst (-1), 1) := by decide +kernel
theorem dX12_leftOf_24 : decode cX12_leftOf 24 = .ok (.if_icmp .ne 6, 3) := by decide +kernel
theorem dX12_leftOf_27 : decode cX12_leftOf 27 = .ok (.iload_n 2, 1) := by decide +kernel
theorem dX12_leftOf_28 : decode cX12_leftOf 28 = .ok (.ineg, 1) := by decide +kernel
theorem dX12_leftOf_29 : decode cX12_leftOf 29 = .ok (.ireturn, 1) := by decide +kernel
theorem dX12_leftOf_30 : decode cX12_leftOf 30 = .ok (.aload_n 0, 1) := by decide +kernel
theorem dX12_leftOf_31 : decode cX12_leftOf 31 = .ok (.iload_n 3, 1) := by decide +kernel
theorem dX12_leftOf_32 : decode cX12_leftOf 32 = .ok (.aload_n 0, 1) := by decide +kernel
theorem dX12_leftOf_33 : decode cX12_leftOf 33 = .ok (.getfield 32, 3) := by decide +kernel
theorem dX12_leftOf_36 : decode cX12_leftOf 36 = .ok (.iload_n 3, 1) := by decide +kernel
theorem dX12_leftOf_37 : decode cX12_leftOf 37 = .ok (.iaload, 1) := by decide +kernel
theorem dX12_leftOf_38 : decode cX12_leftOf 38 = .ok (.aload_n 0, 1) := by decide +kernel
theorem dX12_leftOf_39 : decode cX12_leftOf 39 = .ok (.iconst 1, 1) := by decide +kernel
theorem dX12_leftOf_40 : decode cX12_leftOf 40 = .ok (.iload_n 1, 1) := by decide +kernel
theorem dX12_leftOf_41 : decode cX12_leftOf 41 = .ok (.iload_n 3, 1) := by decide +kernel
theorem dX12_leftOf_42 : decode cX12_leftOf 42 = .ok (.aload_n 0, 1) := by decide +kernel
theorem dX12_leftOf_43 : decode cX12_leftOf 43 = .ok (.getfield 69, 3) := by decide +kernel
theorem dX12_leftOf_46 : decode cX12_leftOf 46 = .ok (.iload_n 1, 1) := by decide +kernel
theorem dX12_leftOf_47 : decode cX12_leftOf 47 = .ok (.iaload, 1) := by decide +kernel
theorem dX12_leftOf_48 : decode cX12_leftOf 48 = .ok (.invokevirtual 290, 3) := by decide +kernel
theorem dX12_leftOf_51 : decode cX12_leftOf 51 = .ok (.bipush (-99), 2) := by decide +kernel
theorem dX12_leftOf_53 : decode cX12_leftOf 53 = .ok (.bipush 99, 2) := by decide +kernel
theorem dX12_leftOf_55 : decode cX12_leftOf 55 = .ok (.invokestatic 301, 3) := by decide +kernel
theorem dX12_leftOf_58 : decode cX12_leftOf 58 = .ok (.iadd, 1) := by decide +kernel
theorem dX12_leftOf_59 : decode cX12_leftOf 59 = .ok (.aload_n 0, 1) := by decide +kernel
theorem dX12_leftOf_60 : decode cX12_leftOf 60 = .ok (.getfield 69, 3) := by decide +kernel
theorem dX12_leftOf_63 : decode cX12_leftOf 63 = .ok (.iload_n 1, 1) := by decide +kernel
theorem dX12_leftOf_64 : decode cX12_leftOf 64 = .ok (.iaload, 1) := by decide +kernel
theorem dX12_leftOf_65 : decode cX12_leftOf 65 = .ok (.invokevirtual 305, 3) := by decide +kernel
theorem dX12_leftOf_68 : decode cX12_leftOf 68 = .ok (.iload_n 2, 1) := by decide +kernel
theorem dX12_leftOf_69 : decode cX12_leftOf 69 = .ok (.isub, 1) := by decide +kernel
theorem dX12_leftOf_70 : decode cX12_leftOf 70 = .ok (.ireturn, 1) := by decide +kernel
theorem dX12_allLeft_0 : decode cX12_allLeft 0 = .ok (.iconst 0, 1) := by decide +kernel
theorem dX12_allLeft_1 : decode cX12_allLeft 1 = .ok (.istore_n 1, 1) := by decide +kernel
theorem dX12_allLeft_2 : decode cX12_allLeft 2 = .ok (.iconst 0, 1) := by decide +kernel
theorem dX12_allLeft_3 : decode cX12_allLeft 3 = .ok (.istore_n 2, 1) := by decide +kernel
theorem dX12_allLeft_4 : decode cX12_allLeft 4 = .ok (.iload_n 2, 1) := by decide +kernel
theorem dX12_allLeft_5 : decode cX12_allLeft 5 = .ok (.aload_n 0, 1) := by decide +kernel
theorem dX12_allLeft_6 : decode cX12_allLeft 6 = .ok (.getfield 116, 3) := by decide +kernel
theorem dX12_allLeft_9 : decode cX12_allLeft 9 = .ok (.if_icmp .ge 17, 3) := by decide +kernel
theorem dX12_allLeft_12 : decode cX12_allLeft 12 = .ok (.iload_n 1, 1) := by decide +kernel
theorem dX12_allLeft_13 : decode cX12_allLeft 13 = .ok (.aload_n 0, 1) := by decide +kernel
theorem dX12_allLeft_14 : decode cX12_allLeft 14 = .ok (.iload_n 2, 1) := by decide +kernel
theorem dX12_allLeft_15 : decode cX12_allLeft 15 = .ok (.invokevirtual 308, 3) := by decide +kernel
theorem dX12_allLeft_18 : decode cX12_allLeft 18 = .ok (.iadd, 1) := by decide +kernel
theorem dX12_allLeft_19 : decode cX12_allLeft 19 = .ok (.istore_n 1, 1) := by decide +kernel
theorem dX12_allLeft_20 : decode cX12_allLeft 20 = .ok (.iinc 2 1, 3) := by decide +kernel
theorem dX12_allLeft_23 : decode cX12_allLeft 23 = .ok (.goto (-19), 3) := by decide +kernel
theorem dX12_allLeft_26 : decode cX12_allLeft 26 = .ok (.iload_n 1, 1) := by decide +kernel
theorem dX12_allLeft_27 : decode cX12_allLeft 27 = .ok (.ireturn, 1) := by decide +kernel
theorem dX12_seen_0 : decode cX12_seen 0 = .ok (.aload_n 0, 1) := by decide +kernel
theorem dX12_seen_1 : decode cX12_seen 1 = .ok (.iload_n 1, 1) := by decide +kernel
theorem dX12_seen_2 : decode cX12_seen 2 = .ok (.invokevirtual 139, 3) := by decide +kernel
theorem dX12_seen_5 : decode cX12_seen 5 = .ok (.ifCond .eq 15, 3) := by decide +kernel
theorem dX12_seen_8 : decode cX12_seen 8 = .ok (.iload_n 2, 1) := by decide +kernel
theorem dX12_seen_9 : decode cX12_seen 9 = .ok (.i2l, 1) := by decide +kernel
theorem dX12_seen_10 : decode cX12_seen 10 = .ok (.lconst 0, 1) := by decide +kernel
theorem dX12_seen_11 : decode cX12_seen 11 = .ok (.ldc2_w 128, 3) := by decide +kernel
theorem dX12_seen_14 : decode cX12_seen 14 = .ok (.invokestatic 109, 3) := by decide +kernel
theorem dX12_seen_17 : decode cX12_seen 17 = .ok (.ifCond .ne 6, 3) := by decide +kernel
theorem dX12_seen_20 : decode cX12_seen 20 = .ok (.bipush (-2), 2) := by decide +kernel
theorem dX12_seen_22 : decode cX12_seen 22 = .ok (.ireturn, 1) := by decide +kernel
theorem dX12_seen_23 : decode cX12_seen 23 = .ok (.aload_n 0, 1) := by decide +kernel
theorem dX12_seen_24 : decode cX12_seen 24 = .ok (.iload_n 1, 1) := by decide +kernel
theorem dX12_seen_25 : decode cX12_seen 25 = .ok (.invokevirtual 294, 3) := by decide +kernel
theorem dX12_seen_28 : decode cX12_seen 28 = .ok (.iload_n 2, 1) := by decide +kernel
theorem dX12_seen_29 : decode cX12_seen 29 = .ok (.aload_n 0, 1) := by decide +kernel
theorem dX12_seen_30 : decode cX12_seen 30 = .ok (.getfield 63, 3) := by decide +kernel
theorem dX12_seen_33 : decode cX12_seen 33 = .ok (.iload_n 1, 1) := by decide +kernel
theorem dX12_seen_34 : decode cX12_seen 34 = .ok (.iaload, 1) := by decide +kernel
theorem dX12_seen_35 : decode cX12_seen 35 = .ok (.if_icmp .ge 17, 3) := by decide +kernel
theorem dX12_seen_38 : decode cX12_seen 38 = .ok (.aload_n 0, 1) := by decide +kernel
theorem dX12_seen_39 : decode cX12_seen 39 = .ok (.getfield 57, 3) := by decide +kernel
theorem dX12_seen_42 : decode cX12_seen 42 = .ok (.bipush 6, 2) := by decide +kernel
theorem dX12_seen_44 : decode cX12_seen 44 = .ok (.iload_n 1, 1) := by decide +kernel
theorem dX12_seen_45 : decode cX12_seen 45 = .ok (.imul, 1) := by decide +kernel
theorem dX12_seen_46 : decode cX12_seen 46 = .ok (.iload_n 2, 1) := by decide +kernel
theorem dX12_seen_47 : decode cX12_seen 47 = .ok (.iadd, 1) := by decide +kernel
theorem dX12_seen_48 : decode cX12_seen 48 = .ok (.iaload, 1) := by decide +kernel
theorem dX12_seen_49 : decode cX12_seen 49 = .ok (.goto 4, 3) := by decide +kernel
theorem dX12_seen_52 : decode cX12_seen 52 = .ok (.iconst (-1), 1) := by decide +kernel
theorem dX12_seen_53 : decode cX12_seen 53 = .ok (.ireturn, 1) := by decide +kernel
theorem dX12_has_0 : decode cX12_has 0 = .ok (.aload_n 0, 1) := by decide +kernel
theorem dX12_has_1 : decode cX12_has 1 = .ok (.iload_n 1, 1) := by decide +kernel
theorem dX12_has_2 : decode cX12_has 2 = .ok (.invokevirtual 139, 3) := by decide +kernel
theorem dX12_has_5 : decode cX12_has 5 = .ok (.ifCond .ne 6, 3) := by decide +kernel
theorem dX12_has_8 : decode cX12_has 8 = .ok (.bipush (-2), 2) := by decide +kernel
theorem dX12_has_10 : decode cX12_has 10 = .ok (.ireturn, 1) := by decide +kernel
theorem dX12_has_11 : decode cX12_has 11 = .ok (.aload_n 0, 1) := by decide +kernel
theorem dX12_has_12 : decode cX12_has 12 = .ok (.invokevirtual 311, 3) := by decide +kernel
theorem dX12_has_15 : decode cX12_has 15 = .ok (.aload_n 0, 1) := by decide +kernel
theorem dX12_has_16 : decode cX12_has 16 = .ok (.getfield 66, 3) := by decide +kernel
theorem dX12_has_19 : decode cX12_has 19 = .ok (.iload_n 1, 1) := by decide +kernel
theorem dX12_has_20 : decode cX12_has 20 = .ok (.iaload, 1) := by decide +kernel
theorem dX12_has_21 : decode cX12_has 21 = .ok (.ireturn, 1) := by decide +kernel
theorem dX12_whose_0 : decode cX12_whose 0 = .ok (.aload_n 0, 1) := by decide +kernel
theorem dX12_whose_1 : decode cX12_whose 1 = .ok (.iload_n 1, 1) := by decide +kernel
theorem dX12_whose_2 : decode cX12_whose 2 = .ok (.invokevirtual 136, 3) := by decide +kernel
theorem dX12_whose_5 : decode cX12_whose 5 = .ok (.ifCond .ne 6, 3) := by decide +kernel
theorem dX12_whose_8 : decode cX12_whose 8 = .ok (.bipush (-2), 2) := by decide +kernel
theorem dX12_whose_10 : decode cX12_whose 10 = .ok (.ireturn, 1) := by decide +kernel
theorem dX12_whose_11 : decode cX12_whose 11 = .ok (.aload_n 0, 1) := by decide +kernel
theorem dX12_whose_12 : decode cX12_whose 12 = .ok (.invokevirtual 311, 3) := by decide +kernel
theorem dX12_whose_15 : decode cX12_whose 15 = .ok (.iconst 0, 1) := by decide +kernel
theorem dX12_whose_16 : decode cX12_whose 16 = .ok (.istore_n 2, 1) := by decide +kernel
theorem dX12_whose_17 : decode cX12_whose 17 = .ok (.iload_n 2, 1) := by decide +kernel
theorem dX12_whose_18 : decode cX12_whose 18 = .ok (.aload_n 0, 1) := by decide +kernel
theorem dX12_whose_19 : decode cX12_whose 19 = .ok (.getfield 116, 3) := by decide +kernel
theorem dX12_whose_22 : decode cX12_whose 22 = .ok (.if_icmp .ge 21, 3) := by decide +kernel
theorem dX12_whose_25 : decode cX12_whose 25 = .ok (.aload_n 0, 1) := by decide +kernel
theorem dX12_whose_26 : decode cX12_whose 26 = .ok (.getfield 66, 3) := by decide +kernel
theorem dX12_whose_29 : decode cX12_whose 29 = .ok (.iload_n 2, 1) := by decide +kernel
theorem dX12_whose_30 : decode cX12_whose 30 = .ok (.iaload, 1) := by decide +kernel
theorem dX12_whose_31 : decode cX12_whose 31 = .ok (.iload_n 1, 1) := by decide +kernel
theorem dX12_whose_32 : decode cX12_whose 32 = .ok (.if_icmp .ne 5, 3) := by decide +kernel
theorem dX12_whose_35 : decode cX12_whose 35 = .ok (.iload_n 2, 1) := by decide +kernel
theorem dX12_whose_36 : decode cX12_whose 36 = .ok (.ireturn, 1) := by decide +kernel
theorem dX12_whose_37 : decode cX12_whose 37 = .ok (.iinc 2 1, 3) := by decide +kernel
theorem dX12_whose_40 : decode cX12_whose 40 = .ok (.goto (-23), 3) := by decide +kernel
theorem dX12_whose_43 : decode cX12_whose 43 = .ok (.iconst (-1), 1) := by decide +kernel
theorem dX12_whose_44 : decode cX12_whose 44 = .ok (.ireturn, 1) := by decide +kernel
theorem dX12_left_0 : decode cX12_left 0 = .ok (.iload_n 1, 1) := by decide +kernel
theorem dX12_left_1 : decode cX12_left 1 = .ok (.iconst (-1), 1) := by decide +kernel
theorem dX12_left_2 : decode cX12_left 2 = .ok (.if_icmp .eq 15, 3) := by decide +kernel
theorem dX12_left_5 : decode cX12_left 5 = .ok (.aload_n 0, 1) := by decide +kernel
theorem dX12_left_6 : decode cX12_left 6 = .ok (.iload_n 1, 1) := by decide +kernel
theorem dX12_left_7 : decode cX12_left 7 = .ok (.invokevirtual 139, 3) := by decide +kernel
theorem dX12_left_10 : decode cX12_left 10 = .ok (.ifCond .ne 7, 3) := by decide +kernel
theorem dX12_left_13 : decode cX12_left 13 = .ok (.ldc_w 314, 3) := by decide +kernel
theorem dX12_left_16 : decode cX12_left 16 = .ok (.ireturn, 1) := by decide +kernel
theorem dX12_left_17 : decode cX12_left 17 = .ok (.aload_n 0, 1) := by decide +kernel
theorem dX12_left_18 : decode cX12_left 18 = .ok (.invokevirtual 311, 3) := by decide +kernel
theorem dX12_left_21 : decode cX12_left 21 = .ok (.iload_n 1, 1) := by decide +kernel
theorem dX12_left_22 : decode cX12_left 22 = .ok (.iconst (-1), 1) := by decide +kernel
theorem dX12_left_23 : decode cX12_left 23 = .ok (.if_icmp .ne 10, 3) := by decide +kernel
theorem dX12_left_26 : decode cX12_left 26 = .ok (.aload_n 0, 1) := by decide +kernel
theorem dX12_left_27 : decode cX12_left 27 = .ok (.invokevirtual 315, 3) := by decide +kernel
theorem dX12_left_30 : decode cX12_left 30 = .ok (.goto 8, 3) := by decide +kernel
theorem dX12_left_33 : decode cX12_left 33 = .ok (.aload_n 0, 1) := by decide +kernel
theorem dX12_left_34 : decode cX12_left 34 = .ok (.iload_n 1, 1) := by decide +kernel
theorem dX12_left_35 : decode cX12_left 35 = .ok (.invokevirtual 308, 3) := by decide +kernel
theorem dX12_left_38 : decode cX12_left 38 = .ok (.ireturn, 1) := by decide +kernel
theorem dX12_seeks_0 : decode cX12_seeks 0 = .ok (.aload_n 0, 1) := by decide +kernel
theorem dX12_seeks_1 : decode cX12_seeks 1 = .ok (.getfield 44, 3) := by decide +kernel
theorem dX12_seeks_4 : decode cX12_seeks 4 = .ok (.iload_n 1, 1) := by decide +kernel
theorem dX12_seeks_5 : decode cX12_seeks 5 = .ok (.iaload, 1) := by decide +kernel
theorem dX12_seeks_6 : decode cX12_seeks 6 = .ok (.istore_n 3, 1) := by decide +kernel
theorem dX12_seeks_7 : decode cX12_seeks 7 = .ok (.aload_n 0, 1) := by decide +kernel
theorem dX12_seeks_8 : decode cX12_seeks 8 = .ok (.getfield 41, 3) := by decide +kernel
theorem dX12_seeks_11 : decode cX12_seeks 11 = .ok (.iload_n 1, 1) := by decide +kernel
theorem dX12_seeks_12 : decode cX12_seeks 12 = .ok (.iaload, 1) := by decide +kernel
theorem dX12_seeks_13 : decode cX12_seeks 13 = .ok (.istore 4, 2) := by decide +kernel
theorem dX12_seeks_15 : decode cX12_seeks 15 = .ok (.iconst 0, 1) := by decide +kernel
theorem dX12_seeks_16 : decode cX12_seeks 16 = .ok (.istore 5, 2) := by decide +kernel
theorem dX12_seeks_18 : decode cX12_seeks 18 = .ok (.iconst 0, 1) := by decide +kernel
theorem dX12_seeks_19 : decode cX12_seeks 19 = .ok (.istore 6, 2) := by decide +kernel
theorem dX12_seeks_21 : decode cX12_seeks 21 = .ok (.iload 6, 2) := by decide +kernel
theorem dX12_seeks_23 : decode cX12_seeks 23 = .ok (.bipush 24, 2) := by decide +kernel
theorem dX12_seeks_25 : decode cX12_seeks 25 = .ok (.if_icmp .ge 108, 3) := by decide +kernel
theorem dX12_seeks_28 : decode cX12_seeks 28 = .ok (.iconst 0, 1) := by decide +kernel
theorem dX12_seeks_29 : decode cX12_seeks 29 = .ok (.istore 7, 2) := by decide +kernel
theorem dX12_seeks_31 : decode cX12_seeks 31 = .ok (.iload 7, 2) := by decide +kernel
theorem dX12_seeks_33 : decode cX12_seeks 33 = .ok (.iconst 4, 1) := by decide +kernel
theorem dX12_seeks_34 : decode cX12_seeks 34 = .ok (.if_icmp .ge 93, 3) := by decide +kernel
theorem dX12_seeks_37 : decode cX12_seeks 37 = .ok (.iload_n 2, 1) := by decide +kernel
theorem dX12_seeks_38 : decode cX12_seeks 38 = .ok (.iconst 1, 1) := by decide +kernel
theorem dX12_seeks_39 : decode cX12_seeks 39 = .ok (.if_icmp .ne 9, 3) := by decide +kernel
theorem dX12_seeks_42 : decode cX12_seeks 42 = .ok (.iload 6, 2) := by decide +kernel
theorem dX12_seeks_44 : decode cX12_seeks 44 = .ok (.iload_n 3, 1) := by decide +kernel
theorem dX12_seeks_45 : decode cX12_seeks 45 = .ok (.if_icmp .ne 76, 3) := by decide +kernel
theorem dX12_seeks_48 : decode cX12_seeks 48 = .ok (.iload_n 2, 1) := by decide +kernel
theorem dX12_seeks_49 : decode cX12_seeks 49 = .ok (.ifCond .ne 10, 3) := by decide +kernel
theorem dX12_seeks_52 : decode cX12_seeks 52 = .ok (.iload 7, 2) := by decide +kernel
theorem dX12_seeks_54 : decode cX12_seeks 54 = .ok (.iload 4, 2) := by decide +kernel
theorem dX12_seeks_56 : decode cX12_seeks 56 = .ok (.if_icmp .ne 65, 3) := by decide +kernel
theorem dX12_seeks_59 : decode cX12_seeks 59 = .ok (.aload_n 0, 1) := by decide +kernel
theorem dX12_seeks_60 : decode cX12_seeks 60 = .ok (.getfield 44, 3) := by decide +kernel
theorem dX12_seeks_63 : decode cX12_seeks 63 = .ok (.iload_n 1, 1) := by decide +kernel
theorem dX12_seeks_64 : decode cX12_seeks 64 = .ok (.iload 6, 2) := by decide +kernel
theorem dX12_seeks_66 : decode cX12_seeks 66 = .ok (.iastore, 1) := by decide +kernel
theorem dX12_seeks_67 : decode cX12_seeks 67 = .ok (.aload_n 0, 1) := by decide +kernel
theorem dX12_seeks_68 : decode cX12_seeks 68 = .ok (.getfield 41, 3) := by decide +kernel
theorem dX12_seeks_71 : decode cX12_seeks 71 = .ok (.iload_n 1, 1) := by decide +kernel
theorem dX12_seeks_72 : decode cX12_seeks 72 = .ok (.iload 7, 2) := by decide +kernel
theorem dX12_seeks_74 : decode cX12_seeks 74 = .ok (.iastore, 1) := by decide +kernel
theorem dX12_seeks_75 : decode cX12_seeks 75 = .ok (.aload_n 0, 1) := by decide +kernel
theorem dX12_seeks_76 : decode cX12_seeks 76 = .ok (.invokevirtual 311, 3) := by decide +kernel
theorem dX12_seeks_79 : decode cX12_seeks 79 = .ok (.aload_n 0, 1) := by decide +kernel
theorem dX12_seeks_80 : decode cX12_seeks 80 = .ok (.iload_n 1, 1) := by decide +kernel
theorem dX12_seeks_81 : decode cX12_seeks 81 = .ok (.invokevirtual 308, 3) := by decide +kernel
theorem dX12_seeks_84 : decode cX12_seeks 84 = .ok (.istore 8, 2) := by decide +kernel
theorem dX12_seeks_86 : decode cX12_seeks 86 = .ok (.iload 5, 2) := by decide +kernel
theorem dX12_seeks_88 : decode cX12_seeks 88 = .ok (.ifCond .eq 12, 3) := by decide +kernel
theorem dX12_seeks_91 : decode cX12_seeks 91 = .ok (.iload 8, 2) := by decide +kernel
theorem dX12_seeks_93 : decode cX12_seeks 93 = .ok (.aload_n 0, 1) := by decide +kernel
theorem dX12_seeks_94 : decode cX12_seeks 94 = .ok (.getfield 318, 3) := by decide +kernel
theorem dX12_seeks_97 : decode cX12_seeks 97 = .ok (.if_icmp .le 24, 3) := by decide +kernel
theorem dX12_seeks_100 : decode cX12_seeks 100 = .ok (.iconst 1, 1) := by decide +kernel
theorem dX12_seeks_101 : decode cX12_seeks 101 = .ok (.istore 5, 2) := by decide +kernel
theorem dX12_seeks_103 : decode cX12_seeks 103 = .ok (.aload_n 0, 1) := by decide +kernel
theorem dX12_seeks_104 : decode cX12_seeks 104 = .ok (.iload 6, 2) := by decide +kernel
theorem dX12_seeks_106 : decode cX12_seeks 106 = .ok (.putfield 321, 3) := by decide +kernel
theorem dX12_seeks_109 : decode cX12_seeks 109 = .ok (.aload_n 0, 1) := by decide +kernel
theorem dX12_seeks_110 : decode cX12_seeks 110 = .ok (.iload 7, 2) := by decide +kernel
theorem dX12_seeks_112 : decode cX12_seeks 112 = .ok (.putfield 324, 3) := by decide +kernel
theorem dX12_seeks_115 : decode cX12_seeks 115 = .ok (.aload_n 0, 1) := by decide +kernel
theorem dX12_seeks_116 : decode cX12_seeks 116 = .ok (.iload 8, 2) := by decide +kernel
theorem dX12_seeks_118 : decode cX12_seeks 118 = .ok (.putfield 318, 3) := by decide +kernel
theorem dX12_seeks_121 : decode cX12_seeks 121 = .ok (.iinc 7 1, 3) := by decide +kernel
theorem dX12_seeks_124 : decode cX12_seeks 124 = .ok (.goto (-93), 3) := by decide +kernel
theorem dX12_seeks_127 : decode cX12_seeks 127 = .ok (.iinc 6 1, 3) := by decide +kernel
theorem dX12_seeks_130 : decode cX12_seeks 130 = .ok (.goto (-109), 3) := by decide +kernel
theorem dX12_seeks_133 : decode cX12_seeks 133 = .ok (.aload_n 0, 1) := by decide +kernel
theorem dX12_seeks_134 : decode cX12_seeks 134 = .ok (.getfield 44, 3) := by decide +kernel
theorem dX12_seeks_137 : decode cX12_seeks 137 = .ok (.iload_n 1, 1) := by decide +kernel
theorem dX12_seeks_138 : decode cX12_seeks 138 = .ok (.iload_n 3, 1) := by decide +kernel
theorem dX12_seeks_139 : decode cX12_seeks 139 = .ok (.iastore, 1) := by decide +kernel
theorem dX12_seeks_140 : decode cX12_seeks 140 = .ok (.aload_n 0, 1) := by decide +kernel
theorem dX12_seeks_141 : decode cX12_seeks 141 = .ok (.getfield 41, 3) := by decide +kernel
theorem dX12_seeks_144 : decode cX12_seeks 144 = .ok (.iload_n 1, 1) := by decide +kernel
theorem dX12_seeks_145 : decode cX12_seeks 145 = .ok (.iload 4, 2) := by decide +kernel
theorem dX12_seeks_147 : decode cX12_seeks 147 = .ok (.iastore, 1) := by decide +kernel
theorem dX12_seeks_148 : decode cX12_seeks 148 = .ok (.return_, 1) := by decide +kernel
theorem dX12_best_0 : decode cX12_best 0 = .ok (.aload_n 0, 1) := by decide +kernel
theorem dX12_best_1 : decode cX12_best 1 = .ok (.iload_n 1, 1) := by decide +kernel
theorem dX12_best_2 : decode cX12_best 2 = .ok (.invokevirtual 139, 3) := by decide +kernel
theorem dX12_best_5 : decode cX12_best 5 = .ok (.ifCond .eq 27, 3) := by decide +kernel
theorem dX12_best_8 : decode cX12_best 8 = .ok (.iload_n 2, 1) := by decide +kernel
theorem dX12_best_9 : decode cX12_best 9 = .ok (.i2l, 1) := by decide +kernel
theorem dX12_best_10 : decode cX12_best 10 = .ok (.lconst 0, 1) := by decide +kernel
theorem dX12_best_11 : decode cX12_best 11 = .ok (.ldc2_w 327, 3) := by decide +kernel
theorem dX12_best_14 : decode cX12_best 14 = .ok (.invokestatic 109, 3) := by decide +kernel
theorem dX12_best_17 : decode cX12_best 17 = .ok (.ifCond .eq 15, 3) := by decide +kernel
theorem dX12_best_20 : decode cX12_best 20 = .ok (.iload_n 3, 1) := by decide +kernel
theorem dX12_best_21 : decode cX12_best 21 = .ok (.i2l, 1) := by decide +kernel
theorem dX12_best_22 : decode cX12_best 22 = .ok (.lconst 0, 1) := by decide +kernel
theorem dX12_best_23 : decode cX12_best 23 = .ok (.ldc2_w 327, 3) := by decide +kernel
theorem dX12_best_26 : decode cX12_best 26 = .ok (.invokestatic 109, 3) := by decide +kernel
theorem dX12_best_29 : decode cX12_best 29 = .ok (.ifCond .ne 7, 3) := by decide +kernel
theorem dX12_best_32 : decode cX12_best 32 = .ok (.ldc_w 314, 3) := by decide +kernel
theorem dX12_best_35 : decode cX12_best 35 = .ok (.ireturn, 1) := by decide +kernel
theorem dX12_best_36 : decode cX12_best 36 = .ok (.aload_n 0, 1) := by decide +kernel
theorem dX12_best_37 : decode cX12_best 37 = .ok (.iload_n 1, 1) := by decide +kernel
theorem dX12_best_38 : decode cX12_best 38 = .ok (.iload_n 2, 1) := by decide +kernel
theorem dX12_best_39 : decode cX12_best 39 = .ok (.invokevirtual 329, 3) := by decide +kernel
theorem dX12_best_42 : decode cX12_best 42 = .ok (.iload_n 3, 1) := by decide +kernel
theorem dX12_best_43 : decode cX12_best 43 = .ok (.ifCond .ne 10, 3) := by decide +kernel
theorem dX12_best_46 : decode cX12_best 46 = .ok (.aload_n 0, 1) := by decide +kernel
theorem dX12_best_47 : decode cX12_best 47 = .ok (.getfield 321, 3) := by decide +kernel
theorem dX12_best_50 : decode cX12_best 50 = .ok (.goto 19, 3) := by decide +kernel
theorem dX12_best_53 : decode cX12_best 53 = .ok (.iload_n 3, 1) := by decide +kernel
theorem dX12_best_54 : decode cX12_best 54 = .ok (.iconst 1, 1) := by decide +kernel
theorem dX12_best_55 : decode cX12_best 55 = .ok (.if_icmp .ne 10, 3) := by decide +kernel
theorem dX12_best_58 : decode cX12_best 58 = .ok (.aload_n 0, 1) := by decide +kernel
theorem dX12_best_59 : decode cX12_best 59 = .ok (.getfield 324, 3) := by decide +kernel
theorem dX12_best_62 : decode cX12_best 62 = .ok (.goto 7, 3) := by decide +kernel
theorem dX12_best_65 : decode cX12_best 65 = .ok (.aload_n 0, 1) := by decide +kernel
theorem dX12_best_66 : decode cX12_best 66 = .ok (.getfield 318, 3) := by decide +kernel
theorem dX12_best_69 : decode cX12_best 69 = .ok (.ireturn, 1) := by decide +kernel
theorem dX12_turn_0 : decode cX12_turn 0 = .ok (.aload_n 0, 1) := by decide +kernel
theorem dX12_turn_1 : decode cX12_turn 1 = .ok (.iload_n 1, 1) := by decide +kernel
theorem dX12_turn_2 : decode cX12_turn 2 = .ok (.invokevirtual 139, 3) := by decide +kernel
theorem dX12_turn_5 : decode cX12_turn 5 = .ok (.ifCond .ne 7, 3) := by decide +kernel
theorem dX12_turn_8 : decode cX12_turn 8 = .ok (.ldc_w 314, 3) := by decide +kernel
theorem dX12_turn_11 : decode cX12_turn 11 = .ok (.ireturn, 1) := by decide +kernel
theorem dX12_turn_12 : decode cX12_turn 12 = .ok (.aload_n 0, 1) := by decide +kernel
theorem dX12_turn_13 : decode cX12_turn 13 = .ok (.iload_n 1, 1) := by decide +kernel
theorem dX12_turn_14 : decode cX12_turn 14 = .ok (.iconst 2, 1) := by decide +kernel
theorem dX12_turn_15 : decode cX12_turn 15 = .ok (.invokevirtual 329, 3) := by decide +kernel
theorem dX12_turn_18 : decode cX12_turn 18 = .ok (.aload_n 0, 1) := by decide +kernel
theorem dX12_turn_19 : decode cX12_turn 19 = .ok (.getfield 44, 3) := by decide +kernel
theorem dX12_turn_22 : decode cX12_turn 22 = .ok (.iload_n 1, 1) := by decide +kernel
theorem dX12_turn_23 : decode cX12_turn 23 = .ok (.aload_n 0, 1) := by decide +kernel
theorem dX12_turn_24 : decode cX12_turn 24 = .ok (.getfield 321, 3) := by decide +kernel
theorem dX12_turn_27 : decode cX12_turn 27 = .ok (.iastore, 1) := by decide +kernel
theorem dX12_turn_28 : decode cX12_turn 28 = .ok (.aload_n 0, 1) := by decide +kernel
theorem dX12_turn_29 : decode cX12_turn 29 = .ok (.getfield 41, 3) := by decide +kernel
theorem dX12_turn_32 : decode cX12_turn 32 = .ok (.iload_n 1, 1) := by decide +kernel
theorem dX12_turn_33 : decode cX12_turn 33 = .ok (.aload_n 0, 1) := by decide +kernel
theorem dX12_turn_34 : decode cX12_turn 34 = .ok (.getfield 324, 3) := by decide +kernel
theorem dX12_turn_37 : decode cX12_turn 37 = .ok (.iastore, 1) := by decide +kernel
theorem dX12_turn_38 : decode cX12_turn 38 = .ok (.aload_n 0, 1) := by decide +kernel
theorem dX12_turn_39 : decode cX12_turn 39 = .ok (.getfield 318, 3) := by decide +kernel
theorem dX12_turn_42 : decode cX12_turn 42 = .ok (.ireturn, 1) := by decide +kernel
theorem dX12_rest_0 : decode cX12_rest 0 = .ok (.iconst 0, 1) := by decide +kernel
theorem dX12_rest_1 : decode cX12_rest 1 = .ok (.istore_n 1, 1) := by decide +kernel
theorem dX12_rest_2 : decode cX12_rest 2 = .ok (.iload_n 1, 1) := by decide +kernel
theorem dX12_rest_3 : decode cX12_rest 3 = .ok (.aload_n 0, 1) := by decide +kernel
theorem dX12_rest_4 : decode cX12_rest 4 = .ok (.getfield 116, 3) := by decide +kernel
theorem dX12_rest_7 : decode cX12_rest 7 = .ok (.if_icmp .ge 35, 3) := by decide +kernel
theorem dX12_rest_10 : decode cX12_rest 10 = .ok (.aload_n 0, 1) := by decide +kernel
theorem dX12_rest_11 : decode cX12_rest 11 = .ok (.invokevirtual 311, 3) := by decide +kernel
theorem dX12_rest_14 : decode cX12_rest 14 = .ok (.aload_n 0, 1) := by decide +kernel
theorem dX12_rest_15 : decode cX12_rest 15 = .ok (.iload_n 1, 1) := by decide +kernel
theorem dX12_rest_16 : decode cX12_rest 16 = .ok (.invokevirtual 308, 3) := by decide +kernel
theorem dX12_rest_19 : decode cX12_rest 19 = .ok (.istore_n 2, 1) := by decide +kernel
theorem dX12_rest_20 : decode cX12_rest 20 = .ok (.aload_n 0, 1) := by decide +kernel
theorem dX12_rest_21 : decode cX12_rest 21 = .ok (.iload_n 1, 1) := by decide +kernel
theorem dX12_rest_22 : decode cX12_rest 22 = .ok (.iconst 2, 1) := by decide +kernel
theorem dX12_rest_23 : decode cX12_rest 23 = .ok (.invokevirtual 329, 3) := by decide +kernel
theorem dX12_rest_26 : decode cX12_rest 26 = .ok (.aload_n 0, 1) := by decide +kernel
theorem dX12_rest_27 : decode cX12_rest 27 = .ok (.getfield 318, 3) := by decide +kernel
theorem dX12_rest_30 : decode cX12_rest 30 = .ok (.iload_n 2, 1) := by decide +kernel
theorem dX12_rest_31 : decode cX12_rest 31 = .ok (.if_icmp .le 5, 3) := by decide +kernel
theorem dX12_rest_34 : decode cX12_rest 34 = .ok (.iconst 0, 1) := by decide +kernel
theorem dX12_rest_35 : decode cX12_rest 35 = .ok (.ireturn, 1) := by decide +kernel
theorem dX12_rest_36 : decode cX12_rest 36 = .ok (.iinc 1 1, 3) := by decide +kernel
theorem dX12_rest_39 : decode cX12_rest 39 = .ok (.goto (-37), 3) := by decide +kernel
theorem dX12_rest_42 : decode cX12_rest 42 = .ok (.iconst 1, 1) := by decide +kernel
theorem dX12_rest_43 : decode cX12_rest 43 = .ok (.ireturn, 1) := by decide +kernel
theorem dX12_beds_0 : decode cX12_beds 0 = .ok (.iload_n 1, 1) := by decide +kernel
theorem dX12_beds_1 : decode cX12_beds 1 = .ok (.i2l, 1) := by decide +kernel
theorem dX12_beds_2 : decode cX12_beds 2 = .ok (.lconst 0, 1) := by decide +kernel
theorem dX12_beds_3 : decode cX12_beds 3 = .ok (.lconst 1, 1) := by decide +kernel
theorem dX12_beds_4 : decode cX12_beds 4 = .ok (.invokestatic 109, 3) := by decide +kernel
theorem dX12_beds_7 : decode cX12_beds 7 = .ok (.ifCond .ne 7, 3) := by decide +kernel
theorem dX12_beds_10 : decode cX12_beds 10 = .ok (.ldc_w 314, 3) := by decide +kernel
theorem dX12_beds_13 : decode cX12_beds 13 = .ok (.ireturn, 1) := by decide +kernel
theorem dX12_beds_14 : decode cX12_beds 14 = .ok (.iconst 1, 1) := by decide +kernel
theorem dX12_beds_15 : decode cX12_beds 15 = .ok (.istore_n 2, 1) := by decide +kernel
theorem dX12_beds_16 : decode cX12_beds 16 = .ok (.iconst 0, 1) := by decide +kernel
theorem dX12_beds_17 : decode cX12_beds 17 = .ok (.istore_n 3, 1) := by decide +kernel
theorem dX12_beds_18 : decode cX12_beds 18 = .ok (.iload_n 3, 1) := by decide +kernel
theorem dX12_beds_19 : decode cX12_beds 19 = .ok (.aload_n 0, 1) := by decide +kernel
theorem dX12_beds_20 : decode cX12_beds 20 = .ok (.getfield 116, 3) := by decide +kernel
theorem dX12_beds_23 : decode cX12_beds 23 = .ok (.if_icmp .ge 25, 3) := by decide +kernel
theorem dX12_beds_26 : decode cX12_beds 26 = .ok (.aload_n 0, 1) := by decide +kernel
theorem dX12_beds_27 : decode cX12_beds 27 = .ok (.getfield 72, 3) := by decide +kernel
theorem dX12_beds_30 : decode cX12_beds 30 = .ok (.iload_n 3, 1) := by decide +kernel
theorem dX12_beds_31 : decode cX12_beds 31 = .ok (.aload_n 0, 1) := by decide +kernel
theorem dX12_beds_32 : decode cX12_beds 32 = .ok (.getfield 41, 3) := by decide +kernel
theorem dX12_beds_35 : decode cX12_beds 35 = .ok (.iload_n 3, 1) := by decide +kernel
theorem dX12_beds_36 : decode cX12_beds 36 = .ok (.iaload, 1) := by decide +kernel
theorem dX12_beds_37 : decode cX12_beds 37 = .ok (.iastore, 1) := by decide +kernel
theorem dX12_beds_38 : decode cX12_beds 38 = .ok (.iload_n 2, 1) := by decide +kernel
theorem dX12_beds_39 : decode cX12_beds 39 = .ok (.iconst 4, 1) := by decide +kernel
theorem dX12_beds_40 : decode cX12_beds 40 = .ok (.imul, 1) := by decide +kernel
theorem dX12_beds_41 : decode cX12_beds 41 = .ok (.istore_n 2, 1) := by decide +kernel
theorem dX12_beds_42 : decode cX12_beds 42 = .ok (.iinc 3 1, 3) := by decide +kernel
theorem dX12_beds_45 : decode cX12_beds 45 = .ok (.goto (-27), 3) := by decide +kernel
theorem dX12_beds_48 : decode cX12_beds 48 = .ok (.iconst 0, 1) := by decide +kernel
theorem dX12_beds_49 : decode cX12_beds 49 = .ok (.istore_n 3, 1) := by decide +kernel
theorem dX12_beds_50 : decode cX12_beds 50 = .ok (.ldc_w 314, 3) := by decide +kernel
theorem dX12_beds_53 : decode cX12_beds 53 = .ok (.istore 4, 2) := by decide +kernel
theorem dX12_beds_55 : decode cX12_beds 55 = .ok (.iconst 0, 1) := by decide +kernel
theorem dX12_beds_56 : decode cX12_beds 56 = .ok (.istore 5, 2) := by decide +kernel
theorem dX12_beds_58 : decode cX12_beds 58 = .ok (.iload 5, 2) := by decide +kernel
theorem dX12_beds_60 : decode cX12_beds 60 = .ok (.iload_n 2, 1) := by decide +kernel
theorem dX12_beds_61 : decode cX12_beds 61 = .ok (.if_icmp .ge 73, 3) := by decide +kernel
theorem dX12_beds_64 : decode cX12_beds 64 = .ok (.iload 5, 2) := by decide +kernel
theorem dX12_beds_66 : decode cX12_beds 66 = .ok (.istore 6, 2) := by decide +kernel
theorem dX12_beds_68 : decode cX12_beds 68 = .ok (.aload_n 0, 1) := by decide +kernel
theorem dX12_beds_69 : decode cX12_beds 69 = .ok (.getfield 116, 3) := by decide +kernel
theorem dX12_beds_72 : decode cX12_beds 72 = .ok (.iconst 1, 1) := by decide +kernel
theorem dX12_beds_73 : decode cX12_beds 73 = .ok (.isub, 1) := by decide +kernel
theorem dX12_beds_74 : decode cX12_beds 74 = .ok (.istore 7, 2) := by decide +kernel
theorem dX12_beds_76 : decode cX12_beds 76 = .ok (.iload 7, 2) := by decide +kernel
theorem dX12_beds_78 : decode cX12_beds 78 = .ok (.ifCond .lt 26, 3) := by decide +kernel
theorem dX12_beds_81 : decode cX12_beds 81 = .ok (.aload_n 0, 1) := by decide +kernel
theorem dX12_beds_82 : decode cX12_beds 82 = .ok (.getfield 41, 3) := by decide +kernel
theorem dX12_beds_85 : decode cX12_beds 85 = .ok (.iload 7, 2) := by decide +kernel
theorem dX12_beds_87 : decode cX12_beds 87 = .ok (.iload 6, 2) := by decide +kernel
theorem dX12_beds_89 : decode cX12_beds 89 = .ok (.iconst 4, 1) := by decide +kernel
theorem dX12_beds_90 : decode cX12_beds 90 = .ok (.irem, 1) := by decide +kernel
theorem dX12_beds_91 : decode cX12_beds 91 = .ok (.iastore, 1) := by decide +kernel
theorem dX12_beds_92 : decode cX12_beds 92 = .ok (.iload 6, 2) := by decide +kernel
theorem dX12_beds_94 : decode cX12_beds 94 = .ok (.iconst 4, 1) := by decide +kernel
theorem dX12_beds_95 : decode cX12_beds 95 = .ok (.idiv, 1) := by decide +kernel
theorem dX12_beds_96 : decode cX12_beds 96 = .ok (.istore 6, 2) := by decide +kernel
theorem dX12_beds_98 : decode cX12_beds 98 = .ok (.iinc 7 (-1), 3) := by decide +kernel
theorem dX12_beds_101 : decode cX12_beds 101 = .ok (.goto (-25), 3) := by decide +kernel
theorem dX12_beds_104 : decode cX12_beds 104 = .ok (.aload_n 0, 1) := by decide +kernel
theorem dX12_beds_105 : decode cX12_beds 105 = .ok (.invokevirtual 311, 3) := by decide +kernel
theorem dX12_beds_108 : decode cX12_beds 108 = .ok (.aload_n 0, 1) := by decide +kernel
theorem dX12_beds_109 : decode cX12_beds 109 = .ok (.invokevirtual 315, 3) := by decide +kernel
theorem dX12_beds_112 : decode cX12_beds 112 = .ok (.istore 7, 2) := by decide +kernel
theorem dX12_beds_114 : decode cX12_beds 114 = .ok (.iload 7, 2) := by decide +kernel
theorem dX12_beds_116 : decode cX12_beds 116 = .ok (.iload 4, 2) := by decide +kernel
theorem dX12_beds_118 : decode cX12_beds 118 = .ok (.if_icmp .le 10, 3) := by decide +kernel
theorem dX12_beds_121 : decode cX12_beds 121 = .ok (.iload 7, 2) := by decide +kernel
theorem dX12_beds_123 : decode cX12_beds 123 = .ok (.istore 4, 2) := by decide +kernel
theorem dX12_beds_125 : decode cX12_beds 125 = .ok (.iload 5, 2) := by decide +kernel
theorem dX12_beds_127 : decode cX12_beds 127 = .ok (.istore_n 3, 1) := by decide +kernel
theorem dX12_beds_128 : decode cX12_beds 128 = .ok (.iinc 5 1, 3) := by decide +kernel
theorem dX12_beds_131 : decode cX12_beds 131 = .ok (.goto (-73), 3) := by decide +kernel
theorem dX12_beds_134 : decode cX12_beds 134 = .ok (.iconst 0, 1) := by decide +kernel
theorem dX12_beds_135 : decode cX12_beds 135 = .ok (.istore 5, 2) := by decide +kernel
theorem dX12_beds_137 : decode cX12_beds 137 = .ok (.iload 5, 2) := by decide +kernel
theorem dX12_beds_139 : decode cX12_beds 139 = .ok (.aload_n 0, 1) := by decide +kernel
theorem dX12_beds_140 : decode cX12_beds 140 = .ok (.getfield 116, 3) := by decide +kernel
theorem dX12_beds_143 : decode cX12_beds 143 = .ok (.if_icmp .ge 23, 3) := by decide +kernel
theorem dX12_beds_146 : decode cX12_beds 146 = .ok (.aload_n 0, 1) := by decide +kernel
theorem dX12_beds_147 : decode cX12_beds 147 = .ok (.getfield 41, 3) := by decide +kernel
theorem dX12_beds_150 : decode cX12_beds 150 = .ok (.iload 5, 2) := by decide +kernel
theorem dX12_beds_152 : decode cX12_beds 152 = .ok (.aload_n 0, 1) := by decide +kernel
theorem dX12_beds_153 : decode cX12_beds 153 = .ok (.getfield 72, 3) := by decide +kernel
theorem dX12_beds_156 : decode cX12_beds 156 = .ok (.iload 5, 2) := by decide +kernel
theorem dX12_beds_158 : decode cX12_beds 158 = .ok (.iaload, 1) := by decide +kernel
theorem dX12_beds_159 : decode cX12_beds 159 = .ok (.iastore, 1) := by decide +kernel
theorem dX12_beds_160 : decode cX12_beds 160 = .ok (.iinc 5 1, 3) := by decide +kernel
theorem dX12_beds_163 : decode cX12_beds 163 = .ok (.goto (-26), 3) := by decide +kernel
theorem dX12_beds_166 : decode cX12_beds 166 = .ok (.iload_n 1, 1) := by decide +kernel
theorem dX12_beds_167 : decode cX12_beds 167 = .ok (.ifCond .ne 6, 3) := by decide +kernel
theorem dX12_beds_170 : decode cX12_beds 170 = .ok (.iload 4, 2) := by decide +kernel
theorem dX12_beds_172 : decode cX12_beds 172 = .ok (.ireturn, 1) := by decide +kernel
theorem dX12_beds_173 : decode cX12_beds 173 = .ok (.iconst 0, 1) := by decide +kernel
theorem dX12_beds_174 : decode cX12_beds 174 = .ok (.istore 5, 2) := by decide +kernel
theorem dX12_beds_176 : decode cX12_beds 176 = .ok (.iconst 1, 1) := by decide +kernel
theorem dX12_beds_177 : decode cX12_beds 177 = .ok (.istore 6, 2) := by decide +kernel
theorem dX12_beds_179 : decode cX12_beds 179 = .ok (.iconst 0, 1) := by decide +kernel
theorem dX12_beds_180 : decode cX12_beds 180 = .ok (.istore 7, 2) := by decide +kernel
theorem dX12_beds_182 : decode cX12_beds 182 = .ok (.iload 7, 2) := by decide +kernel
theorem dX12_beds_184 : decode cX12_beds 184 = .ok (.aload_n 0, 1) := by decide +kernel
theorem dX12_beds_185 : decode cX12_beds 185 = .ok (.getfield 116, 3) := by decide +kernel
theorem dX12_beds_188 : decode cX12_beds 188 = .ok (.if_icmp .ge 31, 3) := by decide +kernel
theorem dX12_beds_191 : decode cX12_beds 191 = .ok (.iload 5, 2) := by decide +kernel
theorem dX12_beds_193 : decode cX12_beds 193 = .ok (.iload 6, 2) := by decide +kernel
theorem dX12_beds_195 : decode cX12_beds 195 = .ok (.iload_n 3, 1) := by decide +kernel
theorem dX12_beds_196 : decode cX12_beds 196 = .ok (.iconst 4, 1) := by decide +kernel
theorem dX12_beds_197 : decode cX12_beds 197 = .ok (.irem, 1) := by decide +kernel
theorem dX12_beds_198 : decode cX12_beds 198 = .ok (.imul, 1) := by decide +kernel
theorem dX12_beds_199 : decode cX12_beds 199 = .ok (.iadd, 1) := by decide +kernel
theorem dX12_beds_200 : decode cX12_beds 200 = .ok (.istore 5, 2) := by decide +kernel
theorem dX12_beds_202 : decode cX12_beds 202 = .ok (.iload_n 3, 1) := by decide +kernel
theorem dX12_beds_203 : decode cX12_beds 203 = .ok (.iconst 4, 1) := by decide +kernel
theorem dX12_beds_204 : decode cX12_beds 204 = .ok (.idiv, 1) := by decide +kernel
theorem dX12_beds_205 : decode cX12_beds 205 = .ok (.istore_n 3, 1) := by decide +kernel
theorem dX12_beds_206 : decode cX12_beds 206 = .ok (.iload 6, 2) := by decide +kernel
theorem dX12_beds_208 : decode cX12_beds 208 = .ok (.bipush 10, 2) := by decide +kernel
theorem dX12_beds_210 : decode cX12_beds 210 = .ok (.imul, 1) := by decide +kernel
theorem dX12_beds_211 : decode cX12_beds 211 = .ok (.istore 6, 2) := by decide +kernel
theorem dX12_beds_213 : decode cX12_beds 213 = .ok (.iinc 7 1, 3) := by decide +kernel
theorem dX12_beds_216 : decode cX12_beds 216 = .ok (.goto (-34), 3) := by decide +kernel
theorem dX12_beds_219 : decode cX12_beds 219 = .ok (.iload 5, 2) := by decide +kernel
theorem dX12_beds_221 : decode cX12_beds 221 = .ok (.ireturn, 1) := by decide +kernel
theorem dX12_wall_0 : decode cX12_wall 0 = .ok (.aload_n 0, 1) := by decide +kernel
theorem dX12_wall_1 : decode cX12_wall 1 = .ok (.iload_n 1, 1) := by decide +kernel
theorem dX12_wall_2 : decode cX12_wall 2 = .ok (.invokevirtual 139, 3) := by decide +kernel
theorem dX12_wall_5 : decode cX12_wall 5 = .ok (.ifCond .eq 16, 3) := by decide +kernel
theorem dX12_wall_8 : decode cX12_wall 8 = .ok (.aload_n 0, 1) := by decide +kernel
theorem dX12_wall_9 : decode cX12_wall 9 = .ok (.iload_n 2, 1) := by decide +kernel
theorem dX12_wall_10 : decode cX12_wall 10 = .ok (.invokevirtual 139, 3) := by decide +kernel
theorem dX12_wall_13 : decode cX12_wall 13 = .ok (.ifCond .eq 8, 3) := by decide +kernel
theorem dX12_wall_16 : decode cX12_wall 16 = .ok (.iload_n 1, 1) := by decide +kernel
theorem dX12_wall_17 : decode cX12_wall 17 = .ok (.iload_n 2, 1) := by decide +kernel
theorem dX12_wall_18 : decode cX12_wall 18 = .ok (.if_icmp .ne 6, 3) := by decide +kernel
theorem dX12_wall_21 : decode cX12_wall 21 = .ok (.bipush (-2), 2) := by decide +kernel
theorem dX12_wall_23 : decode cX12_wall 23 = .ok (.ireturn, 1) := by decide +kernel
theorem dX12_wall_24 : decode cX12_wall 24 = .ok (.aload_n 0, 1) := by decide +kernel
theorem dX12_wall_25 : decode cX12_wall 25 = .ok (.invokevirtual 311, 3) := by decide +kernel
theorem dX12_wall_28 : decode cX12_wall 28 = .ok (.aload_n 0, 1) := by decide +kernel
theorem dX12_wall_29 : decode cX12_wall 29 = .ok (.iload_n 1, 1) := by decide +kernel
theorem dX12_wall_30 : decode cX12_wall 30 = .ok (.invokevirtual 308, 3) := by decide +kernel
theorem dX12_wall_33 : decode cX12_wall 33 = .ok (.istore_n 3, 1) := by decide +kernel
theorem dX12_wall_34 : decode cX12_wall 34 = .ok (.aload_n 0, 1) := by decide +kernel
theorem dX12_wall_35 : decode cX12_wall 35 = .ok (.iload_n 2, 1) := by decide +kernel
theorem dX12_wall_36 : decode cX12_wall 36 = .ok (.invokevirtual 308, 3) := by decide +kernel
theorem dX12_wall_39 : decode cX12_wall 39 = .ok (.istore 4, 2) := by decide +kernel
theorem dX12_wall_41 : decode cX12_wall 41 = .ok (.iconst (-1), 1) := by decide +kernel
theorem dX12_wall_42 : decode cX12_wall 42 = .ok (.istore 5, 2) := by decide +kernel
theorem dX12_wall_44 : decode cX12_wall 44 = .ok (.iconst 0, 1) := by decide +kernel
theorem dX12_wall_45 : decode cX12_wall 45 = .ok (.istore 6, 2) := by decide +kernel
theorem dX12_wall_47 : decode cX12_wall 47 = .ok (.iload 6, 2) := by decide +kernel
theorem dX12_wall_49 : decode cX12_wall 49 = .ok (.bipush 36, 2) := by decide +kernel
theorem dX12_wall_51 : decode cX12_wall 51 = .ok (.if_icmp .ge 70, 3) := by decide +kernel
theorem dX12_wall_54 : decode cX12_wall 54 = .ok (.aload_n 0, 1) := by decide +kernel
theorem dX12_wall_55 : decode cX12_wall 55 = .ok (.getfield 23, 3) := by decide +kernel
theorem dX12_wall_58 : decode cX12_wall 58 = .ok (.iload 6, 2) := by decide +kernel
theorem dX12_wall_60 : decode cX12_wall 60 = .ok (.iaload, 1) := by decide +kernel
theorem dX12_wall_61 : decode cX12_wall 61 = .ok (.istore 7, 2) := by decide +kernel
theorem dX12_wall_63 : decode cX12_wall 63 = .ok (.aload_n 0, 1) := by decide +kernel
theorem dX12_wall_64 : decode cX12_wall 64 = .ok (.getfield 23, 3) := by decide +kernel
theorem dX12_wall_67 : decode cX12_wall 67 = .ok (.iload 6, 2) := by decide +kernel
theorem dX12_wall_69 : decode cX12_wall 69 = .ok (.bipush 9, 2) := by decide +kernel
theorem dX12_wall_71 : decode cX12_wall 71 = .ok (.iastore, 1) := by decide +kernel
theorem dX12_wall_72 : decode cX12_wall 72 = .ok (.aload_n 0, 1) := by decide +kernel
theorem dX12_wall_73 : decode cX12_wall 73 = .ok (.invokevirtual 311, 3) := by decide +kernel
theorem dX12_wall_76 : decode cX12_wall 76 = .ok (.aload_n 0, 1) := by decide +kernel
theorem dX12_wall_77 : decode cX12_wall 77 = .ok (.iload_n 2, 1) := by decide +kernel
theorem dX12_wall_78 : decode cX12_wall 78 = .ok (.invokevirtual 308, 3) := by decide +kernel
theorem dX12_wall_81 : decode cX12_wall 81 = .ok (.iload 4, 2) := by decide +kernel
theorem dX12_wall_83 : decode cX12_wall 83 = .ok (.if_icmp .ge 23, 3) := by decide +kernel
theorem dX12_wall_86 : decode cX12_wall 86 = .ok (.aload_n 0, 1) := by decide +kernel
theorem dX12_wall_87 : decode cX12_wall 87 = .ok (.iload_n 1, 1) := by decide +kernel
theorem dX12_wall_88 : decode cX12_wall 88 = .ok (.invokevirtual 308, 3) := by decide +kernel
theorem dX12_wall_91 : decode cX12_wall 91 = .ok (.iload_n 3, 1) := by decide +kernel
theorem dX12_wall_92 : decode cX12_wall 92 = .ok (.if_icmp .lt 14, 3) := by decide +kernel
theorem dX12_wall_95 : decode cX12_wall 95 = .ok (.iload 6, 2) := by decide +kernel
theorem dX12_wall_97 : decode cX12_wall 97 = .ok (.istore 5, 2) := by decide +kernel
theorem dX12_wall_99 : decode cX12_wall 99 = .ok (.aload_n 0, 1) := by decide +kernel
theorem dX12_wall_100 : decode cX12_wall 100 = .ok (.iload_n 2, 1) := by decide +kernel
theorem dX12_wall_101 : decode cX12_wall 101 = .ok (.invokevirtual 308, 3) := by decide +kernel
theorem dX12_wall_104 : decode cX12_wall 104 = .ok (.istore 4, 2) := by decide +kernel
theorem dX12_wall_106 : decode cX12_wall 106 = .ok (.aload_n 0, 1) := by decide +kernel
theorem dX12_wall_107 : decode cX12_wall 107 = .ok (.getfield 23, 3) := by decide +kernel
theorem dX12_wall_110 : decode cX12_wall 110 = .ok (.iload 6, 2) := by decide +kernel
theorem dX12_wall_112 : decode cX12_wall 112 = .ok (.iload 7, 2) := by decide +kernel
theorem dX12_wall_114 : decode cX12_wall 114 = .ok (.iastore, 1) := by decide +kernel
theorem dX12_wall_115 : decode cX12_wall 115 = .ok (.iinc 6 1, 3) := by decide +kernel
theorem dX12_wall_118 : decode cX12_wall 118 = .ok (.goto (-71), 3) := by decide +kernel
theorem dX12_wall_121 : decode cX12_wall 121 = .ok (.iload 5, 2) := by decide +kernel
theorem dX12_wall_123 : decode cX12_wall 123 = .ok (.ireturn, 1) := by decide +kernel
theorem dX12_fell_0 : decode cX12_fell 0 = .ok (.aload_n 0, 1) := by decide +kernel
theorem dX12_fell_1 : decode cX12_fell 1 = .ok (.iload_n 1, 1) := by decide +kernel
theorem dX12_fell_2 : decode cX12_fell 2 = .ok (.invokevirtual 139, 3) := by decide +kernel
theorem dX12_fell_5 : decode cX12_fell 5 = .ok (.ifCond .ne 6, 3) := by decide +kernel
theorem dX12_fell_8 : decode cX12_fell 8 = .ok (.bipush (-2), 2) := by decide +kernel
theorem dX12_fell_10 : decode cX12_fell 10 = .ok (.ireturn, 1) := by decide +kernel
theorem dX12_fell_11 : decode cX12_fell 11 = .ok (.aload_n 0, 1) := by decide +kernel
theorem dX12_fell_12 : decode cX12_fell 12 = .ok (.invokevirtual 311, 3) := by decide +kernel
theorem dX12_fell_15 : decode cX12_fell 15 = .ok (.aload_n 0, 1) := by decide +kernel
theorem dX12_fell_16 : decode cX12_fell 16 = .ok (.iload_n 1, 1) := by decide +kernel
theorem dX12_fell_17 : decode cX12_fell 17 = .ok (.invokevirtual 308, 3) := by decide +kernel
theorem dX12_fell_20 : decode cX12_fell 20 = .ok (.istore_n 2, 1) := by decide +kernel
theorem dX12_fell_21 : decode cX12_fell 21 = .ok (.iconst (-1), 1) := by decide +kernel
theorem dX12_fell_22 : decode cX12_fell 22 = .ok (.istore_n 3, 1) := by decide +kernel
theorem dX12_fell_23 : decode cX12_fell 23 = .ok (.iconst 0, 1) := by decide +kernel
theorem dX12_fell_24 : decode cX12_fell 24 = .ok (.istore 4, 2) := by decide +kernel
theorem dX12_fell_26 : decode cX12_fell 26 = .ok (.iload 4, 2) := by decide +kernel
theorem dX12_fell_28 : decode cX12_fell 28 = .ok (.bipush 36, 2) := by decide +kernel
theorem dX12_fell_30 : decode cX12_fell 30 = .ok (.if_icmp .ge 57, 3) := by decide +kernel
theorem dX12_fell_33 : decode cX12_fell 33 = .ok (.aload_n 0, 1) := by decide +kernel
theorem dX12_fell_34 : decode cX12_fell 34 = .ok (.getfield 23, 3) := by decide +kernel
theorem dX12_fell_37 : decode cX12_fell 37 = .ok (.iload 4, 2) := by decide +kernel
theorem dX12_fell_39 : decode cX12_fell 39 = .ok (.iaload, 1) := by decide +kernel
theorem dX12_fell_40 : decode cX12_fell 40 = .ok (.istore 5, 2) := by decide +kernel
theorem dX12_fell_42 : decode cX12_fell 42 = .ok (.aload_n 0, 1) := by decide +kernel
theorem dX12_fell_43 : decode cX12_fell 43 = .ok (.getfield 23, 3) := by decide +kernel
theorem dX12_fell_46 : decode cX12_fell 46 = .ok (.iload 4, 2) := by decide +kernel
theorem dX12_fell_48 : decode cX12_fell 48 = .ok (.iconst 0, 1) := by decide +kernel
theorem dX12_fell_49 : decode cX12_fell 49 = .ok (.iastore, 1) := by decide +kernel
theorem dX12_fell_50 : decode cX12_fell 50 = .ok (.aload_n 0, 1) := by decide +kernel
theorem dX12_fell_51 : decode cX12_fell 51 = .ok (.invokevirtual 311, 3) := by decide +kernel
theorem dX12_fell_54 : decode cX12_fell 54 = .ok (.aload_n 0, 1) := by decide +kernel
theorem dX12_fell_55 : decode cX12_fell 55 = .ok (.iload_n 1, 1) := by decide +kernel
theorem dX12_fell_56 : decode cX12_fell 56 = .ok (.invokevirtual 308, 3) := by decide +kernel
theorem dX12_fell_59 : decode cX12_fell 59 = .ok (.iload_n 2, 1) := by decide +kernel
theorem dX12_fell_60 : decode cX12_fell 60 = .ok (.if_icmp .le 12, 3) := by decide +kernel
theorem dX12_fell_63 : decode cX12_fell 63 = .ok (.iload 4, 2) := by decide +kernel
theorem dX12_fell_65 : decode cX12_fell 65 = .ok (.istore_n 3, 1) := by decide +kernel
theorem dX12_fell_66 : decode cX12_fell 66 = .ok (.aload_n 0, 1) := by decide +kernel
theorem dX12_fell_67 : decode cX12_fell 67 = .ok (.iload_n 1, 1) := by decide +kernel
theorem dX12_fell_68 : decode cX12_fell 68 = .ok (.invokevirtual 308, 3) := by decide +kernel
theorem dX12_fell_71 : decode cX12_fell 71 = .ok (.istore_n 2, 1) := by decide +kernel
theorem dX12_fell_72 : decode cX12_fell 72 = .ok (.aload_n 0, 1) := by decide +kernel
theorem dX12_fell_73 : decode cX12_fell 73 = .ok (.getfield 23, 3) := by decide +kernel
theorem dX12_fell_76 : decode cX12_fell 76 = .ok (.iload 4, 2) := by decide +kernel
theorem dX12_fell_78 : decode cX12_fell 78 = .ok (.iload 5, 2) := by decide +kernel
theorem dX12_fell_80 : decode cX12_fell 80 = .ok (.iastore, 1) := by decide +kernel
theorem dX12_fell_81 : decode cX12_fell 81 = .ok (.iinc 4 1, 3) := by decide +kernel
theorem dX12_fell_84 : decode cX12_fell 84 = .ok (.goto (-58), 3) := by decide +kernel
theorem dX12_fell_87 : decode cX12_fell 87 = .ok (.iload_n 3, 1) := by decide +kernel
theorem dX12_fell_88 : decode cX12_fell 88 = .ok (.ireturn, 1) := by decide +kernel
theorem dX12_hadBad_0 : decode cX12_hadBad 0 = .ok (.iload_n 1, 1) := by decide +kernel
theorem dX12_hadBad_1 : decode cX12_hadBad 1 = .ok (.invokestatic 333, 3) := by decide +kernel
theorem dX12_hadBad_4 : decode cX12_hadBad 4 = .ok (.ifCond .ne 6, 3) := by decide +kernel
theorem dX12_hadBad_7 : decode cX12_hadBad 7 = .ok (.bipush (-2), 2) := by decide +kernel
theorem dX12_hadBad_9 : decode cX12_hadBad 9 = .ok (.ireturn, 1) := by decide +kernel
theorem dX12_hadBad_10 : decode cX12_hadBad 10 = .ok (.aload_n 0, 1) := by decide +kernel
theorem dX12_hadBad_11 : decode cX12_hadBad 11 = .ok (.getfield 87, 3) := by decide +kernel
theorem dX12_hadBad_14 : decode cX12_hadBad 14 = .ok (.iload_n 1, 1) := by decide +kernel
theorem dX12_hadBad_15 : decode cX12_hadBad 15 = .ok (.baload, 1) := by decide +kernel
theorem dX12_hadBad_16 : decode cX12_hadBad 16 = .ok (.ifCond .ne 6, 3) := by decide +kernel
theorem dX12_hadBad_19 : decode cX12_hadBad 19 = .ok (.bipush (-11), 2) := by decide +kernel
theorem dX12_hadBad_21 : decode cX12_hadBad 21 = .ok (.ireturn, 1) := by decide +kernel
theorem dX12_hadBad_22 : decode cX12_hadBad 22 = .ok (.aload_n 0, 1) := by decide +kernel
theorem dX12_hadBad_23 : decode cX12_hadBad 23 = .ok (.getfield 94, 3) := by decide +kernel
theorem dX12_hadBad_26 : decode cX12_hadBad 26 = .ok (.iload_n 1, 1) := by decide +kernel
theorem dX12_hadBad_27 : decode cX12_hadBad 27 = .ok (.iaload, 1) := by decide +kernel
theorem dX12_hadBad_28 : decode cX12_hadBad 28 = .ok (.aload_n 0, 1) := by decide +kernel
theorem dX12_hadBad_29 : decode cX12_hadBad 29 = .ok (.getfield 116, 3) := by decide +kernel
theorem dX12_hadBad_32 : decode cX12_hadBad 32 = .ok (.if_icmp .ne 7, 3) := by decide +kernel
theorem dX12_hadBad_35 : decode cX12_hadBad 35 = .ok (.iconst 0, 1) := by decide +kernel
theorem dX12_hadBad_36 : decode cX12_hadBad 36 = .ok (.goto 5, 3) := by decide +kernel
theorem dX12_hadBad_39 : decode cX12_hadBad 39 = .ok (.bipush (-2), 2) := by decide +kernel
theorem dX12_hadBad_41 : decode cX12_hadBad 41 = .ok (.ireturn, 1) := by decide +kernel
theorem dX12_unlike_0 : decode cX12_unlike 0 = .ok (.aload_n 0, 1) := by decide +kernel
theorem dX12_unlike_1 : decode cX12_unlike 1 = .ok (.invokevirtual 311, 3) := by decide +kernel
theorem dX12_unlike_4 : decode cX12_unlike 4 = .ok (.iconst 0, 1) := by decide +kernel
theorem dX12_unlike_5 : decode cX12_unlike 5 = .ok (.istore_n 2, 1) := by decide +kernel
theorem dX12_unlike_6 : decode cX12_unlike 6 = .ok (.iload_n 2, 1) := by decide +kernel
theorem dX12_unlike_7 : decode cX12_unlike 7 = .ok (.aload_n 0, 1) := by decide +kernel
theorem dX12_unlike_8 : decode cX12_unlike 8 = .ok (.getfield 116, 3) := by decide +kernel
theorem dX12_unlike_11 : decode cX12_unlike 11 = .ok (.if_icmp .ge 31, 3) := by decide +kernel
theorem dX12_unlike_14 : decode cX12_unlike 14 = .ok (.aload_n 0, 1) := by decide +kernel
theorem dX12_unlike_15 : decode cX12_unlike 15 = .ok (.getfield 66, 3) := by decide +kernel
theorem dX12_unlike_18 : decode cX12_unlike 18 = .ok (.iload_n 2, 1) := by decide +kernel
theorem dX12_unlike_19 : decode cX12_unlike 19 = .ok (.iaload, 1) := by decide +kernel
theorem dX12_unlike_20 : decode cX12_unlike 20 = .ok (.aload_n 0, 1) := by decide +kernel
theorem dX12_unlike_21 : decode cX12_unlike 21 = .ok (.getfield 97, 3) := by decide +kernel
theorem dX12_unlike_24 : decode cX12_unlike 24 = .ok (.bipush 40, 2) := by decide +kernel
theorem dX12_unlike_26 : decode cX12_unlike 26 = .ok (.iload_n 1, 1) := by decide +kernel
theorem dX12_unlike_27 : decode cX12_unlike 27 = .ok (.imul, 1) := by decide +kernel
theorem dX12_unlike_28 : decode cX12_unlike 28 = .ok (.iload_n 2, 1) := by decide +kernel
theorem dX12_unlike_29 : decode cX12_unlike 29 = .ok (.iadd, 1) := by decide +kernel
theorem dX12_unlike_30 : decode cX12_unlike 30 = .ok (.iaload, 1) := by decide +kernel
theorem dX12_unlike_31 : decode cX12_unlike 31 = .ok (.if_icmp .eq 5, 3) := by decide +kernel
theorem dX12_unlike_34 : decode cX12_unlike 34 = .ok (.iload_n 2, 1) := by decide +kernel
theorem dX12_unlike_35 : decode cX12_unlike 35 = .ok (.ireturn, 1) := by decide +kernel
theorem dX12_unlike_36 : decode cX12_unlike 36 = .ok (.iinc 2 1, 3) := by decide +kernel
theorem dX12_unlike_39 : decode cX12_unlike 39 = .ok (.goto (-33), 3) := by decide +kernel
theorem dX12_unlike_42 : decode cX12_unlike 42 = .ok (.iconst (-1), 1) := by decide +kernel
theorem dX12_unlike_43 : decode cX12_unlike 43 = .ok (.ireturn, 1) := by decide +kernel
theorem dX12_turned_0 : decode cX12_turned 0 = .ok (.iload_n 1, 1) := by decide +kernel
theorem dX12_turned_1 : decode cX12_turned 1 = .ok (.invokestatic 333, 3) := by decide +kernel
theorem dX12_turned_4 : decode cX12_turned 4 = .ok (.ifCond .eq 13, 3) := by decide +kernel
theorem dX12_turned_7 : decode cX12_turned 7 = .ok (.iload_n 2, 1) := by decide +kernel
theorem dX12_turned_8 : decode cX12_turned 8 = .ok (.i2l, 1) := by decide +kernel
theorem dX12_turned_9 : decode cX12_turned 9 = .ok (.lconst 0, 1) := by decide +kernel
theorem dX12_turned_10 : decode cX12_turned 10 = .ok (.lconst 1, 1) := by decide +kernel
theorem dX12_turned_11 : decode cX12_turned 11 = .ok (.invokestatic 109, 3) := by decide +kernel
theorem dX12_turned_14 : decode cX12_turned 14 = .ok (.ifCond .ne 6, 3) := by decide +kernel
theorem dX12_turned_17 : decode cX12_turned 17 = .ok (.bipush (-2), 2) := by decide +kernel
theorem dX12_turned_19 : decode cX12_turned 19 = .ok (.ireturn, 1) := by decide +kernel
theorem dX12_turned_20 : decode cX12_turned 20 = .ok (.aload_n 0, 1) := by decide +kernel
theorem dX12_turned_21 : decode cX12_turned 21 = .ok (.iload_n 1, 1) := by decide +kernel
theorem dX12_turned_22 : decode cX12_turned 22 = .ok (.invokevirtual 336, 3) := by decide +kernel
theorem dX12_turned_25 : decode cX12_turned 25 = .ok (.istore_n 3, 1) := by decide +kernel
theorem dX12_turned_26 : decode cX12_turned 26 = .ok (.iload_n 3, 1) := by decide +kernel
theorem dX12_turned_27 : decode cX12_turned 27 = .ok (.ifCond .eq 5, 3) := by decide +kernel
theorem dX12_turned_30 : decode cX12_turned 30 = .ok (.iload_n 3, 1) := by decide +kernel
theorem dX12_turned_31 : decode cX12_turned 31 = .ok (.ireturn, 1) := by decide +kernel
theorem dX12_turned_32 : decode cX12_turned 32 = .ok (.iconst 0, 1) := by decide +kernel
theorem dX12_turned_33 : decode cX12_turned 33 = .ok (.istore 4, 2) := by decide +kernel
theorem dX12_turned_35 : decode cX12_turned 35 = .ok (.iconst (-1), 1) := by decide +kernel
theorem dX12_turned_36 : decode cX12_turned 36 = .ok (.istore 5, 2) := by decide +kernel
theorem dX12_turned_38 : decode cX12_turned 38 = .ok (.iconst 0, 1) := by decide +kernel
theorem dX12_turned_39 : decode cX12_turned 39 = .ok (.istore 6, 2) := by decide +kernel
theorem dX12_turned_41 : decode cX12_turned 41 = .ok (.iload 6, 2) := by decide +kernel
theorem dX12_turned_43 : decode cX12_turned 43 = .ok (.aload_n 0, 1) := by decide +kernel
theorem dX12_turned_44 : decode cX12_turned 44 = .ok (.getfield 116, 3) := by decide +kernel
theorem dX12_turned_47 : decode cX12_turned 47 = .ok (.if_icmp .ge 91, 3) := by decide +kernel
theorem dX12_turned_50 : decode cX12_turned 50 = .ok (.aload_n 0, 1) := by decide +kernel
theorem dX12_turned_51 : decode cX12_turned 51 = .ok (.getfield 41, 3) := by decide +kernel
theorem dX12_turned_54 : decode cX12_turned 54 = .ok (.iload 6, 2) := by decide +kernel
theorem dX12_turned_56 : decode cX12_turned 56 = .ok (.iaload, 1) := by decide +kernel
theorem dX12_turned_57 : decode cX12_turned 57 = .ok (.istore 7, 2) := by decide +kernel
theorem dX12_turned_59 : decode cX12_turned 59 = .ok (.iconst 0, 1) := by decide +kernel
theorem dX12_turned_60 : decode cX12_turned 60 = .ok (.istore 8, 2) := by decide +kernel
theorem dX12_turned_62 : decode cX12_turned 62 = .ok (.iload 8, 2) := by decide +kernel
theorem dX12_turned_64 : decode cX12_turned 64 = .ok (.iconst 4, 1) := by decide +kernel
theorem dX12_turned_65 : decode cX12_turned 65 = .ok (.if_icmp .ge 58, 3) := by decide +kernel
theorem dX12_turned_68 : decode cX12_turned 68 = .ok (.aload_n 0, 1) := by decide +kernel
theorem dX12_turned_69 : decode cX12_turned 69 = .ok (.getfield 41, 3) := by decide +kernel
theorem dX12_turned_72 : decode cX12_turned 72 = .ok (.iload 6, 2) := by decide +kernel
theorem dX12_turned_74 : decode cX12_turned 74 = .ok (.iload 8, 2) := by decide +kernel
theorem dX12_turned_76 : decode cX12_turned 76 = .ok (.iastore, 1) := by decide +kernel
theorem dX12_turned_77 : decode cX12_turned 77 = .ok (.iload 8, 2) := by decide +kernel
theorem dX12_turned_79 : decode cX12_turned 79 = .ok (.iload 7, 2) := by decide +kernel
theorem dX12_turned_81 : decode cX12_turned 81 = .ok (.if_icmp .eq 36, 3) := by decide +kernel
theorem dX12_turned_84 : decode cX12_turned 84 = .ok (.aload_n 0, 1) := by decide +kernel
theorem dX12_turned_85 : decode cX12_turned 85 = .ok (.iload_n 1, 1) := by decide +kernel
theorem dX12_turned_86 : decode cX12_turned 86 = .ok (.invokevirtual 339, 3) := by decide +kernel
theorem dX12_turned_89 : decode cX12_turned 89 = .ok (.iconst (-1), 1) := by decide +kernel
theorem dX12_turned_90 : decode cX12_turned 90 = .ok (.if_icmp .ne 27, 3) := by decide +kernel
theorem dX12_turned_93 : decode cX12_turned 93 = .ok (.iinc 4 1, 3) := by decide +kernel
theorem dX12_turned_96 : decode cX12_turned 96 = .ok (.iload 5, 2) := by decide +kernel
theorem dX12_turned_98 : decode cX12_turned 98 = .ok (.iconst (-1), 1) := by decide +kernel
theorem dX12_turned_99 : decode cX12_turned 99 = .ok (.if_icmp .ne 14, 3) := by decide +kernel
theorem dX12_turned_102 : decode cX12_turned 102 = .ok (.bipush 10, 2) := by decide +kernel
theorem dX12_turned_104 : decode cX12_turned 104 = .ok (.iload 6, 2) := by decide +kernel
theorem dX12_turned_106 : decode cX12_turned 106 = .ok (.imul, 1) := by decide +kernel
theorem dX12_turned_107 : decode cX12_turned 107 = .ok (.iload 8, 2) := by decide +kernel
theorem dX12_turned_109 : decode cX12_turned 109 = .ok (.iadd, 1) := by decide +kernel
theorem dX12_turned_110 : decode cX12_turned 110 = .ok (.goto 5, 3) := by decide +kernel
theorem dX12_turned_113 : decode cX12_turned 113 = .ok (.iload 5, 2) := by decide +kernel
theorem dX12_turned_115 : decode cX12_turned 115 = .ok (.istore 5, 2) := by decide +kernel
theorem dX12_turned_117 : decode cX12_turned 117 = .ok (.iinc 8 1, 3) := by decide +kernel
theorem dX12_turned_120 : decode cX12_turned 120 = .ok (.goto (-58), 3) := by decide +kernel
theorem dX12_turned_123 : decode cX12_turned 123 = .ok (.aload_n 0, 1) := by decide +kernel
theorem dX12_turned_124 : decode cX12_turned 124 = .ok (.getfield 41, 3) := by decide +kernel
theorem dX12_turned_127 : decode cX12_turned 127 = .ok (.iload 6, 2) := by decide +kernel
theorem dX12_turned_129 : decode cX12_turned 129 = .ok (.iload 7, 2) := by decide +kernel
theorem dX12_turned_131 : decode cX12_turned 131 = .ok (.iastore, 1) := by decide +kernel
theorem dX12_turned_132 : decode cX12_turned 132 = .ok (.iinc 6 1, 3) := by decide +kernel
theorem dX12_turned_135 : decode cX12_turned 135 = .ok (.goto (-94), 3) := by decide +kernel
theorem dX12_turned_138 : decode cX12_turned 138 = .ok (.iload_n 2, 1) := by decide +kernel
theorem dX12_turned_139 : decode cX12_turned 139 = .ok (.ifCond .ne 8, 3) := by decide +kernel
theorem dX12_turned_142 : decode cX12_turned 142 = .ok (.iload 4, 2) := by decide +kernel
theorem dX12_turned_144 : decode cX12_turned 144 = .ok (.goto 5, 3) := by decide +kernel
theorem dX12_turned_147 : decode cX12_turned 147 = .ok (.iload 5, 2) := by decide +kernel
theorem dX12_turned_149 : decode cX12_turned 149 = .ok (.ireturn, 1) := by decide +kernel
theorem dX12_woke_0 : decode cX12_woke 0 = .ok (.iload_n 1, 1) := by decide +kernel
theorem dX12_woke_1 : decode cX12_woke 1 = .ok (.invokestatic 333, 3) := by decide +kernel
theorem dX12_woke_4 : decode cX12_woke 4 = .ok (.ifCond .eq 11, 3) := by decide +kernel
theorem dX12_woke_7 : decode cX12_woke 7 = .ok (.aload_n 0, 1) := by decide +kernel
theorem dX12_woke_8 : decode cX12_woke 8 = .ok (.iload_n 2, 1) := by decide +kernel
theorem dX12_woke_9 : decode cX12_woke 9 = .ok (.invokevirtual 139, 3) := by decide +kernel
theorem dX12_woke_12 : decode cX12_woke 12 = .ok (.ifCond .ne 6, 3) := by decide +kernel
theorem dX12_woke_15 : decode cX12_woke 15 = .ok (.bipush (-2), 2) := by decide +kernel
theorem dX12_woke_17 : decode cX12_woke 17 = .ok (.ireturn, 1) := by decide +kernel
theorem dX12_woke_18 : decode cX12_woke 18 = .ok (.aload_n 0, 1) := by decide +kernel
theorem dX12_woke_19 : decode cX12_woke 19 = .ok (.iload_n 1, 1) := by decide +kernel
theorem dX12_woke_20 : decode cX12_woke 20 = .ok (.invokevirtual 336, 3) := by decide +kernel
theorem dX12_woke_23 : decode cX12_woke 23 = .ok (.istore_n 3, 1) := by decide +kernel
theorem dX12_woke_24 : decode cX12_woke 24 = .ok (.iload_n 3, 1) := by decide +kernel
theorem dX12_woke_25 : decode cX12_woke 25 = .ok (.ifCond .eq 5, 3) := by decide +kernel
theorem dX12_woke_28 : decode cX12_woke 28 = .ok (.iload_n 3, 1) := by decide +kernel
theorem dX12_woke_29 : decode cX12_woke 29 = .ok (.ireturn, 1) := by decide +kernel
theorem dX12_woke_30 : decode cX12_woke 30 = .ok (.aload_n 0, 1) := by decide +kernel
theorem dX12_woke_31 : decode cX12_woke 31 = .ok (.getfield 44, 3) := by decide +kernel
theorem dX12_woke_34 : decode cX12_woke 34 = .ok (.iload_n 2, 1) := by decide +kernel
theorem dX12_woke_35 : decode cX12_woke 35 = .ok (.iaload, 1) := by decide +kernel
theorem dX12_woke_36 : decode cX12_woke 36 = .ok (.istore 4, 2) := by decide +kernel
theorem dX12_woke_38 : decode cX12_woke 38 = .ok (.iconst 0, 1) := by decide +kernel
theorem dX12_woke_39 : decode cX12_woke 39 = .ok (.istore 5, 2) := by decide +kernel
theorem dX12_woke_41 : decode cX12_woke 41 = .ok (.iconst 0, 1) := by decide +kernel
theorem dX12_woke_42 : decode cX12_woke 42 = .ok (.istore 6, 2) := by decide +kernel
theorem dX12_woke_44 : decode cX12_woke 44 = .ok (.iload 6, 2) := by decide +kernel
theorem dX12_woke_46 : decode cX12_woke 46 = .ok (.bipush 24, 2) := by decide +kernel
theorem dX12_woke_48 : decode cX12_woke 48 = .ok (.if_icmp .ge 39, 3) := by decide +kernel
theorem dX12_woke_51 : decode cX12_woke 51 = .ok (.aload_n 0, 1) := by decide +kernel
theorem dX12_woke_52 : decode cX12_woke 52 = .ok (.getfield 44, 3) := by decide +kernel
theorem dX12_woke_55 : decode cX12_woke 55 = .ok (.iload_n 2, 1) := by decide +kernel
theorem dX12_woke_56 : decode cX12_woke 56 = .ok (.iload 6, 2) := by decide +kernel
theorem dX12_woke_58 : decode cX12_woke 58 = .ok (.iastore, 1) := by decide +kernel
theorem dX12_woke_59 : decode cX12_woke 59 = .ok (.iload 5, 2) := by decide +kernel
theorem dX12_woke_61 : decode cX12_woke 61 = .ok (.aload_n 0, 1) := by decide +kernel
theorem dX12_woke_62 : decode cX12_woke 62 = .ok (.iload_n 1, 1) := by decide +kernel
theorem dX12_woke_63 : decode cX12_woke 63 = .ok (.invokevirtual 339, 3) := by decide +kernel
theorem dX12_woke_66 : decode cX12_woke 66 = .ok (.iconst (-1), 1) := by decide +kernel
theorem dX12_woke_67 : decode cX12_woke 67 = .ok (.if_icmp .ne 7, 3) := by decide +kernel
theorem dX12_woke_70 : decode cX12_woke 70 = .ok (.iconst 1, 1) := by decide +kernel
theorem dX12_woke_71 : decode cX12_woke 71 = .ok (.goto 4, 3) := by decide +kernel
theorem dX12_woke_74 : decode cX12_woke 74 = .ok (.iconst 0, 1) := by decide +kernel
theorem dX12_woke_75 : decode cX12_woke 75 = .ok (.iload 6, 2) := by decide +kernel
theorem dX12_woke_77 : decode cX12_woke 77 = .ok (.ishl, 1) := by decide +kernel
theorem dX12_woke_78 : decode cX12_woke 78 = .ok (.ior, 1) := by decide +kernel
theorem dX12_woke_79 : decode cX12_woke 79 = .ok (.istore 5, 2) := by decide +kernel
theorem dX12_woke_81 : decode cX12_woke 81 = .ok (.iinc 6 1, 3) := by decide +kernel
theorem dX12_woke_84 : decode cX12_woke 84 = .ok (.goto (-40), 3) := by decide +kernel
theorem dX12_woke_87 : decode cX12_woke 87 = .ok (.aload_n 0, 1) := by decide +kernel
theorem dX12_woke_88 : decode cX12_woke 88 = .ok (.getfield 44, 3) := by decide +kernel
theorem dX12_woke_91 : decode cX12_woke 91 = .ok (.iload_n 2, 1) := by decide +kernel
theorem dX12_woke_92 : decode cX12_woke 92 = .ok (.iload 4, 2) := by decide +kernel
theorem dX12_woke_94 : decode cX12_woke 94 = .ok (.iastore, 1) := by decide +kernel
theorem dX12_woke_95 : decode cX12_woke 95 = .ok (.iload 5, 2) := by decide +kernel
theorem dX12_woke_97 : decode cX12_woke 97 = .ok (.ireturn, 1) := by decide +kernel
theorem dX12_judge_0 : decode cX12_judge 0 = .ok (.aload_n 0, 1) := by decide +kernel
theorem dX12_judge_1 : decode cX12_judge 1 = .ok (.iload_n 1, 1) := by decide +kernel
theorem dX12_judge_2 : decode cX12_judge 2 = .ok (.invokevirtual 336, 3) := by decide +kernel
theorem dX12_judge_5 : decode cX12_judge 5 = .ok (.istore_n 2, 1) := by decide +kernel
theorem dX12_judge_6 : decode cX12_judge 6 = .ok (.iload_n 2, 1) := by decide +kernel
theorem dX12_judge_7 : decode cX12_judge 7 = .ok (.ifCond .eq 7, 3) := by decide +kernel
theorem dX12_judge_10 : decode cX12_judge 10 = .ok (.iload_n 2, 1) := by decide +kernel
theorem dX12_judge_11 : decode cX12_judge 11 = .ok (.goto 8, 3) := by decide +kernel
theorem dX12_judge_14 : decode cX12_judge 14 = .ok (.aload_n 0, 1) := by decide +kernel
theorem dX12_judge_15 : decode cX12_judge 15 = .ok (.iload_n 1, 1) := by decide +kernel
theorem dX12_judge_16 : decode cX12_judge 16 = .ok (.invokevirtual 339, 3) := by decide +kernel
theorem dX12_judge_19 : decode cX12_judge 19 = .ok (.ireturn, 1) := by decide +kernel
theorem dX12_drawn_0 : decode cX12_drawn 0 = .ok (.aload_n 0, 1) := by decide +kernel
theorem dX12_drawn_1 : decode cX12_drawn 1 = .ok (.getfield 125, 3) := by decide +kernel
theorem dX12_drawn_4 : decode cX12_drawn 4 = .ok (.istore_n 2, 1) := by decide +kernel
theorem dX12_drawn_5 : decode cX12_drawn 5 = .ok (.aload_n 0, 1) := by decide +kernel
theorem dX12_drawn_6 : decode cX12_drawn 6 = .ok (.iload_n 1, 1) := by decide +kernel
theorem dX12_drawn_7 : decode cX12_drawn 7 = .ok (.ldc_w 342, 3) := by decide +kernel
theorem dX12_drawn_10 : decode cX12_drawn 10 = .ok (.imul, 1) := by decide +kernel
theorem dX12_drawn_11 : decode cX12_drawn 11 = .ok (.sipush 12345, 3) := by decide +kernel
theorem dX12_drawn_14 : decode cX12_drawn 14 = .ok (.iadd, 1) := by decide +kernel
theorem dX12_drawn_15 : decode cX12_drawn 15 = .ok (.bipush 10, 2) := by decide +kernel
theorem dX12_drawn_17 : decode cX12_drawn 17 = .ok (.iushr, 1) := by decide +kernel
theorem dX12_drawn_18 : decode cX12_drawn 18 = .ok (.bipush 10, 2) := by decide +kernel
theorem dX12_drawn_20 : decode cX12_drawn 20 = .ok (.irem, 1) := by decide +kernel
theorem dX12_drawn_21 : decode cX12_drawn 21 = .ok (.putfield 125, 3) := by decide +kernel
theorem dX12_drawn_24 : decode cX12_drawn 24 = .ok (.aload_n 0, 1) := by decide +kernel
theorem dX12_drawn_25 : decode cX12_drawn 25 = .ok (.invokevirtual 311, 3) := by decide +kernel
theorem dX12_drawn_28 : decode cX12_drawn 28 = .ok (.aload_n 0, 1) := by decide +kernel
theorem dX12_drawn_29 : decode cX12_drawn 29 = .ok (.invokevirtual 315, 3) := by decide +kernel
theorem dX12_drawn_32 : decode cX12_drawn 32 = .ok (.istore_n 3, 1) := by decide +kernel
theorem dX12_drawn_33 : decode cX12_drawn 33 = .ok (.aload_n 0, 1) := by decide +kernel
theorem dX12_drawn_34 : decode cX12_drawn 34 = .ok (.iload_n 2, 1) := by decide +kernel
theorem dX12_drawn_35 : decode cX12_drawn 35 = .ok (.putfield 125, 3) := by decide +kernel
theorem dX12_drawn_38 : decode cX12_drawn 38 = .ok (.iload_n 3, 1) := by decide +kernel
theorem dX12_drawn_39 : decode cX12_drawn 39 = .ok (.ireturn, 1) := by decide +kernel
theorem dX12_chance_0 : decode cX12_chance 0 = .ok (.iload_n 2, 1) := by decide +kernel
theorem dX12_chance_1 : decode cX12_chance 1 = .ok (.i2l, 1) := by decide +kernel
theorem dX12_chance_2 : decode cX12_chance 2 = .ok (.lconst 1, 1) := by decide +kernel
theorem dX12_chance_3 : decode cX12_chance 3 = .ok (.ldc2_w 343, 3) := by decide +kernel
theorem dX12_chance_6 : decode cX12_chance 6 = .ok (.invokestatic 109, 3) := by decide +kernel
theorem dX12_chance_9 : decode cX12_chance 9 = .ok (.ifCond .eq 22, 3) := by decide +kernel
theorem dX12_chance_12 : decode cX12_chance 12 = .ok (.aload_n 0, 1) := by decide +kernel
theorem dX12_chance_13 : decode cX12_chance 13 = .ok (.iload_n 3, 1) := by decide +kernel
theorem dX12_chance_14 : decode cX12_chance 14 = .ok (.invokevirtual 139, 3) := by decide +kernel
theorem dX12_chance_17 : decode cX12_chance 17 = .ok (.ifCond .eq 14, 3) := by decide +kernel
theorem dX12_chance_20 : decode cX12_chance 20 = .ok (.iload 4, 2) := by decide +kernel
theorem dX12_chance_22 : decode cX12_chance 22 = .ok (.i2l, 1) := by decide +kernel
theorem dX12_chance_23 : decode cX12_chance 23 = .ok (.lconst 0, 1) := by decide +kernel
theorem dX12_chance_24 : decode cX12_chance 24 = .ok (.lconst 1, 1) := by decide +kernel
theorem dX12_chance_25 : decode cX12_chance 25 = .ok (.invokestatic 109, 3) := by decide +kernel
theorem dX12_chance_28 : decode cX12_chance 28 = .ok (.ifCond .ne 7, 3) := by decide +kernel
theorem dX12_chance_31 : decode cX12_chance 31 = .ok (.ldc2_w 345, 3) := by decide +kernel
theorem dX12_chance_34 : decode cX12_chance 34 = .ok (.lreturn, 1) := by decide +kernel
theorem dX12_chance_35 : decode cX12_chance 35 = .ok (.aload_n 0, 1) := by decide +kernel
theorem dX12_chance_36 : decode cX12_chance 36 = .ok (.getfield 125, 3) := by decide +kernel
theorem dX12_chance_39 : decode cX12_chance 39 = .ok (.istore 5, 2) := by decide +kernel
theorem dX12_chance_41 : decode cX12_chance 41 = .ok (.lconst 0, 1) := by decide +kernel
theorem dX12_chance_42 : decode cX12_chance 42 = .ok (.lstore 6, 2) := by decide +kernel
theorem dX12_chance_44 : decode cX12_chance 44 = .ok (.iconst 0, 1) := by decide +kernel
theorem dX12_chance_45 : decode cX12_chance 45 = .ok (.istore 8, 2) := by decide +kernel
theorem dX12_chance_47 : decode cX12_chance 47 = .ok (.iload 8, 2) := by decide +kernel
theorem dX12_chance_49 : decode cX12_chance 49 = .ok (.iload_n 2, 1) := by decide +kernel
theorem dX12_chance_50 : decode cX12_chance 50 = .ok (.if_icmp .ge 55, 3) := by decide +kernel
theorem dX12_chance_53 : decode cX12_chance 53 = .ok (.aload_n 0, 1) := by decide +kernel
theorem dX12_chance_54 : decode cX12_chance 54 = .ok (.iload_n 1, 1) := by decide +kernel
theorem dX12_chance_55 : decode cX12_chance 55 = .ok (.iload 8, 2) := by decide +kernel
theorem dX12_chance_57 : decode cX12_chance 57 = .ok (.iadd, 1) := by decide +kernel
theorem dX12_chance_58 : decode cX12_chance 58 = .ok (.ldc_w 342, 3) := by decide +kernel
theorem dX12_chance_61 : decode cX12_chance 61 = .ok (.imul, 1) := by decide +kernel
theorem dX12_chance_62 : decode cX12_chance 62 = .ok (.sipush 12345, 3) := by decide +kernel
theorem dX12_chance_65 : decode cX12_chance 65 = .ok (.iadd, 1) := by decide +kernel
theorem dX12_chance_66 : decode cX12_chance 66 = .ok (.bipush 10, 2) := by decide +kernel
theorem dX12_chance_68 : decode cX12_chance 68 = .ok (.iushr, 1) := by decide +kernel
theorem dX12_chance_69 : decode cX12_chance 69 = .ok (.bipush 10, 2) := by decide +kernel
theorem dX12_chance_71 : decode cX12_chance 71 = .ok (.irem, 1) := by decide +kernel
theorem dX12_chance_72 : decode cX12_chance 72 = .ok (.putfield 125, 3) := by decide +kernel
theorem dX12_chance_75 : decode cX12_chance 75 = .ok (.aload_n 0, 1) := by decide +kernel
theorem dX12_chance_76 : decode cX12_chance 76 = .ok (.invokevirtual 311, 3) := by decide +kernel
theorem dX12_chance_79 : decode cX12_chance 79 = .ok (.lload 6, 2) := by decide +kernel
theorem dX12_chance_81 : decode cX12_chance 81 = .ok (.aload_n 0, 1) := by decide +kernel
theorem dX12_chance_82 : decode cX12_chance 82 = .ok (.getfield 66, 3) := by decide +kernel
theorem dX12_chance_85 : decode cX12_chance 85 = .ok (.iload_n 3, 1) := by decide +kernel
theorem dX12_chance_86 : decode cX12_chance 86 = .ok (.iaload, 1) := by decide +kernel
theorem dX12_chance_87 : decode cX12_chance 87 = .ok (.iconst (-1), 1) := by decide +kernel
theorem dX12_chance_88 : decode cX12_chance 88 = .ok (.if_icmp .ne 7, 3) := by decide +kernel
theorem dX12_chance_91 : decode cX12_chance 91 = .ok (.lconst 0, 1) := by decide +kernel
theorem dX12_chance_92 : decode cX12_chance 92 = .ok (.goto 4, 3) := by decide +kernel
theorem dX12_chance_95 : decode cX12_chance 95 = .ok (.lconst 1, 1) := by decide +kernel
theorem dX12_chance_96 : decode cX12_chance 96 = .ok (.ladd, 1) := by decide +kernel
theorem dX12_chance_97 : decode cX12_chance 97 = .ok (.lstore 6, 2) := by decide +kernel
theorem dX12_chance_99 : decode cX12_chance 99 = .ok (.iinc 8 1, 3) := by decide +kernel
theorem dX12_chance_102 : decode cX12_chance 102 = .ok (.goto (-55), 3) := by decide +kernel
theorem dX12_chance_105 : decode cX12_chance 105 = .ok (.aload_n 0, 1) := by decide +kernel
theorem dX12_chance_106 : decode cX12_chance 106 = .ok (.iload 5, 2) := by decide +kernel
theorem dX12_chance_108 : decode cX12_chance 108 = .ok (.putfield 125, 3) := by decide +kernel
theorem dX12_chance_111 : decode cX12_chance 111 = .ok (.lload 6, 2) := by decide +kernel
theorem dX12_chance_113 : decode cX12_chance 113 = .ok (.lstore 8, 2) := by decide +kernel
theorem dX12_chance_115 : decode cX12_chance 115 = .ok (.iload_n 2, 1) := by decide +kernel
theorem dX12_chance_116 : decode cX12_chance 116 = .ok (.i2l, 1) := by decide +kernel
theorem dX12_chance_117 : decode cX12_chance 117 = .ok (.lstore 10, 2) := by decide +kernel
theorem dX12_chance_119 : decode cX12_chance 119 = .ok (.lload 10, 2) := by decide +kernel
theorem dX12_chance_121 : decode cX12_chance 121 = .ok (.lconst 0, 1) := by decide +kernel
theorem dX12_chance_122 : decode cX12_chance 122 = .ok (.lcmp, 1) := by decide +kernel
theorem dX12_chance_123 : decode cX12_chance 123 = .ok (.ifCond .eq 21, 3) := by decide +kernel
theorem dX12_chance_126 : decode cX12_chance 126 = .ok (.lload 8, 2) := by decide +kernel
theorem dX12_chance_128 : decode cX12_chance 128 = .ok (.lload 10, 2) := by decide +kernel
theorem dX12_chance_130 : decode cX12_chance 130 = .ok (.lrem, 1) := by decide +kernel
theorem dX12_chance_131 : decode cX12_chance 131 = .ok (.lstore 12, 2) := by decide +kernel
theorem dX12_chance_133 : decode cX12_chance 133 = .ok (.lload 10, 2) := by decide +kernel
theorem dX12_chance_135 : decode cX12_chance 135 = .ok (.lstore 8, 2) := by decide +kernel
theorem dX12_chance_137 : decode cX12_chance 137 = .ok (.lload 12, 2) := by decide +kernel
theorem dX12_chance_139 : decode cX12_chance 139 = .ok (.lstore 10, 2) := by decide +kernel
theorem dX12_chance_141 : decode cX12_chance 141 = .ok (.goto (-22), 3) := by decide +kernel
theorem dX12_chance_144 : decode cX12_chance 144 = .ok (.iload 4, 2) := by decide +kernel
theorem dX12_chance_146 : decode cX12_chance 146 = .ok (.ifCond .ne 11, 3) := by decide +kernel
theorem dX12_chance_149 : decode cX12_chance 149 = .ok (.lload 6, 2) := by decide +kernel
theorem dX12_chance_151 : decode cX12_chance 151 = .ok (.lload 8, 2) := by decide +kernel
theorem dX12_chance_153 : decode cX12_chance 153 = .ok (.ldiv, 1) := by decide +kernel
theorem dX12_chance_154 : decode cX12_chance 154 = .ok (.goto 8, 3) := by decide +kernel
theorem dX12_chance_157 : decode cX12_chance 157 = .ok (.iload_n 2, 1) := by decide +kernel
theorem dX12_chance_158 : decode cX12_chance 158 = .ok (.i2l, 1) := by decide +kernel
theorem dX12_chance_159 : decode cX12_chance 159 = .ok (.lload 8, 2) := by decide +kernel
theorem dX12_chance_161 : decode cX12_chance 161 = .ok (.ldiv, 1) := by decide +kernel
theorem dX12_chance_162 : decode cX12_chance 162 = .ok (.lreturn, 1) := by decide +kernel
theorem dX12_image_0 : decode cX12_image 0 = .ok (.iconst 0, 1) := by decide +kernel
theorem dX12_image_1 : decode cX12_image 1 = .ok (.istore_n 1, 1) := by decide +kernel
theorem dX12_image_2 : decode cX12_image 2 = .ok (.iload_n 1, 1) := by decide +kernel
theorem dX12_image_3 : decode cX12_image 3 = .ok (.bipush 36, 2) := by decide +kernel
theorem dX12_image_5 : decode cX12_image 5 = .ok (.if_icmp .ge 21, 3) := by decide +kernel
theorem dX12_image_8 : decode cX12_image 8 = .ok (.aload_n 0, 1) := by decide +kernel
theorem dX12_image_9 : decode cX12_image 9 = .ok (.getfield 75, 3) := by decide +kernel
theorem dX12_image_12 : decode cX12_image 12 = .ok (.iload_n 1, 1) := by decide +kernel
theorem dX12_image_13 : decode cX12_image 13 = .ok (.aload_n 0, 1) := by decide +kernel
theorem dX12_image_14 : decode cX12_image 14 = .ok (.getfield 23, 3) := by decide +kernel
theorem dX12_image_17 : decode cX12_image 17 = .ok (.iload_n 1, 1) := by decide +kernel
theorem dX12_image_18 : decode cX12_image 18 = .ok (.iaload, 1) := by decide +kernel
theorem dX12_image_19 : decode cX12_image 19 = .ok (.iastore, 1) := by decide +kernel
theorem dX12_image_20 : decode cX12_image 20 = .ok (.iinc 1 1, 3) := by decide +kernel
theorem dX12_image_23 : decode cX12_image 23 = .ok (.goto (-21), 3) := by decide +kernel
theorem dX12_image_26 : decode cX12_image 26 = .ok (.iconst 0, 1) := by decide +kernel
theorem dX12_image_27 : decode cX12_image 27 = .ok (.istore_n 1, 1) := by decide +kernel
theorem dX12_image_28 : decode cX12_image 28 = .ok (.iload_n 1, 1) := by decide +kernel
theorem dX12_image_29 : decode cX12_image 29 = .ok (.bipush 6, 2) := by decide +kernel
theorem dX12_image_31 : decode cX12_image 31 = .ok (.if_icmp .ge 51, 3) := by decide +kernel
theorem dX12_image_34 : decode cX12_image 34 = .ok (.aload_n 0, 1) := by decide +kernel
theorem dX12_image_35 : decode cX12_image 35 = .ok (.getfield 78, 3) := by decide +kernel
theorem dX12_image_38 : decode cX12_image 38 = .ok (.iload_n 1, 1) := by decide +kernel
theorem dX12_image_39 : decode cX12_image 39 = .ok (.aload_n 0, 1) := by decide +kernel
theorem dX12_image_40 : decode cX12_image 40 = .ok (.getfield 29, 3) := by decide +kernel
theorem dX12_image_43 : decode cX12_image 43 = .ok (.iload_n 1, 1) := by decide +kernel
theorem dX12_image_44 : decode cX12_image 44 = .ok (.iaload, 1) := by decide +kernel
theorem dX12_image_45 : decode cX12_image 45 = .ok (.iastore, 1) := by decide +kernel
theorem dX12_image_46 : decode cX12_image 46 = .ok (.aload_n 0, 1) := by decide +kernel
theorem dX12_image_47 : decode cX12_image 47 = .ok (.getfield 78, 3) := by decide +kernel
theorem dX12_image_50 : decode cX12_image 50 = .ok (.bipush 6, 2) := by decide +kernel
theorem dX12_image_52 : decode cX12_image 52 = .ok (.iload_n 1, 1) := by decide +kernel
theorem dX12_image_53 : decode cX12_image 53 = .ok (.iadd, 1) := by decide +kernel
theorem dX12_image_54 : decode cX12_image 54 = .ok (.aload_n 0, 1) := by decide +kernel
theorem dX12_image_55 : decode cX12_image 55 = .ok (.getfield 32, 3) := by decide +kernel
theorem dX12_image_58 : decode cX12_image 58 = .ok (.iload_n 1, 1) := by decide +kernel
theorem dX12_image_59 : decode cX12_image 59 = .ok (.iaload, 1) := by decide +kernel
theorem dX12_image_60 : decode cX12_image 60 = .ok (.iastore, 1) := by decide +kernel
theorem dX12_image_61 : decode cX12_image 61 = .ok (.aload_n 0, 1) := by decide +kernel
theorem dX12_image_62 : decode cX12_image 62 = .ok (.getfield 78, 3) := by decide +kernel
theorem dX12_image_65 : decode cX12_image 65 = .ok (.bipush 12, 2) := by decide +kernel
theorem dX12_image_67 : decode cX12_image 67 = .ok (.iload_n 1, 1) := by decide +kernel
theorem dX12_image_68 : decode cX12_image 68 = .ok (.iadd, 1) := by decide +kernel
theorem dX12_image_69 : decode cX12_image 69 = .ok (.aload_n 0, 1) := by decide +kernel
theorem dX12_image_70 : decode cX12_image 70 = .ok (.getfield 35, 3) := by decide +kernel
theorem dX12_image_73 : decode cX12_image 73 = .ok (.iload_n 1, 1) := by decide +kernel
theorem dX12_image_74 : decode cX12_image 74 = .ok (.iaload, 1) := by decide +kernel
theorem dX12_image_75 : decode cX12_image 75 = .ok (.iastore, 1) := by decide +kernel
theorem dX12_image_76 : decode cX12_image 76 = .ok (.iinc 1 1, 3) := by decide +kernel
theorem dX12_image_79 : decode cX12_image 79 = .ok (.goto (-51), 3) := by decide +kernel
theorem dX12_image_82 : decode cX12_image 82 = .ok (.iconst 0, 1) := by decide +kernel
theorem dX12_image_83 : decode cX12_image 83 = .ok (.istore_n 1, 1) := by decide +kernel
theorem dX12_image_84 : decode cX12_image 84 = .ok (.iload_n 1, 1) := by decide +kernel
theorem dX12_image_85 : decode cX12_image 85 = .ok (.iconst 5, 1) := by decide +kernel
theorem dX12_image_86 : decode cX12_image 86 = .ok (.if_icmp .ge 50, 3) := by decide +kernel
theorem dX12_image_89 : decode cX12_image 89 = .ok (.aload_n 0, 1) := by decide +kernel
theorem dX12_image_90 : decode cX12_image 90 = .ok (.getfield 81, 3) := by decide +kernel
theorem dX12_image_93 : decode cX12_image 93 = .ok (.iload_n 1, 1) := by decide +kernel
theorem dX12_image_94 : decode cX12_image 94 = .ok (.aload_n 0, 1) := by decide +kernel
theorem dX12_image_95 : decode cX12_image 95 = .ok (.getfield 38, 3) := by decide +kernel
theorem dX12_image_98 : decode cX12_image 98 = .ok (.iload_n 1, 1) := by decide +kernel
theorem dX12_image_99 : decode cX12_image 99 = .ok (.iaload, 1) := by decide +kernel
theorem dX12_image_100 : decode cX12_image 100 = .ok (.iastore, 1) := by decide +kernel
theorem dX12_image_101 : decode cX12_image 101 = .ok (.aload_n 0, 1) := by decide +kernel
theorem dX12_image_102 : decode cX12_image 102 = .ok (.getfield 81, 3) := by decide +kernel
theorem dX12_image_105 : decode cX12_image 105 = .ok (.iconst 5, 1) := by decide +kernel
theorem dX12_image_106 : decode cX12_image 106 = .ok (.iload_n 1, 1) := by decide +kernel
theorem dX12_image_107 : decode cX12_image 107 = .ok (.iadd, 1) := by decide +kernel
theorem dX12_image_108 : decode cX12_image 108 = .ok (.aload_n 0, 1) := by decide +kernel
theorem dX12_image_109 : decode cX12_image 109 = .ok (.getfield 41, 3) := by decide +kernel
theorem dX12_image_112 : decode cX12_image 112 = .ok (.iload_n 1, 1) := by decide +kernel
theorem dX12_image_113 : decode cX12_image 113 = .ok (.iaload, 1) := by decide +kernel
theorem dX12_image_114 : decode cX12_image 114 = .ok (.iastore, 1) := by decide +kernel
theorem dX12_image_115 : decode cX12_image 115 = .ok (.aload_n 0, 1) := by decide +kernel
theorem dX12_image_116 : decode cX12_image 116 = .ok (.getfield 81, 3) := by decide +kernel
theorem dX12_image_119 : decode cX12_image 119 = .ok (.bipush 10, 2) := by decide +kernel
theorem dX12_image_121 : decode cX12_image 121 = .ok (.iload_n 1, 1) := by decide +kernel
theorem dX12_image_122 : decode cX12_image 122 = .ok (.iadd, 1) := by decide +kernel
theorem dX12_image_123 : decode cX12_image 123 = .ok (.aload_n 0, 1) := by decide +kernel
theorem dX12_image_124 : decode cX12_image 124 = .ok (.getfield 44, 3) := by decide +kernel
theorem dX12_image_127 : decode cX12_image 127 = .ok (.iload_n 1, 1) := by decide +kernel
theorem dX12_image_128 : decode cX12_image 128 = .ok (.iaload, 1) := by decide +kernel
theorem dX12_image_129 : decode cX12_image 129 = .ok (.iastore, 1) := by decide +kernel
theorem dX12_image_130 : decode cX12_image 130 = .ok (.iinc 1 1, 3) := by decide +kernel
theorem dX12_image_133 : decode cX12_image 133 = .ok (.goto (-49), 3) := by decide +kernel
theorem dX12_image_136 : decode cX12_image 136 = .ok (.aload_n 0, 1) := by decide +kernel
theorem dX12_image_137 : decode cX12_image 137 = .ok (.aload_n 0, 1) := by decide +kernel
theorem dX12_image_138 : decode cX12_image 138 = .ok (.getfield 116, 3) := by decide +kernel
theorem dX12_image_141 : decode cX12_image 141 = .ok (.putfield 84, 3) := by decide +kernel
theorem dX12_image_144 : decode cX12_image 144 = .ok (.aload_n 0, 1) := by decide +kernel
theorem dX12_image_145 : decode cX12_image 145 = .ok (.aload_n 0, 1) := by decide +kernel
theorem dX12_image_146 : decode cX12_image 146 = .ok (.getfield 113, 3) := by decide +kernel
theorem dX12_image_149 : decode cX12_image 149 = .ok (.putfield 347, 3) := by decide +kernel
theorem dX12_image_152 : decode cX12_image 152 = .ok (.aload_n 0, 1) := by decide +kernel
theorem dX12_image_153 : decode cX12_image 153 = .ok (.aload_n 0, 1) := by decide +kernel
theorem dX12_image_154 : decode cX12_image 154 = .ok (.getfield 125, 3) := by decide +kernel
theorem dX12_image_157 : decode cX12_image 157 = .ok (.putfield 350, 3) := by decide +kernel
theorem dX12_image_160 : decode cX12_image 160 = .ok (.aload_n 0, 1) := by decide +kernel
theorem dX12_image_161 : decode cX12_image 161 = .ok (.aload_n 0, 1) := by decide +kernel
theorem dX12_image_162 : decode cX12_image 162 = .ok (.getfield 272, 3) := by decide +kernel
theorem dX12_image_165 : decode cX12_image 165 = .ok (.putfield 353, 3) := by decide +kernel
theorem dX12_image_168 : decode cX12_image 168 = .ok (.aload_n 0, 1) := by decide +kernel
theorem dX12_image_169 : decode cX12_image 169 = .ok (.getfield 116, 3) := by decide +kernel
theorem dX12_image_172 : decode cX12_image 172 = .ok (.ireturn, 1) := by decide +kernel
theorem dX12_back_0 : decode cX12_back 0 = .ok (.aload_n 0, 1) := by decide +kernel
theorem dX12_back_1 : decode cX12_back 1 = .ok (.getfield 84, 3) := by decide +kernel
theorem dX12_back_4 : decode cX12_back 4 = .ok (.iconst (-1), 1) := by decide +kernel
theorem dX12_back_5 : decode cX12_back 5 = .ok (.if_icmp .ne 6, 3) := by decide +kernel
theorem dX12_back_8 : decode cX12_back 8 = .ok (.bipush (-3), 2) := by decide +kernel
theorem dX12_back_10 : decode cX12_back 10 = .ok (.ireturn, 1) := by decide +kernel
theorem dX12_back_11 : decode cX12_back 11 = .ok (.iconst 0, 1) := by decide +kernel
theorem dX12_back_12 : decode cX12_back 12 = .ok (.istore_n 1, 1) := by decide +kernel
theorem dX12_back_13 : decode cX12_back 13 = .ok (.iload_n 1, 1) := by decide +kernel
theorem dX12_back_14 : decode cX12_back 14 = .ok (.bipush 36, 2) := by decide +kernel
theorem dX12_back_16 : decode cX12_back 16 = .ok (.if_icmp .ge 21, 3) := by decide +kernel
theorem dX12_back_19 : decode cX12_back 19 = .ok (.aload_n 0, 1) := by decide +kernel
theorem dX12_back_20 : decode cX12_back 20 = .ok (.getfield 23, 3) := by decide +kernel
theorem dX12_back_23 : decode cX12_back 23 = .ok (.iload_n 1, 1) := by decide +kernel
theorem dX12_back_24 : decode cX12_back 24 = .ok (.aload_n 0, 1) := by decide +kernel
theorem dX12_back_25 : decode cX12_back 25 = .ok (.getfield 75, 3) := by decide +kernel
theorem dX12_back_28 : decode cX12_back 28 = .ok (.iload_n 1, 1) := by decide +kernel
theorem dX12_back_29 : decode cX12_back 29 = .ok (.iaload, 1) := by decide +kernel
theorem dX12_back_30 : decode cX12_back 30 = .ok (.iastore, 1) := by decide +kernel
theorem dX12_back_31 : decode cX12_back 31 = .ok (.iinc 1 1, 3) := by decide +kernel
theorem dX12_back_34 : decode cX12_back 34 = .ok (.goto (-21), 3) := by decide +kernel
theorem dX12_back_37 : decode cX12_back 37 = .ok (.iconst 0, 1) := by decide +kernel
theorem dX12_back_38 : decode cX12_back 38 = .ok (.istore_n 1, 1) := by decide +kernel
theorem dX12_back_39 : decode cX12_back 39 = .ok (.iload_n 1, 1) := by decide +kernel
theorem dX12_back_40 : decode cX12_back 40 = .ok (.bipush 6, 2) := by decide +kernel
theorem dX12_back_42 : decode cX12_back 42 = .ok (.if_icmp .ge 51, 3) := by decide +kernel
theorem dX12_back_45 : decode cX12_back 45 = .ok (.aload_n 0, 1) := by decide +kernel
theorem dX12_back_46 : decode cX12_back 46 = .ok (.getfield 29, 3) := by decide +kernel
theorem dX12_back_49 : decode cX12_back 49 = .ok (.iload_n 1, 1) := by decide +kernel
theorem dX12_back_50 : decode cX12_back 50 = .ok (.aload_n 0, 1) := by decide +kernel
theorem dX12_back_51 : decode cX12_back 51 = .ok (.getfield 78, 3) := by decide +kernel
theorem dX12_back_54 : decode cX12_back 54 = .ok (.iload_n 1, 1) := by decide +kernel
theorem dX12_back_55 : decode cX12_back 55 = .ok (.iaload, 1) := by decide +kernel
theorem dX12_back_56 : decode cX12_back 56 = .ok (.iastore, 1) := by decide +kernel
theorem dX12_back_57 : decode cX12_back 57 = .ok (.aload_n 0, 1) := by decide +kernel
theorem dX12_back_58 : decode cX12_back 58 = .ok (.getfield 32, 3) := by decide +kernel
theorem dX12_back_61 : decode cX12_back 61 = .ok (.iload_n 1, 1) := by decide +kernel
theorem dX12_back_62 : decode cX12_back 62 = .ok (.aload_n 0, 1) := by decide +kernel
theorem dX12_back_63 : decode cX12_back 63 = .ok (.getfield 78, 3) := by decide +kernel
theorem dX12_back_66 : decode cX12_back 66 = .ok (.bipush 6, 2) := by decide +kernel
theorem dX12_back_68 : decode cX12_back 68 = .ok (.iload_n 1, 1) := by decide +kernel
theorem dX12_back_69 : decode cX12_back 69 = .ok (.iadd, 1) := by decide +kernel
theorem dX12_back_70 : decode cX12_back 70 = .ok (.iaload, 1) := by decide +kernel
theorem dX12_back_71 : decode cX12_back 71 = .ok (.iastore, 1) := by decide +kernel
theorem dX12_back_72 : decode cX12_back 72 = .ok (.aload_n 0, 1) := by decide +kernel
theorem dX12_back_73 : decode cX12_back 73 = .ok (.getfield 35, 3) := by decide +kernel
theorem dX12_back_76 : decode cX12_back 76 = .ok (.iload_n 1, 1) := by decide +kernel
theorem dX12_back_77 : decode cX12_back 77 = .ok (.aload_n 0, 1) := by decide +kernel
theorem dX12_back_78 : decode cX12_back 78 = .ok (.getfield 78, 3) := by decide +kernel
theorem dX12_back_81 : decode cX12_back 81 = .ok (.bipush 12, 2) := by decide +kernel
theorem dX12_back_83 : decode cX12_back 83 = .ok (.iload_n 1, 1) := by decide +kernel
theorem dX12_back_84 : decode cX12_back 84 = .ok (.iadd, 1) := by decide +kernel
theorem dX12_back_85 : decode cX12_back 85 = .ok (.iaload, 1) := by decide +kernel
theorem dX12_back_86 : decode cX12_back 86 = .ok (.iastore, 1) := by decide +kernel
theorem dX12_back_87 : decode cX12_back 87 = .ok (.iinc 1 1, 3) := by decide +kernel
theorem dX12_back_90 : decode cX12_back 90 = .ok (.goto (-51), 3) := by decide +kernel
theorem dX12_back_93 : decode cX12_back 93 = .ok (.iconst 0, 1) := by decide +kernel
theorem dX12_back_94 : decode cX12_back 94 = .ok (.istore_n 1, 1) := by decide +kernel
theorem dX12_back_95 : decode cX12_back 95 = .ok (.iload_n 1, 1) := by decide +kernel
theorem dX12_back_96 : decode cX12_back 96 = .ok (.iconst 5, 1) := by decide +kernel
theorem dX12_back_97 : decode cX12_back 97 = .ok (.if_icmp .ge 50, 3) := by decide +kernel
theorem dX12_back_100 : decode cX12_back 100 = .ok (.aload_n 0, 1) := by decide +kernel
theorem dX12_back_101 : decode cX12_back 101 = .ok (.getfield 38, 3) := by decide +kernel
theorem dX12_back_104 : decode cX12_back 104 = .ok (.iload_n 1, 1) := by decide +kernel
theorem dX12_back_105 : decode cX12_back 105 = .ok (.aload_n 0, 1) := by decide +kernel
theorem dX12_back_106 : decode cX12_back 106 = .ok (.getfield 81, 3) := by decide +kernel
theorem dX12_back_109 : decode cX12_back 109 = .ok (.iload_n 1, 1) := by decide +kernel
theorem dX12_back_110 : decode cX12_back 110 = .ok (.iaload, 1) := by decide +kernel
theorem dX12_back_111 : decode cX12_back 111 = .ok (.iastore, 1) := by decide +kernel
theorem dX12_back_112 : decode cX12_back 112 = .ok (.aload_n 0, 1) := by decide +kernel
theorem dX12_back_113 : decode cX12_back 113 = .ok (.getfield 41, 3) := by decide +kernel
theorem dX12_back_116 : decode cX12_back 116 = .ok (.iload_n 1, 1) := by decide +kernel
theorem dX12_back_117 : decode cX12_back 117 = .ok (.aload_n 0, 1) := by decide +kernel
theorem dX12_back_118 : decode cX12_back 118 = .ok (.getfield 81, 3) := by decide +kernel
theorem dX12_back_121 : decode cX12_back 121 = .ok (.iconst 5, 1) := by decide +kernel
theorem dX12_back_122 : decode cX12_back 122 = .ok (.iload_n 1, 1) := by decide +kernel
theorem dX12_back_123 : decode cX12_back 123 = .ok (.iadd, 1) := by decide +kernel
theorem dX12_back_124 : decode cX12_back 124 = .ok (.iaload, 1) := by decide +kernel
theorem dX12_back_125 : decode cX12_back 125 = .ok (.iastore, 1) := by decide +kernel
theorem dX12_back_126 : decode cX12_back 126 = .ok (.aload_n 0, 1) := by decide +kernel
theorem dX12_back_127 : decode cX12_back 127 = .ok (.getfield 44, 3) := by decide +kernel
theorem dX12_back_130 : decode cX12_back 130 = .ok (.iload_n 1, 1) := by decide +kernel
theorem dX12_back_131 : decode cX12_back 131 = .ok (.aload_n 0, 1) := by decide +kernel
theorem dX12_back_132 : decode cX12_back 132 = .ok (.getfield 81, 3) := by decide +kernel
theorem dX12_back_135 : decode cX12_back 135 = .ok (.bipush 10, 2) := by decide +kernel
theorem dX12_back_137 : decode cX12_back 137 = .ok (.iload_n 1, 1) := by decide +kernel
theorem dX12_back_138 : decode cX12_back 138 = .ok (.iadd, 1) := by decide +kernel
theorem dX12_back_139 : decode cX12_back 139 = .ok (.iaload, 1) := by decide +kernel
theorem dX12_back_140 : decode cX12_back 140 = .ok (.iastore, 1) := by decide +kernel
theorem dX12_back_141 : decode cX12_back 141 = .ok (.iinc 1 1, 3) := by decide +kernel
theorem dX12_back_144 : decode cX12_back 144 = .ok (.goto (-49), 3) := by decide +kernel
theorem dX12_back_147 : decode cX12_back 147 = .ok (.aload_n 0, 1) := by decide +kernel
theorem dX12_back_148 : decode cX12_back 148 = .ok (.aload_n 0, 1) := by decide +kernel
theorem dX12_back_149 : decode cX12_back 149 = .ok (.getfield 84, 3) := by decide +kernel
theorem dX12_back_152 : decode cX12_back 152 = .ok (.putfield 116, 3) := by decide +kernel
theorem dX12_back_155 : decode cX12_back 155 = .ok (.aload_n 0, 1) := by decide +kernel
theorem dX12_back_156 : decode cX12_back 156 = .ok (.aload_n 0, 1) := by decide +kernel
theorem dX12_back_157 : decode cX12_back 157 = .ok (.getfield 347, 3) := by decide +kernel
theorem dX12_back_160 : decode cX12_back 160 = .ok (.putfield 113, 3) := by decide +kernel
theorem dX12_back_163 : decode cX12_back 163 = .ok (.aload_n 0, 1) := by decide +kernel
theorem dX12_back_164 : decode cX12_back 164 = .ok (.aload_n 0, 1) := by decide +kernel
theorem dX12_back_165 : decode cX12_back 165 = .ok (.getfield 350, 3) := by decide +kernel
theorem dX12_back_168 : decode cX12_back 168 = .ok (.putfield 125, 3) := by decide +kernel
theorem dX12_back_171 : decode cX12_back 171 = .ok (.aload_n 0, 1) := by decide +kernel
theorem dX12_back_172 : decode cX12_back 172 = .ok (.aload_n 0, 1) := by decide +kernel
theorem dX12_back_173 : decode cX12_back 173 = .ok (.getfield 353, 3) := by decide +kernel
theorem dX12_back_176 : decode cX12_back 176 = .ok (.putfield 272, 3) := by decide +kernel
theorem dX12_back_179 : decode cX12_back 179 = .ok (.aload_n 0, 1) := by decide +kernel
theorem dX12_back_180 : decode cX12_back 180 = .ok (.getfield 116, 3) := by decide +kernel
theorem dX12_back_183 : decode cX12_back 183 = .ok (.ireturn, 1) := by decide +kernel
theorem dX12_count_0 : decode cX12_count 0 = .ok (.iload_n 1, 1) := by decide +kernel
theorem dX12_count_1 : decode cX12_count 1 = .ok (.i2l, 1) := by decide +kernel
theorem dX12_count_2 : decode cX12_count 2 = .ok (.lconst 0, 1) := by decide +kernel
theorem dX12_count_3 : decode cX12_count 3 = .ok (.ldc2_w 356, 3) := by decide +kernel
theorem dX12_count_6 : decode cX12_count 6 = .ok (.invokestatic 109, 3) := by decide +kernel
theorem dX12_count_9 : decode cX12_count 9 = .ok (.ifCond .ne 6, 3) := by decide +kernel
theorem dX12_count_12 : decode cX12_count 12 = .ok (.bipush (-2), 2) := by decide +kernel
theorem dX12_count_14 : decode cX12_count 14 = .ok (.ireturn, 1) := by decide +kernel
theorem dX12_count_15 : decode cX12_count 15 = .ok (.iload_n 1, 1) := by decide +kernel
theorem dX12_count_16 : decode cX12_count 16 = .ok (.iconst 2, 1) := by decide +kernel
theorem dX12_count_17 : decode cX12_count 17 = .ok (.if_icmp .ne 38, 3) := by decide +kernel
theorem dX12_count_20 : decode cX12_count 20 = .ok (.iconst 0, 1) := by decide +kernel
theorem dX12_count_21 : decode cX12_count 21 = .ok (.istore_n 2, 1) := by decide +kernel
theorem dX12_count_22 : decode cX12_count 22 = .ok (.iconst 0, 1) := by decide +kernel
theorem dX12_count_23 : decode cX12_count 23 = .ok (.istore_n 3, 1) := by decide +kernel
theorem dX12_count_24 : decode cX12_count 24 = .ok (.iload_n 3, 1) := by decide +kernel
theorem dX12_count_25 : decode cX12_count 25 = .ok (.bipush 36, 2) := by decide +kernel
theorem dX12_count_27 : decode cX12_count 27 = .ok (.if_icmp .ge 26, 3) := by decide +kernel
theorem dX12_count_30 : decode cX12_count 30 = .ok (.iload_n 2, 1) := by decide +kernel
theorem dX12_count_31 : decode cX12_count 31 = .ok (.aload_n 0, 1) := by decide +kernel
theorem dX12_count_32 : decode cX12_count 32 = .ok (.getfield 23, 3) := by decide +kernel
theorem dX12_count_35 : decode cX12_count 35 = .ok (.iload_n 3, 1) := by decide +kernel
theorem dX12_count_36 : decode cX12_count 36 = .ok (.iaload, 1) := by decide +kernel
theorem dX12_count_37 : decode cX12_count 37 = .ok (.ifCond .le 7, 3) := by decide +kernel
theorem dX12_count_40 : decode cX12_count 40 = .ok (.iconst 1, 1) := by decide +kernel
theorem dX12_count_41 : decode cX12_count 41 = .ok (.goto 4, 3) := by decide +kernel
theorem dX12_count_44 : decode cX12_count 44 = .ok (.iconst 0, 1) := by decide +kernel
theorem dX12_count_45 : decode cX12_count 45 = .ok (.iadd, 1) := by decide +kernel
theorem dX12_count_46 : decode cX12_count 46 = .ok (.istore_n 2, 1) := by decide +kernel
theorem dX12_count_47 : decode cX12_count 47 = .ok (.iinc 3 1, 3) := by decide +kernel
theorem dX12_count_50 : decode cX12_count 50 = .ok (.goto (-26), 3) := by decide +kernel
theorem dX12_count_53 : decode cX12_count 53 = .ok (.iload_n 2, 1) := by decide +kernel
theorem dX12_count_54 : decode cX12_count 54 = .ok (.ireturn, 1) := by decide +kernel
theorem dX12_count_55 : decode cX12_count 55 = .ok (.iload_n 1, 1) := by decide +kernel
theorem dX12_count_56 : decode cX12_count 56 = .ok (.ifCond .ne 10, 3) := by decide +kernel
theorem dX12_count_59 : decode cX12_count 59 = .ok (.aload_n 0, 1) := by decide +kernel
theorem dX12_count_60 : decode cX12_count 60 = .ok (.getfield 116, 3) := by decide +kernel
theorem dX12_count_63 : decode cX12_count 63 = .ok (.goto 55, 3) := by decide +kernel
theorem dX12_count_66 : decode cX12_count 66 = .ok (.iload_n 1, 1) := by decide +kernel
theorem dX12_count_67 : decode cX12_count 67 = .ok (.iconst 1, 1) := by decide +kernel
theorem dX12_count_68 : decode cX12_count 68 = .ok (.if_icmp .ne 10, 3) := by decide +kernel
theorem dX12_count_71 : decode cX12_count 71 = .ok (.aload_n 0, 1) := by decide +kernel
theorem dX12_count_72 : decode cX12_count 72 = .ok (.getfield 113, 3) := by decide +kernel
theorem dX12_count_75 : decode cX12_count 75 = .ok (.goto 43, 3) := by decide +kernel
theorem dX12_count_78 : decode cX12_count 78 = .ok (.iload_n 1, 1) := by decide +kernel
theorem dX12_count_79 : decode cX12_count 79 = .ok (.iconst 3, 1) := by decide +kernel
theorem dX12_count_80 : decode cX12_count 80 = .ok (.if_icmp .ne 10, 3) := by decide +kernel
theorem dX12_count_83 : decode cX12_count 83 = .ok (.aload_n 0, 1) := by decide +kernel
theorem dX12_count_84 : decode cX12_count 84 = .ok (.getfield 125, 3) := by decide +kernel
theorem dX12_count_87 : decode cX12_count 87 = .ok (.goto 31, 3) := by decide +kernel
theorem dX12_count_90 : decode cX12_count 90 = .ok (.iload_n 1, 1) := by decide +kernel
theorem dX12_count_91 : decode cX12_count 91 = .ok (.iconst 4, 1) := by decide +kernel
theorem dX12_count_92 : decode cX12_count 92 = .ok (.if_icmp .ne 10, 3) := by decide +kernel
theorem dX12_count_95 : decode cX12_count 95 = .ok (.aload_n 0, 1) := by decide +kernel
theorem dX12_count_96 : decode cX12_count 96 = .ok (.getfield 104, 3) := by decide +kernel
theorem dX12_count_99 : decode cX12_count 99 = .ok (.goto 19, 3) := by decide +kernel
theorem dX12_count_102 : decode cX12_count 102 = .ok (.iload_n 1, 1) := by decide +kernel
theorem dX12_count_103 : decode cX12_count 103 = .ok (.iconst 5, 1) := by decide +kernel
theorem dX12_count_104 : decode cX12_count 104 = .ok (.if_icmp .ne 10, 3) := by decide +kernel
theorem dX12_count_107 : decode cX12_count 107 = .ok (.aload_n 0, 1) := by decide +kernel
theorem dX12_count_108 : decode cX12_count 108 = .ok (.getfield 154, 3) := by decide +kernel
theorem dX12_count_111 : decode cX12_count 111 = .ok (.goto 7, 3) := by decide +kernel
theorem dX12_count_114 : decode cX12_count 114 = .ok (.aload_n 0, 1) := by decide +kernel
theorem dX12_count_115 : decode cX12_count 115 = .ok (.getfield 272, 3) := by decide +kernel
theorem dX12_count_118 : decode cX12_count 118 = .ok (.ireturn, 1) := by decide +kernel
theorem dX12_isSheet_0 : decode cX12_isSheet 0 = .ok (.iload_n 0, 1) := by decide +kernel
theorem dX12_isSheet_1 : decode cX12_isSheet 1 = .ok (.i2l, 1) := by decide +kernel
theorem dX12_isSheet_2 : decode cX12_isSheet 2 = .ok (.lconst 0, 1) := by decide +kernel
theorem dX12_isSheet_3 : decode cX12_isSheet 3 = .ok (.ldc2_w 142, 3) := by decide +kernel
theorem dX12_isSheet_6 : decode cX12_isSheet 6 = .ok (.invokestatic 109, 3) := by decide +kernel
theorem dX12_isSheet_9 : decode cX12_isSheet 9 = .ok (.ireturn, 1) := by decide +kernel
theorem dX12_sheet_0 : decode cX12_sheet 0 = .ok (.iload_n 1, 1) := by decide +kernel
theorem dX12_sheet_1 : decode cX12_sheet 1 = .ok (.invokestatic 333, 3) := by decide +kernel
theorem dX12_sheet_4 : decode cX12_sheet 4 = .ok (.ifCond .eq 27, 3) := by decide +kernel
theorem dX12_sheet_7 : decode cX12_sheet 7 = .ok (.iload_n 2, 1) := by decide +kernel
theorem dX12_sheet_8 : decode cX12_sheet 8 = .ok (.i2l, 1) := by decide +kernel
theorem dX12_sheet_9 : decode cX12_sheet 9 = .ok (.ldc2_w 358, 3) := by decide +kernel
theorem dX12_sheet_12 : decode cX12_sheet 12 = .ok (.ldc2_w 327, 3) := by decide +kernel
theorem dX12_sheet_15 : decode cX12_sheet 15 = .ok (.invokestatic 109, 3) := by decide +kernel
theorem dX12_sheet_18 : decode cX12_sheet 18 = .ok (.ifCond .eq 13, 3) := by decide +kernel
theorem dX12_sheet_21 : decode cX12_sheet 21 = .ok (.iload_n 2, 1) := by decide +kernel
theorem dX12_sheet_22 : decode cX12_sheet 22 = .ok (.ifCond .lt 12, 3) := by decide +kernel
theorem dX12_sheet_25 : decode cX12_sheet 25 = .ok (.iload_n 3, 1) := by decide +kernel
theorem dX12_sheet_26 : decode cX12_sheet 26 = .ok (.bipush 40, 2) := by decide +kernel
theorem dX12_sheet_28 : decode cX12_sheet 28 = .ok (.if_icmp .le 6, 3) := by decide +kernel
theorem dX12_sheet_31 : decode cX12_sheet 31 = .ok (.bipush (-2), 2) := by decide +kernel
theorem dX12_sheet_33 : decode cX12_sheet 33 = .ok (.ireturn, 1) := by decide +kernel
theorem dX12_sheet_34 : decode cX12_sheet 34 = .ok (.iload_n 2, 1) := by decide +kernel
theorem dX12_sheet_35 : decode cX12_sheet 35 = .ok (.ifCond .lt 10, 3) := by decide +kernel
theorem dX12_sheet_38 : decode cX12_sheet 38 = .ok (.iload_n 3, 1) := by decide +kernel
theorem dX12_sheet_39 : decode cX12_sheet 39 = .ok (.ifCond .ge 6, 3) := by decide +kernel
theorem dX12_sheet_42 : decode cX12_sheet 42 = .ok (.bipush (-14), 2) := by decide +kernel
theorem dX12_sheet_44 : decode cX12_sheet 44 = .ok (.ireturn, 1) := by decide +kernel
theorem dX12_sheet_45 : decode cX12_sheet 45 = .ok (.aload_n 0, 1) := by decide +kernel
theorem dX12_sheet_46 : decode cX12_sheet 46 = .ok (.getfield 87, 3) := by decide +kernel
theorem dX12_sheet_49 : decode cX12_sheet 49 = .ok (.iload_n 1, 1) := by decide +kernel
theorem dX12_sheet_50 : decode cX12_sheet 50 = .ok (.iload_n 2, 1) := by decide +kernel
theorem dX12_sheet_51 : decode cX12_sheet 51 = .ok (.ifCond .lt 7, 3) := by decide +kernel
theorem dX12_sheet_54 : decode cX12_sheet 54 = .ok (.iconst 1, 1) := by decide +kernel
theorem dX12_sheet_55 : decode cX12_sheet 55 = .ok (.goto 4, 3) := by decide +kernel
theorem dX12_sheet_58 : decode cX12_sheet 58 = .ok (.iconst 0, 1) := by decide +kernel
theorem dX12_sheet_59 : decode cX12_sheet 59 = .ok (.bastore, 1) := by decide +kernel
theorem dX12_sheet_60 : decode cX12_sheet 60 = .ok (.aload_n 0, 1) := by decide +kernel
theorem dX12_sheet_61 : decode cX12_sheet 61 = .ok (.getfield 91, 3) := by decide +kernel
theorem dX12_sheet_64 : decode cX12_sheet 64 = .ok (.iload_n 1, 1) := by decide +kernel
theorem dX12_sheet_65 : decode cX12_sheet 65 = .ok (.iload_n 2, 1) := by decide +kernel
theorem dX12_sheet_66 : decode cX12_sheet 66 = .ok (.iastore, 1) := by decide +kernel
theorem dX12_sheet_67 : decode cX12_sheet 67 = .ok (.aload_n 0, 1) := by decide +kernel
theorem dX12_sheet_68 : decode cX12_sheet 68 = .ok (.getfield 94, 3) := by decide +kernel
theorem dX12_sheet_71 : decode cX12_sheet 71 = .ok (.iload_n 1, 1) := by decide +kernel
theorem dX12_sheet_72 : decode cX12_sheet 72 = .ok (.iload_n 3, 1) := by decide +kernel
theorem dX12_sheet_73 : decode cX12_sheet 73 = .ok (.iastore, 1) := by decide +kernel
theorem dX12_sheet_74 : decode cX12_sheet 74 = .ok (.iconst 0, 1) := by decide +kernel
theorem dX12_sheet_75 : decode cX12_sheet 75 = .ok (.istore 4, 2) := by decide +kernel
theorem dX12_sheet_77 : decode cX12_sheet 77 = .ok (.iload 4, 2) := by decide +kernel
theorem dX12_sheet_79 : decode cX12_sheet 79 = .ok (.iload_n 3, 1) := by decide +kernel
theorem dX12_sheet_80 : decode cX12_sheet 80 = .ok (.if_icmp .ge 26, 3) := by decide +kernel
theorem dX12_sheet_83 : decode cX12_sheet 83 = .ok (.iload_n 2, 1) := by decide +kernel
theorem dX12_sheet_84 : decode cX12_sheet 84 = .ok (.ifCond .lt 22, 3) := by decide +kernel
theorem dX12_sheet_87 : decode cX12_sheet 87 = .ok (.aload_n 0, 1) := by decide +kernel
theorem dX12_sheet_88 : decode cX12_sheet 88 = .ok (.getfield 97, 3) := by decide +kernel
theorem dX12_sheet_91 : decode cX12_sheet 91 = .ok (.bipush 40, 2) := by decide +kernel
theorem dX12_sheet_93 : decode cX12_sheet 93 = .ok (.iload_n 1, 1) := by decide +kernel
theorem dX12_sheet_94 : decode cX12_sheet 94 = .ok (.imul, 1) := by decide +kernel
theorem dX12_sheet_95 : decode cX12_sheet 95 = .ok (.iload 4, 2) := by decide +kernel
theorem dX12_sheet_97 : decode cX12_sheet 97 = .ok (.iadd, 1) := by decide +kernel
theorem dX12_sheet_98 : decode cX12_sheet 98 = .ok (.iconst 0, 1) := by decide +kernel
theorem dX12_sheet_99 : decode cX12_sheet 99 = .ok (.iastore, 1) := by decide +kernel
theorem dX12_sheet_100 : decode cX12_sheet 100 = .ok (.iinc 4 1, 3) := by decide +kernel
theorem dX12_sheet_103 : decode cX12_sheet 103 = .ok (.goto (-26), 3) := by decide +kernel
theorem dX12_sheet_106 : decode cX12_sheet 106 = .ok (.iconst 1, 1) := by decide +kernel
theorem dX12_sheet_107 : decode cX12_sheet 107 = .ok (.ireturn, 1) := by decide +kernel
theorem dX12_cell_0 : decode cX12_cell 0 = .ok (.iload_n 1, 1) := by decide +kernel
theorem dX12_cell_1 : decode cX12_cell 1 = .ok (.invokestatic 333, 3) := by decide +kernel
theorem dX12_cell_4 : decode cX12_cell 4 = .ok (.ifCond .ne 6, 3) := by decide +kernel
theorem dX12_cell_7 : decode cX12_cell 7 = .ok (.bipush (-2), 2) := by decide +kernel
theorem dX12_cell_9 : decode cX12_cell 9 = .ok (.ireturn, 1) := by decide +kernel
theorem dX12_cell_10 : decode cX12_cell 10 = .ok (.aload_n 0, 1) := by decide +kernel
theorem dX12_cell_11 : decode cX12_cell 11 = .ok (.getfield 87, 3) := by decide +kernel
theorem dX12_cell_14 : decode cX12_cell 14 = .ok (.iload_n 1, 1) := by decide +kernel
theorem dX12_cell_15 : decode cX12_cell 15 = .ok (.baload, 1) := by decide +kernel
theorem dX12_cell_16 : decode cX12_cell 16 = .ok (.ifCond .ne 6, 3) := by decide +kernel
theorem dX12_cell_19 : decode cX12_cell 19 = .ok (.bipush (-11), 2) := by decide +kernel
theorem dX12_cell_21 : decode cX12_cell 21 = .ok (.ireturn, 1) := by decide +kernel
theorem dX12_cell_22 : decode cX12_cell 22 = .ok (.iload_n 2, 1) := by decide +kernel
theorem dX12_cell_23 : decode cX12_cell 23 = .ok (.i2l, 1) := by decide +kernel
theorem dX12_cell_24 : decode cX12_cell 24 = .ok (.lconst 0, 1) := by decide +kernel
theorem dX12_cell_25 : decode cX12_cell 25 = .ok (.aload_n 0, 1) := by decide +kernel
theorem dX12_cell_26 : decode cX12_cell 26 = .ok (.getfield 94, 3) := by decide +kernel
theorem dX12_cell_29 : decode cX12_cell 29 = .ok (.iload_n 1, 1) := by decide +kernel
theorem dX12_cell_30 : decode cX12_cell 30 = .ok (.iaload, 1) := by decide +kernel
theorem dX12_cell_31 : decode cX12_cell 31 = .ok (.iconst 1, 1) := by decide +kernel
theorem dX12_cell_32 : decode cX12_cell 32 = .ok (.isub, 1) := by decide +kernel
theorem dX12_cell_33 : decode cX12_cell 33 = .ok (.i2l, 1) := by decide +kernel
theorem dX12_cell_34 : decode cX12_cell 34 = .ok (.invokestatic 109, 3) := by decide +kernel
theorem dX12_cell_37 : decode cX12_cell 37 = .ok (.ifCond .ne 6, 3) := by decide +kernel
theorem dX12_cell_40 : decode cX12_cell 40 = .ok (.bipush (-12), 2) := by decide +kernel
theorem dX12_cell_42 : decode cX12_cell 42 = .ok (.ireturn, 1) := by decide +kernel
theorem dX12_cell_43 : decode cX12_cell 43 = .ok (.aload_n 0, 1) := by decide +kernel
theorem dX12_cell_44 : decode cX12_cell 44 = .ok (.getfield 97, 3) := by decide +kernel
theorem dX12_cell_47 : decode cX12_cell 47 = .ok (.bipush 40, 2) := by decide +kernel
theorem dX12_cell_49 : decode cX12_cell 49 = .ok (.iload_n 1, 1) := by decide +kernel
theorem dX12_cell_50 : decode cX12_cell 50 = .ok (.imul, 1) := by decide +kernel
theorem dX12_cell_51 : decode cX12_cell 51 = .ok (.iload_n 2, 1) := by decide +kernel
theorem dX12_cell_52 : decode cX12_cell 52 = .ok (.iadd, 1) := by decide +kernel
theorem dX12_cell_53 : decode cX12_cell 53 = .ok (.aload_n 0, 1) := by decide +kernel
theorem dX12_cell_54 : decode cX12_cell 54 = .ok (.getfield 91, 3) := by decide +kernel
theorem dX12_cell_57 : decode cX12_cell 57 = .ok (.iload_n 1, 1) := by decide +kernel
theorem dX12_cell_58 : decode cX12_cell 58 = .ok (.iaload, 1) := by decide +kernel
theorem dX12_cell_59 : decode cX12_cell 59 = .ok (.ifCond .ne 8, 3) := by decide +kernel
theorem dX12_cell_62 : decode cX12_cell 62 = .ok (.iload_n 3, 1) := by decide +kernel
theorem dX12_cell_63 : decode cX12_cell 63 = .ok (.i2b, 1) := by decide +kernel
theorem dX12_cell_64 : decode cX12_cell 64 = .ok (.goto 19, 3) := by decide +kernel
theorem dX12_cell_67 : decode cX12_cell 67 = .ok (.aload_n 0, 1) := by decide +kernel
theorem dX12_cell_68 : decode cX12_cell 68 = .ok (.getfield 91, 3) := by decide +kernel
theorem dX12_cell_71 : decode cX12_cell 71 = .ok (.iload_n 1, 1) := by decide +kernel
theorem dX12_cell_72 : decode cX12_cell 72 = .ok (.iaload, 1) := by decide +kernel
theorem dX12_cell_73 : decode cX12_cell 73 = .ok (.iconst 1, 1) := by decide +kernel
theorem dX12_cell_74 : decode cX12_cell 74 = .ok (.if_icmp .ne 8, 3) := by decide +kernel
theorem dX12_cell_77 : decode cX12_cell 77 = .ok (.iload_n 3, 1) := by decide +kernel
theorem dX12_cell_78 : decode cX12_cell 78 = .ok (.i2s, 1) := by decide +kernel
theorem dX12_cell_79 : decode cX12_cell 79 = .ok (.goto 4, 3) := by decide +kernel
theorem dX12_cell_82 : decode cX12_cell 82 = .ok (.iload_n 3, 1) := by decide +kernel
theorem dX12_cell_83 : decode cX12_cell 83 = .ok (.iastore, 1) := by decide +kernel
theorem dX12_cell_84 : decode cX12_cell 84 = .ok (.iconst 1, 1) := by decide +kernel
theorem dX12_cell_85 : decode cX12_cell 85 = .ok (.ireturn, 1) := by decide +kernel
theorem dX12_copy_0 : decode cX12_copy 0 = .ok (.iload_n 1, 1) := by decide +kernel
theorem dX12_copy_1 : decode cX12_copy 1 = .ok (.invokestatic 333, 3) := by decide +kernel
theorem dX12_copy_4 : decode cX12_copy 4 = .ok (.ifCond .eq 10, 3) := by decide +kernel
theorem dX12_copy_7 : decode cX12_copy 7 = .ok (.iload_n 3, 1) := by decide +kernel
theorem dX12_copy_8 : decode cX12_copy 8 = .ok (.invokestatic 333, 3) := by decide +kernel
theorem dX12_copy_11 : decode cX12_copy 11 = .ok (.ifCond .ne 6, 3) := by decide +kernel
theorem dX12_copy_14 : decode cX12_copy 14 = .ok (.bipush (-2), 2) := by decide +kernel
theorem dX12_copy_16 : decode cX12_copy 16 = .ok (.ireturn, 1) := by decide +kernel
theorem dX12_copy_17 : decode cX12_copy 17 = .ok (.aload_n 0, 1) := by decide +kernel
theorem dX12_copy_18 : decode cX12_copy 18 = .ok (.getfield 87, 3) := by decide +kernel
theorem dX12_copy_21 : decode cX12_copy 21 = .ok (.iload_n 1, 1) := by decide +kernel
theorem dX12_copy_22 : decode cX12_copy 22 = .ok (.baload, 1) := by decide +kernel
theorem dX12_copy_23 : decode cX12_copy 23 = .ok (.ifCond .eq 12, 3) := by decide +kernel
theorem dX12_copy_26 : decode cX12_copy 26 = .ok (.aload_n 0, 1) := by decide +kernel
theorem dX12_copy_27 : decode cX12_copy 27 = .ok (.getfield 87, 3) := by decide +kernel
theorem dX12_copy_30 : decode cX12_copy 30 = .ok (.iload_n 3, 1) := by decide +kernel
theorem dX12_copy_31 : decode cX12_copy 31 = .ok (.baload, 1) := by decide +kernel
theorem dX12_copy_32 : decode cX12_copy 32 = .ok (.ifCond .ne 6, 3) := by decide +kernel
theorem dX12_copy_35 : decode cX12_copy 35 = .ok (.bipush (-11), 2) := by decide +kernel
theorem dX12_copy_37 : decode cX12_copy 37 = .ok (.ireturn, 1) := by decide +kernel
theorem dX12_copy_38 : decode cX12_copy 38 = .ok (.aload_n 0, 1) := by decide +kernel
theorem dX12_copy_39 : decode cX12_copy 39 = .ok (.getfield 91, 3) := by decide +kernel
theorem dX12_copy_42 : decode cX12_copy 42 = .ok (.iload_n 1, 1) := by decide +kernel
theorem dX12_copy_43 : decode cX12_copy 43 = .ok (.iaload, 1) := by decide +kernel
theorem dX12_copy_44 : decode cX12_copy 44 = .ok (.aload_n 0, 1) := by decide +kernel
theorem dX12_copy_45 : decode cX12_copy 45 = .ok (.getfield 91, 3) := by decide +kernel
theorem dX12_copy_48 : decode cX12_copy 48 = .ok (.iload_n 3, 1) := by decide +kernel
theorem dX12_copy_49 : decode cX12_copy 49 = .ok (.iaload, 1) := by decide +kernel
theorem dX12_copy_50 : decode cX12_copy 50 = .ok (.if_icmp .eq 6, 3) := by decide +kernel
theorem dX12_copy_53 : decode cX12_copy 53 = .ok (.bipush (-13), 2) := by decide +kernel
theorem dX12_copy_55 : decode cX12_copy 55 = .ok (.ireturn, 1) := by decide +kernel
theorem dX12_copy_56 : decode cX12_copy 56 = .ok (.iload 5, 2) := by decide +kernel
theorem dX12_copy_58 : decode cX12_copy 58 = .ok (.ifCond .lt 39, 3) := by decide +kernel
theorem dX12_copy_61 : decode cX12_copy 61 = .ok (.iload_n 2, 1) := by decide +kernel
theorem dX12_copy_62 : decode cX12_copy 62 = .ok (.ifCond .lt 35, 3) := by decide +kernel
theorem dX12_copy_65 : decode cX12_copy 65 = .ok (.iload 4, 2) := by decide +kernel
theorem dX12_copy_67 : decode cX12_copy 67 = .ok (.ifCond .lt 30, 3) := by decide +kernel
theorem dX12_copy_70 : decode cX12_copy 70 = .ok (.iload_n 2, 1) := by decide +kernel
theorem dX12_copy_71 : decode cX12_copy 71 = .ok (.aload_n 0, 1) := by decide +kernel
theorem dX12_copy_72 : decode cX12_copy 72 = .ok (.getfield 94, 3) := by decide +kernel
theorem dX12_copy_75 : decode cX12_copy 75 = .ok (.iload_n 1, 1) := by decide +kernel
theorem dX12_copy_76 : decode cX12_copy 76 = .ok (.iaload, 1) := by decide +kernel
theorem dX12_copy_77 : decode cX12_copy 77 = .ok (.iload 5, 2) := by decide +kernel
theorem dX12_copy_79 : decode cX12_copy 79 = .ok (.isub, 1) := by decide +kernel
theorem dX12_copy_80 : decode cX12_copy 80 = .ok (.if_icmp .gt 17, 3) := by decide +kernel
theorem dX12_copy_83 : decode cX12_copy 83 = .ok (.iload 4, 2) := by decide +kernel
theorem dX12_copy_85 : decode cX12_copy 85 = .ok (.aload_n 0, 1) := by decide +kernel
theorem dX12_copy_86 : decode cX12_copy 86 = .ok (.getfield 94, 3) := by decide +kernel
theorem dX12_copy_89 : decode cX12_copy 89 = .ok (.iload_n 3, 1) := by decide +kernel
theorem dX12_copy_90 : decode cX12_copy 90 = .ok (.iaload, 1) := by decide +kernel
theorem dX12_copy_91 : decode cX12_copy 91 = .ok (.iload 5, 2) := by decide +kernel
theorem dX12_copy_93 : decode cX12_copy 93 = .ok (.isub, 1) := by decide +kernel
theorem dX12_copy_94 : decode cX12_copy 94 = .ok (.if_icmp .le 6, 3) := by decide +kernel
theorem dX12_copy_97 : decode cX12_copy 97 = .ok (.bipush (-12), 2) := by decide +kernel
theorem dX12_copy_99 : decode cX12_copy 99 = .ok (.ireturn, 1) := by decide +kernel
theorem dX12_copy_100 : decode cX12_copy 100 = .ok (.iload_n 1, 1) := by decide +kernel
theorem dX12_copy_101 : decode cX12_copy 101 = .ok (.iload_n 3, 1) := by decide +kernel
theorem dX12_copy_102 : decode cX12_copy 102 = .ok (.if_icmp .ne 13, 3) := by decide +kernel
theorem dX12_copy_105 : decode cX12_copy 105 = .ok (.iload_n 2, 1) := by decide +kernel
theorem dX12_copy_106 : decode cX12_copy 106 = .ok (.iload 4, 2) := by decide +kernel
theorem dX12_copy_108 : decode cX12_copy 108 = .ok (.if_icmp .ge 7, 3) := by decide +kernel
theorem dX12_copy_111 : decode cX12_copy 111 = .ok (.iconst 1, 1) := by decide +kernel
theorem dX12_copy_112 : decode cX12_copy 112 = .ok (.goto 4, 3) := by decide +kernel
theorem dX12_copy_115 : decode cX12_copy 115 = .ok (.iconst 0, 1) := by decide +kernel
theorem dX12_copy_116 : decode cX12_copy 116 = .ok (.istore 6, 2) := by decide +kernel
theorem dX12_copy_118 : decode cX12_copy 118 = .ok (.iconst 0, 1) := by decide +kernel
theorem dX12_copy_119 : decode cX12_copy 119 = .ok (.istore 7, 2) := by decide +kernel
theorem dX12_copy_121 : decode cX12_copy 121 = .ok (.iload 7, 2) := by decide +kernel
theorem dX12_copy_123 : decode cX12_copy 123 = .ok (.iload 5, 2) := by decide +kernel
theorem dX12_copy_125 : decode cX12_copy 125 = .ok (.if_icmp .ge 57, 3) := by decide +kernel
theorem dX12_copy_128 : decode cX12_copy 128 = .ok (.iload 6, 2) := by decide +kernel
theorem dX12_copy_130 : decode cX12_copy 130 = .ok (.ifCond .eq 13, 3) := by decide +kernel
theorem dX12_copy_133 : decode cX12_copy 133 = .ok (.iload 5, 2) := by decide +kernel
theorem dX12_copy_135 : decode cX12_copy 135 = .ok (.iconst 1, 1) := by decide +kernel
theorem dX12_copy_136 : decode cX12_copy 136 = .ok (.isub, 1) := by decide +kernel
theorem dX12_copy_137 : decode cX12_copy 137 = .ok (.iload 7, 2) := by decide +kernel
theorem dX12_copy_139 : decode cX12_copy 139 = .ok (.isub, 1) := by decide +kernel
theorem dX12_copy_140 : decode cX12_copy 140 = .ok (.goto 5, 3) := by decide +kernel
theorem dX12_copy_143 : decode cX12_copy 143 = .ok (.iload 7, 2) := by decide +kernel
theorem dX12_copy_145 : decode cX12_copy 145 = .ok (.istore 8, 2) := by decide +kernel
theorem dX12_copy_147 : decode cX12_copy 147 = .ok (.aload_n 0, 1) := by decide +kernel
theorem dX12_copy_148 : decode cX12_copy 148 = .ok (.getfield 97, 3) := by decide +kernel
theorem dX12_copy_151 : decode cX12_copy 151 = .ok (.bipush 40, 2) := by decide +kernel
theorem dX12_copy_153 : decode cX12_copy 153 = .ok (.iload_n 3, 1) := by decide +kernel
theorem dX12_copy_154 : decode cX12_copy 154 = .ok (.imul, 1) := by decide +kernel
theorem dX12_copy_155 : decode cX12_copy 155 = .ok (.iload 4, 2) := by decide +kernel
theorem dX12_copy_157 : decode cX12_copy 157 = .ok (.iadd, 1) := by decide +kernel
theorem dX12_copy_158 : decode cX12_copy 158 = .ok (.iload 8, 2) := by decide +kernel
theorem dX12_copy_160 : decode cX12_copy 160 = .ok (.iadd, 1) := by decide +kernel
theorem dX12_copy_161 : decode cX12_copy 161 = .ok (.aload_n 0, 1) := by decide +kernel
theorem dX12_copy_162 : decode cX12_copy 162 = .ok (.getfield 97, 3) := by decide +kernel
theorem dX12_copy_165 : decode cX12_copy 165 = .ok (.bipush 40, 2) := by decide +kernel
theorem dX12_copy_167 : decode cX12_copy 167 = .ok (.iload_n 1, 1) := by decide +kernel
theorem dX12_copy_168 : decode cX12_copy 168 = .ok (.imul, 1) := by decide +kernel
theorem dX12_copy_169 : decode cX12_copy 169 = .ok (.iload_n 2, 1) := by decide +kernel
theorem dX12_copy_170 : decode cX12_copy 170 = .ok (.iadd, 1) := by decide +kernel
theorem dX12_copy_171 : decode cX12_copy 171 = .ok (.iload 8, 2) := by decide +kernel
theorem dX12_copy_173 : decode cX12_copy 173 = .ok (.iadd, 1) := by decide +kernel
theorem dX12_copy_174 : decode cX12_copy 174 = .ok (.iaload, 1) := by decide +kernel
theorem dX12_copy_175 : decode cX12_copy 175 = .ok (.iastore, 1) := by decide +kernel
theorem dX12_copy_176 : decode cX12_copy 176 = .ok (.iinc 7 1, 3) := by decide +kernel
theorem dX12_copy_179 : decode cX12_copy 179 = .ok (.goto (-58), 3) := by decide +kernel
theorem dX12_copy_182 : decode cX12_copy 182 = .ok (.iload 5, 2) := by decide +kernel
theorem dX12_copy_184 : decode cX12_copy 184 = .ok (.ireturn, 1) := by decide +kernel
theorem dX12_heights_0 : decode cX12_heights 0 = .ok (.iload_n 1, 1) := by decide +kernel
theorem dX12_heights_1 : decode cX12_heights 1 = .ok (.invokestatic 333, 3) := by decide +kernel
theorem dX12_heights_4 : decode cX12_heights 4 = .ok (.ifCond .eq 28, 3) := by decide +kernel
theorem dX12_heights_7 : decode cX12_heights 7 = .ok (.iload_n 2, 1) := by decide +kernel
theorem dX12_heights_8 : decode cX12_heights 8 = .ok (.i2l, 1) := by decide +kernel
theorem dX12_heights_9 : decode cX12_heights 9 = .ok (.lconst 0, 1) := by decide +kernel
theorem dX12_heights_10 : decode cX12_heights 10 = .ok (.ldc2_w 327, 3) := by decide +kernel
theorem dX12_heights_13 : decode cX12_heights 13 = .ok (.invokestatic 109, 3) := by decide +kernel
theorem dX12_heights_16 : decode cX12_heights 16 = .ok (.ifCond .eq 16, 3) := by decide +kernel
theorem dX12_heights_19 : decode cX12_heights 19 = .ok (.iload 4, 2) := by decide +kernel
theorem dX12_heights_21 : decode cX12_heights 21 = .ok (.i2l, 1) := by decide +kernel
theorem dX12_heights_22 : decode cX12_heights 22 = .ok (.lconst 0, 1) := by decide +kernel
theorem dX12_heights_23 : decode cX12_heights 23 = .ok (.ldc2_w 343, 3) := by decide +kernel
theorem dX12_heights_26 : decode cX12_heights 26 = .ok (.invokestatic 109, 3) := by decide +kernel
theorem dX12_heights_29 : decode cX12_heights 29 = .ok (.ifCond .ne 6, 3) := by decide +kernel
theorem dX12_heights_32 : decode cX12_heights 32 = .ok (.bipush (-2), 2) := by decide +kernel
theorem dX12_heights_34 : decode cX12_heights 34 = .ok (.ireturn, 1) := by decide +kernel
theorem dX12_heights_35 : decode cX12_heights 35 = .ok (.aload_n 0, 1) := by decide +kernel
theorem dX12_heights_36 : decode cX12_heights 36 = .ok (.getfield 87, 3) := by decide +kernel
theorem dX12_heights_39 : decode cX12_heights 39 = .ok (.iload_n 1, 1) := by decide +kernel
theorem dX12_heights_40 : decode cX12_heights 40 = .ok (.baload, 1) := by decide +kernel
theorem dX12_heights_41 : decode cX12_heights 41 = .ok (.ifCond .eq 16, 3) := by decide +kernel
theorem dX12_heights_44 : decode cX12_heights 44 = .ok (.aload_n 0, 1) := by decide +kernel
theorem dX12_heights_45 : decode cX12_heights 45 = .ok (.getfield 91, 3) := by decide +kernel
theorem dX12_heights_48 : decode cX12_heights 48 = .ok (.iload_n 1, 1) := by decide +kernel
theorem dX12_heights_49 : decode cX12_heights 49 = .ok (.iaload, 1) := by decide +kernel
theorem dX12_heights_50 : decode cX12_heights 50 = .ok (.iload_n 2, 1) := by decide +kernel
theorem dX12_heights_51 : decode cX12_heights 51 = .ok (.if_icmp .eq 6, 3) := by decide +kernel
theorem dX12_heights_54 : decode cX12_heights 54 = .ok (.bipush (-13), 2) := by decide +kernel
theorem dX12_heights_56 : decode cX12_heights 56 = .ok (.ireturn, 1) := by decide +kernel
theorem dX12_heights_57 : decode cX12_heights 57 = .ok (.aload_n 0, 1) := by decide +kernel
theorem dX12_heights_58 : decode cX12_heights 58 = .ok (.getfield 87, 3) := by decide +kernel
theorem dX12_heights_61 : decode cX12_heights 61 = .ok (.iload_n 1, 1) := by decide +kernel
theorem dX12_heights_62 : decode cX12_heights 62 = .ok (.baload, 1) := by decide +kernel
theorem dX12_heights_63 : decode cX12_heights 63 = .ok (.ifCond .ne 6, 3) := by decide +kernel
theorem dX12_heights_66 : decode cX12_heights 66 = .ok (.bipush (-11), 2) := by decide +kernel
theorem dX12_heights_68 : decode cX12_heights 68 = .ok (.ireturn, 1) := by decide +kernel
theorem dX12_heights_69 : decode cX12_heights 69 = .ok (.iconst 0, 1) := by decide +kernel
theorem dX12_heights_70 : decode cX12_heights 70 = .ok (.istore 5, 2) := by decide +kernel
theorem dX12_heights_72 : decode cX12_heights 72 = .ok (.iconst 0, 1) := by decide +kernel
theorem dX12_heights_73 : decode cX12_heights 73 = .ok (.istore 6, 2) := by decide +kernel
theorem dX12_heights_75 : decode cX12_heights 75 = .ok (.iload 6, 2) := by decide +kernel
theorem dX12_heights_77 : decode cX12_heights 77 = .ok (.iload 4, 2) := by decide +kernel
theorem dX12_heights_79 : decode cX12_heights 79 = .ok (.if_icmp .ge 80, 3) := by decide +kernel
theorem dX12_heights_82 : decode cX12_heights 82 = .ok (.iload_n 3, 1) := by decide +kernel
theorem dX12_heights_83 : decode cX12_heights 83 = .ok (.ifCond .lt 20, 3) := by decide +kernel
theorem dX12_heights_86 : decode cX12_heights 86 = .ok (.iload_n 3, 1) := by decide +kernel
theorem dX12_heights_87 : decode cX12_heights 87 = .ok (.aload_n 0, 1) := by decide +kernel
theorem dX12_heights_88 : decode cX12_heights 88 = .ok (.getfield 94, 3) := by decide +kernel
theorem dX12_heights_91 : decode cX12_heights 91 = .ok (.iload_n 1, 1) := by decide +kernel
theorem dX12_heights_92 : decode cX12_heights 92 = .ok (.iaload, 1) := by decide +kernel
theorem dX12_heights_93 : decode cX12_heights 93 = .ok (.iconst 2, 1) := by decide +kernel
theorem dX12_heights_94 : decode cX12_heights 94 = .ok (.iload 6, 2) := by decide +kernel
theorem dX12_heights_96 : decode cX12_heights 96 = .ok (.imul, 1) := by decide +kernel
theorem dX12_heights_97 : decode cX12_heights 97 = .ok (.isub, 1) := by decide +kernel
theorem dX12_heights_98 : decode cX12_heights 98 = .ok (.iconst 2, 1) := by decide +kernel
theorem dX12_heights_99 : decode cX12_heights 99 = .ok (.isub, 1) := by decide +kernel
theorem dX12_heights_100 : decode cX12_heights 100 = .ok (.if_icmp .le 6, 3) := by decide +kernel
theorem dX12_heights_103 : decode cX12_heights 103 = .ok (.bipush (-12), 2) := by decide +kernel
theorem dX12_heights_105 : decode cX12_heights 105 = .ok (.ireturn, 1) := by decide +kernel
theorem dX12_heights_106 : decode cX12_heights 106 = .ok (.bipush 40, 2) := by decide +kernel
theorem dX12_heights_108 : decode cX12_heights 108 = .ok (.iload_n 1, 1) := by decide +kernel
theorem dX12_heights_109 : decode cX12_heights 109 = .ok (.imul, 1) := by decide +kernel
theorem dX12_heights_110 : decode cX12_heights 110 = .ok (.iload_n 3, 1) := by decide +kernel
theorem dX12_heights_111 : decode cX12_heights 111 = .ok (.iadd, 1) := by decide +kernel
theorem dX12_heights_112 : decode cX12_heights 112 = .ok (.iconst 2, 1) := by decide +kernel
theorem dX12_heights_113 : decode cX12_heights 113 = .ok (.iload 6, 2) := by decide +kernel
theorem dX12_heights_115 : decode cX12_heights 115 = .ok (.imul, 1) := by decide +kernel
theorem dX12_heights_116 : decode cX12_heights 116 = .ok (.iadd, 1) := by decide +kernel
theorem dX12_heights_117 : decode cX12_heights 117 = .ok (.istore 7, 2) := by decide +kernel
theorem dX12_heights_119 : decode cX12_heights 119 = .ok (.iload 5, 2) := by decide +kernel
theorem dX12_heights_121 : decode cX12_heights 121 = .ok (.aload_n 0, 1) := by decide +kernel
theorem dX12_heights_122 : decode cX12_heights 122 = .ok (.iconst 0, 1) := by decide +kernel
theorem dX12_heights_123 : decode cX12_heights 123 = .ok (.aload_n 0, 1) := by decide +kernel
theorem dX12_heights_124 : decode cX12_heights 124 = .ok (.getfield 97, 3) := by decide +kernel
theorem dX12_heights_127 : decode cX12_heights 127 = .ok (.iload 7, 2) := by decide +kernel
theorem dX12_heights_129 : decode cX12_heights 129 = .ok (.iaload, 1) := by decide +kernel
theorem dX12_heights_130 : decode cX12_heights 130 = .ok (.aload_n 0, 1) := by decide +kernel
theorem dX12_heights_131 : decode cX12_heights 131 = .ok (.getfield 97, 3) := by decide +kernel
theorem dX12_heights_134 : decode cX12_heights 134 = .ok (.iload 7, 2) := by decide +kernel
theorem dX12_heights_136 : decode cX12_heights 136 = .ok (.iconst 1, 1) := by decide +kernel
theorem dX12_heights_137 : decode cX12_heights 137 = .ok (.iadd, 1) := by decide +kernel
theorem dX12_heights_138 : decode cX12_heights 138 = .ok (.iaload, 1) := by decide +kernel
theorem dX12_heights_139 : decode cX12_heights 139 = .ok (.invokevirtual 360, 3) := by decide +kernel
theorem dX12_heights_142 : decode cX12_heights 142 = .ok (.ifCond .lt 7, 3) := by decide +kernel
theorem dX12_heights_145 : decode cX12_heights 145 = .ok (.iconst 1, 1) := by decide +kernel
theorem dX12_heights_146 : decode cX12_heights 146 = .ok (.goto 4, 3) := by decide +kernel
theorem dX12_heights_149 : decode cX12_heights 149 = .ok (.iconst 0, 1) := by decide +kernel
theorem dX12_heights_150 : decode cX12_heights 150 = .ok (.iadd, 1) := by decide +kernel
theorem dX12_heights_151 : decode cX12_heights 151 = .ok (.istore 5, 2) := by decide +kernel
theorem dX12_heights_153 : decode cX12_heights 153 = .ok (.iinc 6 1, 3) := by decide +kernel
theorem dX12_heights_156 : decode cX12_heights 156 = .ok (.goto (-81), 3) := by decide +kernel
theorem dX12_heights_159 : decode cX12_heights 159 = .ok (.iload 5, 2) := by decide +kernel
theorem dX12_heights_161 : decode cX12_heights 161 = .ok (.ireturn, 1) := by decide +kernel
theorem dX12_over_0 : decode cX12_over 0 = .ok (.iload_n 0, 1) := by decide +kernel
theorem dX12_over_1 : decode cX12_over 1 = .ok (.ifCond .ne 7, 3) := by decide +kernel
theorem dX12_over_4 : decode cX12_over 4 = .ok (.iconst (-1), 1) := by decide +kernel
theorem dX12_over_5 : decode cX12_over 5 = .ok (.goto 22, 3) := by decide +kernel
theorem dX12_over_8 : decode cX12_over 8 = .ok (.iload_n 0, 1) := by decide +kernel
theorem dX12_over_9 : decode cX12_over 9 = .ok (.iconst 3, 1) := by decide +kernel
theorem dX12_over_10 : decode cX12_over 10 = .ok (.if_icmp .ne 7, 3) := by decide +kernel
theorem dX12_over_13 : decode cX12_over 13 = .ok (.iconst 1, 1) := by decide +kernel
theorem dX12_over_14 : decode cX12_over 14 = .ok (.goto 13, 3) := by decide +kernel
theorem dX12_over_17 : decode cX12_over 17 = .ok (.iload_n 0, 1) := by decide +kernel
theorem dX12_over_18 : decode cX12_over 18 = .ok (.iconst 4, 1) := by decide +kernel
theorem dX12_over_19 : decode cX12_over 19 = .ok (.if_icmp .ne 7, 3) := by decide +kernel
theorem dX12_over_22 : decode cX12_over 22 = .ok (.iconst 2, 1) := by decide +kernel
theorem dX12_over_23 : decode cX12_over 23 = .ok (.goto 4, 3) := by decide +kernel
theorem dX12_over_26 : decode cX12_over 26 = .ok (.iconst 0, 1) := by decide +kernel
theorem dX12_over_27 : decode cX12_over 27 = .ok (.ireturn, 1) := by decide +kernel
theorem dX12_taken_0 : decode cX12_taken 0 = .ok (.iload_n 2, 1) := by decide +kernel
theorem dX12_taken_1 : decode cX12_taken 1 = .ok (.i2l, 1) := by decide +kernel
theorem dX12_taken_2 : decode cX12_taken 2 = .ok (.lconst 0, 1) := by decide +kernel
theorem dX12_taken_3 : decode cX12_taken 3 = .ok (.ldc2_w 128, 3) := by decide +kernel
theorem dX12_taken_6 : decode cX12_taken 6 = .ok (.invokestatic 109, 3) := by decide +kernel
theorem dX12_taken_9 : decode cX12_taken 9 = .ok (.ifCond .ne 6, 3) := by decide +kernel
theorem dX12_taken_12 : decode cX12_taken 12 = .ok (.bipush (-2), 2) := by decide +kernel
theorem dX12_taken_14 : decode cX12_taken 14 = .ok (.ireturn, 1) := by decide +kernel
theorem dX12_taken_15 : decode cX12_taken 15 = .ok (.aload_n 0, 1) := by decide +kernel
theorem dX12_taken_16 : decode cX12_taken 16 = .ok (.iload_n 1, 1) := by decide +kernel
theorem dX12_taken_17 : decode cX12_taken 17 = .ok (.invokevirtual 136, 3) := by decide +kernel
theorem dX12_taken_20 : decode cX12_taken 20 = .ok (.ifCond .ne 6, 3) := by decide +kernel
theorem dX12_taken_23 : decode cX12_taken 23 = .ok (.bipush (-11), 2) := by decide +kernel
theorem dX12_taken_25 : decode cX12_taken 25 = .ok (.ireturn, 1) := by decide +kernel
theorem dX12_taken_26 : decode cX12_taken 26 = .ok (.aload_n 0, 1) := by decide +kernel
theorem dX12_taken_27 : decode cX12_taken 27 = .ok (.getfield 26, 3) := by decide +kernel
theorem dX12_taken_30 : decode cX12_taken 30 = .ok (.iload_n 1, 1) := by decide +kernel
theorem dX12_taken_31 : decode cX12_taken 31 = .ok (.iaload, 1) := by decide +kernel
theorem dX12_taken_32 : decode cX12_taken 32 = .ok (.istore_n 3, 1) := by decide +kernel
theorem dX12_taken_33 : decode cX12_taken 33 = .ok (.iload_n 3, 1) := by decide +kernel
theorem dX12_taken_34 : decode cX12_taken 34 = .ok (.iconst (-1), 1) := by decide +kernel
theorem dX12_taken_35 : decode cX12_taken 35 = .ok (.if_icmp .eq 16, 3) := by decide +kernel
theorem dX12_taken_38 : decode cX12_taken 38 = .ok (.iload_n 3, 1) := by decide +kernel
theorem dX12_taken_39 : decode cX12_taken 39 = .ok (.iload_n 2, 1) := by decide +kernel
theorem dX12_taken_40 : decode cX12_taken 40 = .ok (.if_icmp .eq 11, 3) := by decide +kernel
theorem dX12_taken_43 : decode cX12_taken 43 = .ok (.iload_n 3, 1) := by decide +kernel
theorem dX12_taken_44 : decode cX12_taken 44 = .ok (.invokestatic 363, 3) := by decide +kernel
theorem dX12_taken_47 : decode cX12_taken 47 = .ok (.istore_n 3, 1) := by decide +kernel
theorem dX12_taken_48 : decode cX12_taken 48 = .ok (.goto (-15), 3) := by decide +kernel
theorem dX12_taken_51 : decode cX12_taken 51 = .ok (.iload_n 3, 1) := by decide +kernel
theorem dX12_taken_52 : decode cX12_taken 52 = .ok (.iload_n 2, 1) := by decide +kernel
theorem dX12_taken_53 : decode cX12_taken 53 = .ok (.if_icmp .ne 12, 3) := by decide +kernel
theorem dX12_taken_56 : decode cX12_taken 56 = .ok (.aload_n 0, 1) := by decide +kernel
theorem dX12_taken_57 : decode cX12_taken 57 = .ok (.getfield 35, 3) := by decide +kernel
theorem dX12_taken_60 : decode cX12_taken 60 = .ok (.iload_n 1, 1) := by decide +kernel
theorem dX12_taken_61 : decode cX12_taken 61 = .ok (.iaload, 1) := by decide +kernel
theorem dX12_taken_62 : decode cX12_taken 62 = .ok (.goto 5, 3) := by decide +kernel
theorem dX12_taken_65 : decode cX12_taken 65 = .ok (.bipush (-13), 2) := by decide +kernel
theorem dX12_taken_67 : decode cX12_taken 67 = .ok (.ireturn, 1) := by decide +kernel
