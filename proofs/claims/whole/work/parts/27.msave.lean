theorem dM_save_0 : decode cM_save 0 = .ok (.iconst 0, 1) := by decide +kernel
theorem dM_save_1 : decode cM_save 1 = .ok (.istore_n 1, 1) := by decide +kernel
theorem dM_save_2 : decode cM_save 2 = .ok (.iload_n 1, 1) := by decide +kernel
theorem dM_save_3 : decode cM_save 3 = .ok (.sipush 288, 3) := by decide +kernel
theorem dM_save_6 : decode cM_save 6 = .ok (.if_icmp .ge 33, 3) := by decide +kernel
theorem dM_save_9 : decode cM_save 9 = .ok (.aload_n 0, 1) := by decide +kernel
theorem dM_save_10 : decode cM_save 10 = .ok (.getfield 65, 3) := by decide +kernel
theorem dM_save_13 : decode cM_save 13 = .ok (.iload_n 1, 1) := by decide +kernel
theorem dM_save_14 : decode cM_save 14 = .ok (.aload_n 0, 1) := by decide +kernel
theorem dM_save_15 : decode cM_save 15 = .ok (.getfield 7, 3) := by decide +kernel
theorem dM_save_18 : decode cM_save 18 = .ok (.iload_n 1, 1) := by decide +kernel
theorem dM_save_19 : decode cM_save 19 = .ok (.baload, 1) := by decide +kernel
theorem dM_save_20 : decode cM_save 20 = .ok (.bastore, 1) := by decide +kernel
theorem dM_save_21 : decode cM_save 21 = .ok (.aload_n 0, 1) := by decide +kernel
theorem dM_save_22 : decode cM_save 22 = .ok (.getfield 68, 3) := by decide +kernel
theorem dM_save_25 : decode cM_save 25 = .ok (.iload_n 1, 1) := by decide +kernel
theorem dM_save_26 : decode cM_save 26 = .ok (.aload_n 0, 1) := by decide +kernel
theorem dM_save_27 : decode cM_save 27 = .ok (.getfield 13, 3) := by decide +kernel
theorem dM_save_30 : decode cM_save 30 = .ok (.iload_n 1, 1) := by decide +kernel
theorem dM_save_31 : decode cM_save 31 = .ok (.iaload, 1) := by decide +kernel
theorem dM_save_32 : decode cM_save 32 = .ok (.iastore, 1) := by decide +kernel
theorem dM_save_33 : decode cM_save 33 = .ok (.iinc 1 1, 3) := by decide +kernel
theorem dM_save_36 : decode cM_save 36 = .ok (.goto (-34), 3) := by decide +kernel
theorem dM_save_39 : decode cM_save 39 = .ok (.iconst 0, 1) := by decide +kernel
theorem dM_save_40 : decode cM_save 40 = .ok (.istore_n 1, 1) := by decide +kernel
theorem dM_save_41 : decode cM_save 41 = .ok (.iload_n 1, 1) := by decide +kernel
theorem dM_save_42 : decode cM_save 42 = .ok (.sipush 1800, 3) := by decide +kernel
theorem dM_save_45 : decode cM_save 45 = .ok (.if_icmp .ge 21, 3) := by decide +kernel
theorem dM_save_48 : decode cM_save 48 = .ok (.aload_n 0, 1) := by decide +kernel
theorem dM_save_49 : decode cM_save 49 = .ok (.getfield 71, 3) := by decide +kernel
theorem dM_save_52 : decode cM_save 52 = .ok (.iload_n 1, 1) := by decide +kernel
theorem dM_save_53 : decode cM_save 53 = .ok (.aload_n 0, 1) := by decide +kernel
theorem dM_save_54 : decode cM_save 54 = .ok (.getfield 32, 3) := by decide +kernel
theorem dM_save_57 : decode cM_save 57 = .ok (.iload_n 1, 1) := by decide +kernel
theorem dM_save_58 : decode cM_save 58 = .ok (.iaload, 1) := by decide +kernel
theorem dM_save_59 : decode cM_save 59 = .ok (.iastore, 1) := by decide +kernel
theorem dM_save_60 : decode cM_save 60 = .ok (.iinc 1 1, 3) := by decide +kernel
theorem dM_save_63 : decode cM_save 63 = .ok (.goto (-22), 3) := by decide +kernel
theorem dM_save_66 : decode cM_save 66 = .ok (.iconst 0, 1) := by decide +kernel
theorem dM_save_67 : decode cM_save 67 = .ok (.istore_n 1, 1) := by decide +kernel
theorem dM_save_68 : decode cM_save 68 = .ok (.iload_n 1, 1) := by decide +kernel
theorem dM_save_69 : decode cM_save 69 = .ok (.bipush 6, 2) := by decide +kernel
theorem dM_save_71 : decode cM_save 71 = .ok (.if_icmp .ge 164, 3) := by decide +kernel
theorem dM_save_74 : decode cM_save 74 = .ok (.aload_n 0, 1) := by decide +kernel
theorem dM_save_75 : decode cM_save 75 = .ok (.getfield 74, 3) := by decide +kernel
theorem dM_save_78 : decode cM_save 78 = .ok (.iload_n 1, 1) := by decide +kernel
theorem dM_save_79 : decode cM_save 79 = .ok (.aload_n 0, 1) := by decide +kernel
theorem dM_save_80 : decode cM_save 80 = .ok (.getfield 35, 3) := by decide +kernel
theorem dM_save_83 : decode cM_save 83 = .ok (.iload_n 1, 1) := by decide +kernel
theorem dM_save_84 : decode cM_save 84 = .ok (.iaload, 1) := by decide +kernel
theorem dM_save_85 : decode cM_save 85 = .ok (.iastore, 1) := by decide +kernel
theorem dM_save_86 : decode cM_save 86 = .ok (.aload_n 0, 1) := by decide +kernel
theorem dM_save_87 : decode cM_save 87 = .ok (.getfield 74, 3) := by decide +kernel
theorem dM_save_90 : decode cM_save 90 = .ok (.bipush 6, 2) := by decide +kernel
theorem dM_save_92 : decode cM_save 92 = .ok (.iload_n 1, 1) := by decide +kernel
theorem dM_save_93 : decode cM_save 93 = .ok (.iadd, 1) := by decide +kernel
theorem dM_save_94 : decode cM_save 94 = .ok (.aload_n 0, 1) := by decide +kernel
theorem dM_save_95 : decode cM_save 95 = .ok (.getfield 38, 3) := by decide +kernel
theorem dM_save_98 : decode cM_save 98 = .ok (.iload_n 1, 1) := by decide +kernel
theorem dM_save_99 : decode cM_save 99 = .ok (.iaload, 1) := by decide +kernel
theorem dM_save_100 : decode cM_save 100 = .ok (.iastore, 1) := by decide +kernel
theorem dM_save_101 : decode cM_save 101 = .ok (.aload_n 0, 1) := by decide +kernel
theorem dM_save_102 : decode cM_save 102 = .ok (.getfield 74, 3) := by decide +kernel
theorem dM_save_105 : decode cM_save 105 = .ok (.bipush 12, 2) := by decide +kernel
theorem dM_save_107 : decode cM_save 107 = .ok (.iload_n 1, 1) := by decide +kernel
theorem dM_save_108 : decode cM_save 108 = .ok (.iadd, 1) := by decide +kernel
theorem dM_save_109 : decode cM_save 109 = .ok (.aload_n 0, 1) := by decide +kernel
theorem dM_save_110 : decode cM_save 110 = .ok (.getfield 41, 3) := by decide +kernel
theorem dM_save_113 : decode cM_save 113 = .ok (.iload_n 1, 1) := by decide +kernel
theorem dM_save_114 : decode cM_save 114 = .ok (.iaload, 1) := by decide +kernel
theorem dM_save_115 : decode cM_save 115 = .ok (.iastore, 1) := by decide +kernel
theorem dM_save_116 : decode cM_save 116 = .ok (.aload_n 0, 1) := by decide +kernel
theorem dM_save_117 : decode cM_save 117 = .ok (.getfield 74, 3) := by decide +kernel
theorem dM_save_120 : decode cM_save 120 = .ok (.bipush 18, 2) := by decide +kernel
theorem dM_save_122 : decode cM_save 122 = .ok (.iload_n 1, 1) := by decide +kernel
theorem dM_save_123 : decode cM_save 123 = .ok (.iadd, 1) := by decide +kernel
theorem dM_save_124 : decode cM_save 124 = .ok (.aload_n 0, 1) := by decide +kernel
theorem dM_save_125 : decode cM_save 125 = .ok (.getfield 44, 3) := by decide +kernel
theorem dM_save_128 : decode cM_save 128 = .ok (.iload_n 1, 1) := by decide +kernel
theorem dM_save_129 : decode cM_save 129 = .ok (.iaload, 1) := by decide +kernel
theorem dM_save_130 : decode cM_save 130 = .ok (.iastore, 1) := by decide +kernel
theorem dM_save_131 : decode cM_save 131 = .ok (.aload_n 0, 1) := by decide +kernel
theorem dM_save_132 : decode cM_save 132 = .ok (.getfield 74, 3) := by decide +kernel
theorem dM_save_135 : decode cM_save 135 = .ok (.bipush 24, 2) := by decide +kernel
theorem dM_save_137 : decode cM_save 137 = .ok (.iload_n 1, 1) := by decide +kernel
theorem dM_save_138 : decode cM_save 138 = .ok (.iadd, 1) := by decide +kernel
theorem dM_save_139 : decode cM_save 139 = .ok (.aload_n 0, 1) := by decide +kernel
theorem dM_save_140 : decode cM_save 140 = .ok (.getfield 47, 3) := by decide +kernel
theorem dM_save_143 : decode cM_save 143 = .ok (.iload_n 1, 1) := by decide +kernel
theorem dM_save_144 : decode cM_save 144 = .ok (.iaload, 1) := by decide +kernel
theorem dM_save_145 : decode cM_save 145 = .ok (.iastore, 1) := by decide +kernel
theorem dM_save_146 : decode cM_save 146 = .ok (.aload_n 0, 1) := by decide +kernel
theorem dM_save_147 : decode cM_save 147 = .ok (.getfield 74, 3) := by decide +kernel
theorem dM_save_150 : decode cM_save 150 = .ok (.bipush 30, 2) := by decide +kernel
theorem dM_save_152 : decode cM_save 152 = .ok (.iload_n 1, 1) := by decide +kernel
theorem dM_save_153 : decode cM_save 153 = .ok (.iadd, 1) := by decide +kernel
theorem dM_save_154 : decode cM_save 154 = .ok (.aload_n 0, 1) := by decide +kernel
theorem dM_save_155 : decode cM_save 155 = .ok (.getfield 56, 3) := by decide +kernel
theorem dM_save_158 : decode cM_save 158 = .ok (.iload_n 1, 1) := by decide +kernel
theorem dM_save_159 : decode cM_save 159 = .ok (.iaload, 1) := by decide +kernel
theorem dM_save_160 : decode cM_save 160 = .ok (.bipush 8, 2) := by decide +kernel
theorem dM_save_162 : decode cM_save 162 = .ok (.aload_n 0, 1) := by decide +kernel
theorem dM_save_163 : decode cM_save 163 = .ok (.getfield 59, 3) := by decide +kernel
theorem dM_save_166 : decode cM_save 166 = .ok (.iload_n 1, 1) := by decide +kernel
theorem dM_save_167 : decode cM_save 167 = .ok (.iaload, 1) := by decide +kernel
theorem dM_save_168 : decode cM_save 168 = .ok (.imul, 1) := by decide +kernel
theorem dM_save_169 : decode cM_save 169 = .ok (.iadd, 1) := by decide +kernel
theorem dM_save_170 : decode cM_save 170 = .ok (.aload_n 0, 1) := by decide +kernel
theorem dM_save_171 : decode cM_save 171 = .ok (.getfield 50, 3) := by decide +kernel
theorem dM_save_174 : decode cM_save 174 = .ok (.iload_n 1, 1) := by decide +kernel
theorem dM_save_175 : decode cM_save 175 = .ok (.baload, 1) := by decide +kernel
theorem dM_save_176 : decode cM_save 176 = .ok (.ifCond .eq 8, 3) := by decide +kernel
theorem dM_save_179 : decode cM_save 179 = .ok (.bipush 64, 2) := by decide +kernel
theorem dM_save_181 : decode cM_save 181 = .ok (.goto 4, 3) := by decide +kernel
theorem dM_save_184 : decode cM_save 184 = .ok (.iconst 0, 1) := by decide +kernel
theorem dM_save_185 : decode cM_save 185 = .ok (.iadd, 1) := by decide +kernel
theorem dM_save_186 : decode cM_save 186 = .ok (.iastore, 1) := by decide +kernel
theorem dM_save_187 : decode cM_save 187 = .ok (.aload_n 0, 1) := by decide +kernel
theorem dM_save_188 : decode cM_save 188 = .ok (.getfield 77, 3) := by decide +kernel
theorem dM_save_191 : decode cM_save 191 = .ok (.iload_n 1, 1) := by decide +kernel
theorem dM_save_192 : decode cM_save 192 = .ok (.aload_n 0, 1) := by decide +kernel
theorem dM_save_193 : decode cM_save 193 = .ok (.getfield 17, 3) := by decide +kernel
theorem dM_save_196 : decode cM_save 196 = .ok (.iload_n 1, 1) := by decide +kernel
theorem dM_save_197 : decode cM_save 197 = .ok (.iaload, 1) := by decide +kernel
theorem dM_save_198 : decode cM_save 198 = .ok (.iastore, 1) := by decide +kernel
theorem dM_save_199 : decode cM_save 199 = .ok (.aload_n 0, 1) := by decide +kernel
theorem dM_save_200 : decode cM_save 200 = .ok (.getfield 77, 3) := by decide +kernel
theorem dM_save_203 : decode cM_save 203 = .ok (.bipush 6, 2) := by decide +kernel
theorem dM_save_205 : decode cM_save 205 = .ok (.iload_n 1, 1) := by decide +kernel
theorem dM_save_206 : decode cM_save 206 = .ok (.iadd, 1) := by decide +kernel
theorem dM_save_207 : decode cM_save 207 = .ok (.aload_n 0, 1) := by decide +kernel
theorem dM_save_208 : decode cM_save 208 = .ok (.getfield 20, 3) := by decide +kernel
theorem dM_save_211 : decode cM_save 211 = .ok (.iload_n 1, 1) := by decide +kernel
theorem dM_save_212 : decode cM_save 212 = .ok (.iaload, 1) := by decide +kernel
theorem dM_save_213 : decode cM_save 213 = .ok (.iastore, 1) := by decide +kernel
theorem dM_save_214 : decode cM_save 214 = .ok (.aload_n 0, 1) := by decide +kernel
theorem dM_save_215 : decode cM_save 215 = .ok (.getfield 77, 3) := by decide +kernel
theorem dM_save_218 : decode cM_save 218 = .ok (.bipush 12, 2) := by decide +kernel
theorem dM_save_220 : decode cM_save 220 = .ok (.iload_n 1, 1) := by decide +kernel
theorem dM_save_221 : decode cM_save 221 = .ok (.iadd, 1) := by decide +kernel
theorem dM_save_222 : decode cM_save 222 = .ok (.aload_n 0, 1) := by decide +kernel
theorem dM_save_223 : decode cM_save 223 = .ok (.getfield 23, 3) := by decide +kernel
theorem dM_save_226 : decode cM_save 226 = .ok (.iload_n 1, 1) := by decide +kernel
theorem dM_save_227 : decode cM_save 227 = .ok (.iaload, 1) := by decide +kernel
theorem dM_save_228 : decode cM_save 228 = .ok (.iastore, 1) := by decide +kernel
theorem dM_save_229 : decode cM_save 229 = .ok (.iinc 1 1, 3) := by decide +kernel
theorem dM_save_232 : decode cM_save 232 = .ok (.goto (-164), 3) := by decide +kernel
theorem dM_save_235 : decode cM_save 235 = .ok (.iconst 0, 1) := by decide +kernel
theorem dM_save_236 : decode cM_save 236 = .ok (.istore_n 1, 1) := by decide +kernel
theorem dM_save_237 : decode cM_save 237 = .ok (.iload_n 1, 1) := by decide +kernel
theorem dM_save_238 : decode cM_save 238 = .ok (.bipush 36, 2) := by decide +kernel
theorem dM_save_240 : decode cM_save 240 = .ok (.if_icmp .ge 24, 3) := by decide +kernel
theorem dM_save_243 : decode cM_save 243 = .ok (.aload_n 0, 1) := by decide +kernel
theorem dM_save_244 : decode cM_save 244 = .ok (.getfield 74, 3) := by decide +kernel
theorem dM_save_247 : decode cM_save 247 = .ok (.bipush 36, 2) := by decide +kernel
theorem dM_save_249 : decode cM_save 249 = .ok (.iload_n 1, 1) := by decide +kernel
theorem dM_save_250 : decode cM_save 250 = .ok (.iadd, 1) := by decide +kernel
theorem dM_save_251 : decode cM_save 251 = .ok (.aload_n 0, 1) := by decide +kernel
theorem dM_save_252 : decode cM_save 252 = .ok (.getfield 53, 3) := by decide +kernel
theorem dM_save_255 : decode cM_save 255 = .ok (.iload_n 1, 1) := by decide +kernel
theorem dM_save_256 : decode cM_save 256 = .ok (.iaload, 1) := by decide +kernel
theorem dM_save_257 : decode cM_save 257 = .ok (.iastore, 1) := by decide +kernel
theorem dM_save_258 : decode cM_save 258 = .ok (.iinc 1 1, 3) := by decide +kernel
theorem dM_save_261 : decode cM_save 261 = .ok (.goto (-24), 3) := by decide +kernel
theorem dM_save_264 : decode cM_save 264 = .ok (.aload_n 0, 1) := by decide +kernel
theorem dM_save_265 : decode cM_save 265 = .ok (.getfield 80, 3) := by decide +kernel
theorem dM_save_268 : decode cM_save 268 = .ok (.iconst 0, 1) := by decide +kernel
theorem dM_save_269 : decode cM_save 269 = .ok (.aload_n 0, 1) := by decide +kernel
theorem dM_save_270 : decode cM_save 270 = .ok (.getfield 185, 3) := by decide +kernel
theorem dM_save_273 : decode cM_save 273 = .ok (.iastore, 1) := by decide +kernel
theorem dM_save_274 : decode cM_save 274 = .ok (.aload_n 0, 1) := by decide +kernel
theorem dM_save_275 : decode cM_save 275 = .ok (.getfield 80, 3) := by decide +kernel
theorem dM_save_278 : decode cM_save 278 = .ok (.iconst 1, 1) := by decide +kernel
theorem dM_save_279 : decode cM_save 279 = .ok (.aload_n 0, 1) := by decide +kernel
theorem dM_save_280 : decode cM_save 280 = .ok (.getfield 141, 3) := by decide +kernel
theorem dM_save_283 : decode cM_save 283 = .ok (.iastore, 1) := by decide +kernel
theorem dM_save_284 : decode cM_save 284 = .ok (.aload_n 0, 1) := by decide +kernel
theorem dM_save_285 : decode cM_save 285 = .ok (.getfield 80, 3) := by decide +kernel
theorem dM_save_288 : decode cM_save 288 = .ok (.iconst 2, 1) := by decide +kernel
theorem dM_save_289 : decode cM_save 289 = .ok (.aload_n 0, 1) := by decide +kernel
theorem dM_save_290 : decode cM_save 290 = .ok (.getfield 188, 3) := by decide +kernel
theorem dM_save_293 : decode cM_save 293 = .ok (.iastore, 1) := by decide +kernel
theorem dM_save_294 : decode cM_save 294 = .ok (.aload_n 0, 1) := by decide +kernel
theorem dM_save_295 : decode cM_save 295 = .ok (.getfield 80, 3) := by decide +kernel
theorem dM_save_298 : decode cM_save 298 = .ok (.iconst 3, 1) := by decide +kernel
theorem dM_save_299 : decode cM_save 299 = .ok (.aload_n 0, 1) := by decide +kernel
theorem dM_save_300 : decode cM_save 300 = .ok (.getfield 164, 3) := by decide +kernel
theorem dM_save_303 : decode cM_save 303 = .ok (.iastore, 1) := by decide +kernel
theorem dM_save_304 : decode cM_save 304 = .ok (.aload_n 0, 1) := by decide +kernel
theorem dM_save_305 : decode cM_save 305 = .ok (.getfield 80, 3) := by decide +kernel
theorem dM_save_308 : decode cM_save 308 = .ok (.iconst 4, 1) := by decide +kernel
theorem dM_save_309 : decode cM_save 309 = .ok (.aload_n 0, 1) := by decide +kernel
theorem dM_save_310 : decode cM_save 310 = .ok (.getfield 182, 3) := by decide +kernel
theorem dM_save_313 : decode cM_save 313 = .ok (.iastore, 1) := by decide +kernel
theorem dM_save_314 : decode cM_save 314 = .ok (.return_, 1) := by decide +kernel
theorem dM_restore_0 : decode cM_restore 0 = .ok (.iconst 0, 1) := by decide +kernel
theorem dM_restore_1 : decode cM_restore 1 = .ok (.istore_n 1, 1) := by decide +kernel
theorem dM_restore_2 : decode cM_restore 2 = .ok (.iload_n 1, 1) := by decide +kernel
theorem dM_restore_3 : decode cM_restore 3 = .ok (.sipush 288, 3) := by decide +kernel
theorem dM_restore_6 : decode cM_restore 6 = .ok (.if_icmp .ge 33, 3) := by decide +kernel
theorem dM_restore_9 : decode cM_restore 9 = .ok (.aload_n 0, 1) := by decide +kernel
theorem dM_restore_10 : decode cM_restore 10 = .ok (.getfield 7, 3) := by decide +kernel
theorem dM_restore_13 : decode cM_restore 13 = .ok (.iload_n 1, 1) := by decide +kernel
theorem dM_restore_14 : decode cM_restore 14 = .ok (.aload_n 0, 1) := by decide +kernel
theorem dM_restore_15 : decode cM_restore 15 = .ok (.getfield 65, 3) := by decide +kernel
theorem dM_restore_18 : decode cM_restore 18 = .ok (.iload_n 1, 1) := by decide +kernel
theorem dM_restore_19 : decode cM_restore 19 = .ok (.baload, 1) := by decide +kernel
theorem dM_restore_20 : decode cM_restore 20 = .ok (.bastore, 1) := by decide +kernel
theorem dM_restore_21 : decode cM_restore 21 = .ok (.aload_n 0, 1) := by decide +kernel
theorem dM_restore_22 : decode cM_restore 22 = .ok (.getfield 13, 3) := by decide +kernel
theorem dM_restore_25 : decode cM_restore 25 = .ok (.iload_n 1, 1) := by decide +kernel
theorem dM_restore_26 : decode cM_restore 26 = .ok (.aload_n 0, 1) := by decide +kernel
theorem dM_restore_27 : decode cM_restore 27 = .ok (.getfield 68, 3) := by decide +kernel
theorem dM_restore_30 : decode cM_restore 30 = .ok (.iload_n 1, 1) := by decide +kernel
theorem dM_restore_31 : decode cM_restore 31 = .ok (.iaload, 1) := by decide +kernel
theorem dM_restore_32 : decode cM_restore 32 = .ok (.iastore, 1) := by decide +kernel
theorem dM_restore_33 : decode cM_restore 33 = .ok (.iinc 1 1, 3) := by decide +kernel
theorem dM_restore_36 : decode cM_restore 36 = .ok (.goto (-34), 3) := by decide +kernel
theorem dM_restore_39 : decode cM_restore 39 = .ok (.iconst 0, 1) := by decide +kernel
theorem dM_restore_40 : decode cM_restore 40 = .ok (.istore_n 1, 1) := by decide +kernel
theorem dM_restore_41 : decode cM_restore 41 = .ok (.iload_n 1, 1) := by decide +kernel
theorem dM_restore_42 : decode cM_restore 42 = .ok (.sipush 1800, 3) := by decide +kernel
theorem dM_restore_45 : decode cM_restore 45 = .ok (.if_icmp .ge 21, 3) := by decide +kernel
theorem dM_restore_48 : decode cM_restore 48 = .ok (.aload_n 0, 1) := by decide +kernel
theorem dM_restore_49 : decode cM_restore 49 = .ok (.getfield 32, 3) := by decide +kernel
theorem dM_restore_52 : decode cM_restore 52 = .ok (.iload_n 1, 1) := by decide +kernel
theorem dM_restore_53 : decode cM_restore 53 = .ok (.aload_n 0, 1) := by decide +kernel
theorem dM_restore_54 : decode cM_restore 54 = .ok (.getfield 71, 3) := by decide +kernel
theorem dM_restore_57 : decode cM_restore 57 = .ok (.iload_n 1, 1) := by decide +kernel
theorem dM_restore_58 : decode cM_restore 58 = .ok (.iaload, 1) := by decide +kernel
theorem dM_restore_59 : decode cM_restore 59 = .ok (.iastore, 1) := by decide +kernel
theorem dM_restore_60 : decode cM_restore 60 = .ok (.iinc 1 1, 3) := by decide +kernel
theorem dM_restore_63 : decode cM_restore 63 = .ok (.goto (-22), 3) := by decide +kernel
theorem dM_restore_66 : decode cM_restore 66 = .ok (.iconst 0, 1) := by decide +kernel
theorem dM_restore_67 : decode cM_restore 67 = .ok (.istore_n 1, 1) := by decide +kernel
theorem dM_restore_68 : decode cM_restore 68 = .ok (.iload_n 1, 1) := by decide +kernel
theorem dM_restore_69 : decode cM_restore 69 = .ok (.bipush 6, 2) := by decide +kernel
theorem dM_restore_71 : decode cM_restore 71 = .ok (.if_icmp .ge 187, 3) := by decide +kernel
theorem dM_restore_74 : decode cM_restore 74 = .ok (.aload_n 0, 1) := by decide +kernel
theorem dM_restore_75 : decode cM_restore 75 = .ok (.getfield 35, 3) := by decide +kernel
theorem dM_restore_78 : decode cM_restore 78 = .ok (.iload_n 1, 1) := by decide +kernel
theorem dM_restore_79 : decode cM_restore 79 = .ok (.aload_n 0, 1) := by decide +kernel
theorem dM_restore_80 : decode cM_restore 80 = .ok (.getfield 74, 3) := by decide +kernel
theorem dM_restore_83 : decode cM_restore 83 = .ok (.iload_n 1, 1) := by decide +kernel
theorem dM_restore_84 : decode cM_restore 84 = .ok (.iaload, 1) := by decide +kernel
theorem dM_restore_85 : decode cM_restore 85 = .ok (.iastore, 1) := by decide +kernel
theorem dM_restore_86 : decode cM_restore 86 = .ok (.aload_n 0, 1) := by decide +kernel
theorem dM_restore_87 : decode cM_restore 87 = .ok (.getfield 38, 3) := by decide +kernel
theorem dM_restore_90 : decode cM_restore 90 = .ok (.iload_n 1, 1) := by decide +kernel
theorem dM_restore_91 : decode cM_restore 91 = .ok (.aload_n 0, 1) := by decide +kernel
theorem dM_restore_92 : decode cM_restore 92 = .ok (.getfield 74, 3) := by decide +kernel
theorem dM_restore_95 : decode cM_restore 95 = .ok (.bipush 6, 2) := by decide +kernel
theorem dM_restore_97 : decode cM_restore 97 = .ok (.iload_n 1, 1) := by decide +kernel
theorem dM_restore_98 : decode cM_restore 98 = .ok (.iadd, 1) := by decide +kernel
theorem dM_restore_99 : decode cM_restore 99 = .ok (.iaload, 1) := by decide +kernel
theorem dM_restore_100 : decode cM_restore 100 = .ok (.iastore, 1) := by decide +kernel
theorem dM_restore_101 : decode cM_restore 101 = .ok (.aload_n 0, 1) := by decide +kernel
theorem dM_restore_102 : decode cM_restore 102 = .ok (.getfield 41, 3) := by decide +kernel
theorem dM_restore_105 : decode cM_restore 105 = .ok (.iload_n 1, 1) := by decide +kernel
theorem dM_restore_106 : decode cM_restore 106 = .ok (.aload_n 0, 1) := by decide +kernel
theorem dM_restore_107 : decode cM_restore 107 = .ok (.getfield 74, 3) := by decide +kernel
theorem dM_restore_110 : decode cM_restore 110 = .ok (.bipush 12, 2) := by decide +kernel
theorem dM_restore_112 : decode cM_restore 112 = .ok (.iload_n 1, 1) := by decide +kernel
theorem dM_restore_113 : decode cM_restore 113 = .ok (.iadd, 1) := by decide +kernel
theorem dM_restore_114 : decode cM_restore 114 = .ok (.iaload, 1) := by decide +kernel
theorem dM_restore_115 : decode cM_restore 115 = .ok (.iastore, 1) := by decide +kernel
theorem dM_restore_116 : decode cM_restore 116 = .ok (.aload_n 0, 1) := by decide +kernel
theorem dM_restore_117 : decode cM_restore 117 = .ok (.getfield 44, 3) := by decide +kernel
theorem dM_restore_120 : decode cM_restore 120 = .ok (.iload_n 1, 1) := by decide +kernel
theorem dM_restore_121 : decode cM_restore 121 = .ok (.aload_n 0, 1) := by decide +kernel
theorem dM_restore_122 : decode cM_restore 122 = .ok (.getfield 74, 3) := by decide +kernel
theorem dM_restore_125 : decode cM_restore 125 = .ok (.bipush 18, 2) := by decide +kernel
theorem dM_restore_127 : decode cM_restore 127 = .ok (.iload_n 1, 1) := by decide +kernel
theorem dM_restore_128 : decode cM_restore 128 = .ok (.iadd, 1) := by decide +kernel
theorem dM_restore_129 : decode cM_restore 129 = .ok (.iaload, 1) := by decide +kernel
theorem dM_restore_130 : decode cM_restore 130 = .ok (.iastore, 1) := by decide +kernel
theorem dM_restore_131 : decode cM_restore 131 = .ok (.aload_n 0, 1) := by decide +kernel
theorem dM_restore_132 : decode cM_restore 132 = .ok (.getfield 47, 3) := by decide +kernel
theorem dM_restore_135 : decode cM_restore 135 = .ok (.iload_n 1, 1) := by decide +kernel
theorem dM_restore_136 : decode cM_restore 136 = .ok (.aload_n 0, 1) := by decide +kernel
theorem dM_restore_137 : decode cM_restore 137 = .ok (.getfield 74, 3) := by decide +kernel
theorem dM_restore_140 : decode cM_restore 140 = .ok (.bipush 24, 2) := by decide +kernel
theorem dM_restore_142 : decode cM_restore 142 = .ok (.iload_n 1, 1) := by decide +kernel
theorem dM_restore_143 : decode cM_restore 143 = .ok (.iadd, 1) := by decide +kernel
theorem dM_restore_144 : decode cM_restore 144 = .ok (.iaload, 1) := by decide +kernel
theorem dM_restore_145 : decode cM_restore 145 = .ok (.iastore, 1) := by decide +kernel
theorem dM_restore_146 : decode cM_restore 146 = .ok (.aload_n 0, 1) := by decide +kernel
theorem dM_restore_147 : decode cM_restore 147 = .ok (.getfield 56, 3) := by decide +kernel
theorem dM_restore_150 : decode cM_restore 150 = .ok (.iload_n 1, 1) := by decide +kernel
theorem dM_restore_151 : decode cM_restore 151 = .ok (.aload_n 0, 1) := by decide +kernel
theorem dM_restore_152 : decode cM_restore 152 = .ok (.getfield 74, 3) := by decide +kernel
theorem dM_restore_155 : decode cM_restore 155 = .ok (.bipush 30, 2) := by decide +kernel
theorem dM_restore_157 : decode cM_restore 157 = .ok (.iload_n 1, 1) := by decide +kernel
theorem dM_restore_158 : decode cM_restore 158 = .ok (.iadd, 1) := by decide +kernel
theorem dM_restore_159 : decode cM_restore 159 = .ok (.iaload, 1) := by decide +kernel
theorem dM_restore_160 : decode cM_restore 160 = .ok (.bipush 8, 2) := by decide +kernel
theorem dM_restore_162 : decode cM_restore 162 = .ok (.irem, 1) := by decide +kernel
theorem dM_restore_163 : decode cM_restore 163 = .ok (.iastore, 1) := by decide +kernel
theorem dM_restore_164 : decode cM_restore 164 = .ok (.aload_n 0, 1) := by decide +kernel
theorem dM_restore_165 : decode cM_restore 165 = .ok (.getfield 59, 3) := by decide +kernel
theorem dM_restore_168 : decode cM_restore 168 = .ok (.iload_n 1, 1) := by decide +kernel
theorem dM_restore_169 : decode cM_restore 169 = .ok (.aload_n 0, 1) := by decide +kernel
theorem dM_restore_170 : decode cM_restore 170 = .ok (.getfield 74, 3) := by decide +kernel
theorem dM_restore_173 : decode cM_restore 173 = .ok (.bipush 30, 2) := by decide +kernel
theorem dM_restore_175 : decode cM_restore 175 = .ok (.iload_n 1, 1) := by decide +kernel
theorem dM_restore_176 : decode cM_restore 176 = .ok (.iadd, 1) := by decide +kernel
theorem dM_restore_177 : decode cM_restore 177 = .ok (.iaload, 1) := by decide +kernel
theorem dM_restore_178 : decode cM_restore 178 = .ok (.bipush 8, 2) := by decide +kernel
theorem dM_restore_180 : decode cM_restore 180 = .ok (.idiv, 1) := by decide +kernel
theorem dM_restore_181 : decode cM_restore 181 = .ok (.bipush 8, 2) := by decide +kernel
theorem dM_restore_183 : decode cM_restore 183 = .ok (.irem, 1) := by decide +kernel
theorem dM_restore_184 : decode cM_restore 184 = .ok (.iastore, 1) := by decide +kernel
theorem dM_restore_185 : decode cM_restore 185 = .ok (.aload_n 0, 1) := by decide +kernel
theorem dM_restore_186 : decode cM_restore 186 = .ok (.getfield 50, 3) := by decide +kernel
theorem dM_restore_189 : decode cM_restore 189 = .ok (.iload_n 1, 1) := by decide +kernel
theorem dM_restore_190 : decode cM_restore 190 = .ok (.aload_n 0, 1) := by decide +kernel
theorem dM_restore_191 : decode cM_restore 191 = .ok (.getfield 74, 3) := by decide +kernel
theorem dM_restore_194 : decode cM_restore 194 = .ok (.bipush 30, 2) := by decide +kernel
theorem dM_restore_196 : decode cM_restore 196 = .ok (.iload_n 1, 1) := by decide +kernel
theorem dM_restore_197 : decode cM_restore 197 = .ok (.iadd, 1) := by decide +kernel
theorem dM_restore_198 : decode cM_restore 198 = .ok (.iaload, 1) := by decide +kernel
theorem dM_restore_199 : decode cM_restore 199 = .ok (.bipush 64, 2) := by decide +kernel
theorem dM_restore_201 : decode cM_restore 201 = .ok (.if_icmp .lt 7, 3) := by decide +kernel
theorem dM_restore_204 : decode cM_restore 204 = .ok (.iconst 1, 1) := by decide +kernel
theorem dM_restore_205 : decode cM_restore 205 = .ok (.goto 4, 3) := by decide +kernel
theorem dM_restore_208 : decode cM_restore 208 = .ok (.iconst 0, 1) := by decide +kernel
theorem dM_restore_209 : decode cM_restore 209 = .ok (.bastore, 1) := by decide +kernel
theorem dM_restore_210 : decode cM_restore 210 = .ok (.aload_n 0, 1) := by decide +kernel
theorem dM_restore_211 : decode cM_restore 211 = .ok (.getfield 17, 3) := by decide +kernel
theorem dM_restore_214 : decode cM_restore 214 = .ok (.iload_n 1, 1) := by decide +kernel
theorem dM_restore_215 : decode cM_restore 215 = .ok (.aload_n 0, 1) := by decide +kernel
theorem dM_restore_216 : decode cM_restore 216 = .ok (.getfield 77, 3) := by decide +kernel
theorem dM_restore_219 : decode cM_restore 219 = .ok (.iload_n 1, 1) := by decide +kernel
theorem dM_restore_220 : decode cM_restore 220 = .ok (.iaload, 1) := by decide +kernel
theorem dM_restore_221 : decode cM_restore 221 = .ok (.iastore, 1) := by decide +kernel
theorem dM_restore_222 : decode cM_restore 222 = .ok (.aload_n 0, 1) := by decide +kernel
theorem dM_restore_223 : decode cM_restore 223 = .ok (.getfield 20, 3) := by decide +kernel
theorem dM_restore_226 : decode cM_restore 226 = .ok (.iload_n 1, 1) := by decide +kernel
theorem dM_restore_227 : decode cM_restore 227 = .ok (.aload_n 0, 1) := by decide +kernel
theorem dM_restore_228 : decode cM_restore 228 = .ok (.getfield 77, 3) := by decide +kernel
theorem dM_restore_231 : decode cM_restore 231 = .ok (.bipush 6, 2) := by decide +kernel
theorem dM_restore_233 : decode cM_restore 233 = .ok (.iload_n 1, 1) := by decide +kernel
theorem dM_restore_234 : decode cM_restore 234 = .ok (.iadd, 1) := by decide +kernel
theorem dM_restore_235 : decode cM_restore 235 = .ok (.iaload, 1) := by decide +kernel
theorem dM_restore_236 : decode cM_restore 236 = .ok (.iastore, 1) := by decide +kernel
theorem dM_restore_237 : decode cM_restore 237 = .ok (.aload_n 0, 1) := by decide +kernel
theorem dM_restore_238 : decode cM_restore 238 = .ok (.getfield 23, 3) := by decide +kernel
theorem dM_restore_241 : decode cM_restore 241 = .ok (.iload_n 1, 1) := by decide +kernel
theorem dM_restore_242 : decode cM_restore 242 = .ok (.aload_n 0, 1) := by decide +kernel
theorem dM_restore_243 : decode cM_restore 243 = .ok (.getfield 77, 3) := by decide +kernel
theorem dM_restore_246 : decode cM_restore 246 = .ok (.bipush 12, 2) := by decide +kernel
theorem dM_restore_248 : decode cM_restore 248 = .ok (.iload_n 1, 1) := by decide +kernel
theorem dM_restore_249 : decode cM_restore 249 = .ok (.iadd, 1) := by decide +kernel
theorem dM_restore_250 : decode cM_restore 250 = .ok (.iaload, 1) := by decide +kernel
theorem dM_restore_251 : decode cM_restore 251 = .ok (.iastore, 1) := by decide +kernel
theorem dM_restore_252 : decode cM_restore 252 = .ok (.iinc 1 1, 3) := by decide +kernel
theorem dM_restore_255 : decode cM_restore 255 = .ok (.goto (-187), 3) := by decide +kernel
theorem dM_restore_258 : decode cM_restore 258 = .ok (.iconst 0, 1) := by decide +kernel
theorem dM_restore_259 : decode cM_restore 259 = .ok (.istore_n 1, 1) := by decide +kernel
theorem dM_restore_260 : decode cM_restore 260 = .ok (.iload_n 1, 1) := by decide +kernel
theorem dM_restore_261 : decode cM_restore 261 = .ok (.bipush 36, 2) := by decide +kernel
theorem dM_restore_263 : decode cM_restore 263 = .ok (.if_icmp .ge 24, 3) := by decide +kernel
theorem dM_restore_266 : decode cM_restore 266 = .ok (.aload_n 0, 1) := by decide +kernel
theorem dM_restore_267 : decode cM_restore 267 = .ok (.getfield 53, 3) := by decide +kernel
theorem dM_restore_270 : decode cM_restore 270 = .ok (.iload_n 1, 1) := by decide +kernel
theorem dM_restore_271 : decode cM_restore 271 = .ok (.aload_n 0, 1) := by decide +kernel
theorem dM_restore_272 : decode cM_restore 272 = .ok (.getfield 74, 3) := by decide +kernel
theorem dM_restore_275 : decode cM_restore 275 = .ok (.bipush 36, 2) := by decide +kernel
theorem dM_restore_277 : decode cM_restore 277 = .ok (.iload_n 1, 1) := by decide +kernel
theorem dM_restore_278 : decode cM_restore 278 = .ok (.iadd, 1) := by decide +kernel
theorem dM_restore_279 : decode cM_restore 279 = .ok (.iaload, 1) := by decide +kernel
theorem dM_restore_280 : decode cM_restore 280 = .ok (.iastore, 1) := by decide +kernel
theorem dM_restore_281 : decode cM_restore 281 = .ok (.iinc 1 1, 3) := by decide +kernel
theorem dM_restore_284 : decode cM_restore 284 = .ok (.goto (-24), 3) := by decide +kernel
theorem dM_restore_287 : decode cM_restore 287 = .ok (.aload_n 0, 1) := by decide +kernel
theorem dM_restore_288 : decode cM_restore 288 = .ok (.aload_n 0, 1) := by decide +kernel
theorem dM_restore_289 : decode cM_restore 289 = .ok (.getfield 80, 3) := by decide +kernel
theorem dM_restore_292 : decode cM_restore 292 = .ok (.iconst 0, 1) := by decide +kernel
theorem dM_restore_293 : decode cM_restore 293 = .ok (.iaload, 1) := by decide +kernel
theorem dM_restore_294 : decode cM_restore 294 = .ok (.putfield 185, 3) := by decide +kernel
theorem dM_restore_297 : decode cM_restore 297 = .ok (.aload_n 0, 1) := by decide +kernel
theorem dM_restore_298 : decode cM_restore 298 = .ok (.aload_n 0, 1) := by decide +kernel
theorem dM_restore_299 : decode cM_restore 299 = .ok (.getfield 80, 3) := by decide +kernel
theorem dM_restore_302 : decode cM_restore 302 = .ok (.iconst 1, 1) := by decide +kernel
theorem dM_restore_303 : decode cM_restore 303 = .ok (.iaload, 1) := by decide +kernel
theorem dM_restore_304 : decode cM_restore 304 = .ok (.putfield 141, 3) := by decide +kernel
theorem dM_restore_307 : decode cM_restore 307 = .ok (.aload_n 0, 1) := by decide +kernel
theorem dM_restore_308 : decode cM_restore 308 = .ok (.aload_n 0, 1) := by decide +kernel
theorem dM_restore_309 : decode cM_restore 309 = .ok (.getfield 80, 3) := by decide +kernel
theorem dM_restore_312 : decode cM_restore 312 = .ok (.iconst 2, 1) := by decide +kernel
theorem dM_restore_313 : decode cM_restore 313 = .ok (.iaload, 1) := by decide +kernel
theorem dM_restore_314 : decode cM_restore 314 = .ok (.putfield 188, 3) := by decide +kernel
theorem dM_restore_317 : decode cM_restore 317 = .ok (.aload_n 0, 1) := by decide +kernel
theorem dM_restore_318 : decode cM_restore 318 = .ok (.aload_n 0, 1) := by decide +kernel
theorem dM_restore_319 : decode cM_restore 319 = .ok (.getfield 80, 3) := by decide +kernel
theorem dM_restore_322 : decode cM_restore 322 = .ok (.iconst 3, 1) := by decide +kernel
theorem dM_restore_323 : decode cM_restore 323 = .ok (.iaload, 1) := by decide +kernel
theorem dM_restore_324 : decode cM_restore 324 = .ok (.putfield 164, 3) := by decide +kernel
theorem dM_restore_327 : decode cM_restore 327 = .ok (.aload_n 0, 1) := by decide +kernel
theorem dM_restore_328 : decode cM_restore 328 = .ok (.aload_n 0, 1) := by decide +kernel
theorem dM_restore_329 : decode cM_restore 329 = .ok (.getfield 80, 3) := by decide +kernel
theorem dM_restore_332 : decode cM_restore 332 = .ok (.iconst 4, 1) := by decide +kernel
theorem dM_restore_333 : decode cM_restore 333 = .ok (.iaload, 1) := by decide +kernel
theorem dM_restore_334 : decode cM_restore 334 = .ok (.putfield 182, 3) := by decide +kernel
theorem dM_restore_337 : decode cM_restore 337 = .ok (.aload_n 0, 1) := by decide +kernel
theorem dM_restore_338 : decode cM_restore 338 = .ok (.invokevirtual 200, 3) := by decide +kernel
theorem dM_restore_341 : decode cM_restore 341 = .ok (.return_, 1) := by decide +kernel
theorem lfM_80 : Cond.fieldLink R_M 80 "RailYardModel" "keptNumbers" "[I" ∈ bigW := bw 663 (by decide +kernel) rfl
theorem lfM_74 : Cond.fieldLink R_M 74 "RailYardModel" "keptTrain" "[I" ∈ bigW := bw 661 (by decide +kernel) rfl
theorem lfM_77 : Cond.fieldLink R_M 77 "RailYardModel" "keptStation" "[I" ∈ bigW := bw 662 (by decide +kernel) rfl
theorem lfM_71 : Cond.fieldLink R_M 71 "RailYardModel" "keptRow" "[I" ∈ bigW := bw 660 (by decide +kernel) rfl
theorem lfM_65 : Cond.fieldLink R_M 65 "RailYardModel" "keptLaid" "[Z" ∈ bigW := bw 658 (by decide +kernel) rfl
theorem lfM_68 : Cond.fieldLink R_M 68 "RailYardModel" "keptMarks" "[I" ∈ bigW := bw 659 (by decide +kernel) rfl
theorem upw_ne {w : RW} {k k' : Nat} {i i' z : Int} (h : ¬ (k' = k ∧ i' = i)) : upw w k i z k' i' = w k' i' := by unfold upw; exact if_neg h
theorem upw_eq {w : RW} {k k' : Nat} {i i' z : Int} (h : k' = k) (h2 : i' = i) : upw w k i z k' i' = z := by unfold upw; exact if_pos ⟨h, h2⟩
def sfr (w u : RW) : Prop := ∀ j, j < 96 → u j = w j
def sA (w u : RW) (n : Int) : Prop := ∀ i, 0 ≤ i → i < n → u 96 i = w 78 i ∧ u 97 i = w 79 i
def sB (w u : RW) (n : Int) : Prop := ∀ i, 0 ≤ i → i < n → u 98 i = w 85 i
def sC (w u : RW) (n : Int) : Prop := ∀ t, 0 ≤ t → t < n → (u 99 t = w 86 t ∧ u 99 (6 + t) = w 87 t ∧ u 99 (12 + t) = w 88 t ∧ u 99 (18 + t) = w 89 t ∧ u 99 (24 + t) = w 90 t ∧ u 99 (30 + t) = w 93 t + 8 * w 94 t + (if w 91 t = 0 then 0 else 64)) ∧ u 100 t = w 80 t ∧ u 100 (6 + t) = w 81 t ∧ u 100 (12 + t) = w 82 t
def sD (w u : RW) (n : Int) : Prop := ∀ i, 0 ≤ i → i < n → u 99 (36 + i) = w 92 i
def svM (w u : RW) : Prop := sfr w u ∧ sA w u 288 ∧ sB w u 1800 ∧ sC w u 6 ∧ sD w u 36 ∧ u 101 0 = w 77 4 ∧ u 101 1 = w 77 10 ∧ u 101 2 = w 77 23 ∧ u 101 3 = w 77 24 ∧ u 101 4 = w 77 25
theorem lpM_save4 {G : vG} {X : vX} {Q : State → Prop} {w : RW}  (F : FX G X cM_save yM_save.cls 2 0) (hR : RetV G X cM_save 2 Q (fun u => svM w u)) : ∀ (m : Nat) (i : Int) (u : RW), 36 - i < m → (0 ≤ i) → (i ≤ 36) → (sfr w u ∧ sA w u 288 ∧ sB w u 1800 ∧ sC w u 6 ∧ sD w u i) → V G X 2 Q 237 [some (.inr 77), some (.inl i)] [] u := by
  intro m
  induction m with
  | zero => intro i u hm0 h1 h2 hI; omega
  | succ m ih =>
    intro i u hm0 h1 h2 hI
    have e77 := hI.1 77 (by decide)
    have e92 := hI.1 92 (by decide)
    refine V_iload_n (i := 1) F dM_save_237 rfl rfl ?_
    refine V_bipush F dM_save_238 (by decide) ?_
    refine V_icmp_ge F 264 dM_save_240 (by decide) (fun h240 => ?_) (fun h240 => ?_)
    · refine V_aload_n (i := 0) F dM_save_264 rfl rfl ?_
      refine V_getr (ci := 7) (C := R_M) (T := T_M) (N := 32) F dM_save_265 (by first | rfl | assumption) rfl (j := 31) (by decide) rfl lfM_80 ?_
      refine V_iconst F dM_save_268 (by decide) ?_
      refine V_aload_n (i := 0) F dM_save_269 rfl rfl ?_
      refine V_geti (ci := 7) (C := R_M) (T := T_M) (N := 32) F dM_save_270 (by first | rfl | assumption) rfl (j := 4) 4 rfl (by decide) rfl lfM_185 ?_
      rw [e77]
      refine V_iast F dM_save_273 (by first | rfl | assumption) rfl (by omega) ?_
      refine V_aload_n (i := 0) F dM_save_274 rfl rfl ?_
      refine V_getr (ci := 7) (C := R_M) (T := T_M) (N := 32) F dM_save_275 (by first | rfl | assumption) rfl (j := 31) (by decide) rfl lfM_80 ?_
      refine V_iconst F dM_save_278 (by decide) ?_
      refine V_aload_n (i := 0) F dM_save_279 rfl rfl ?_
      refine V_geti (ci := 7) (C := R_M) (T := T_M) (N := 32) F dM_save_280 (by first | rfl | assumption) rfl (j := 10) 10 rfl (by decide) rfl lfM_141 ?_
      try simp only [upw_s, upw_f (show (77 : Nat) ≠ 101 by decide)]
      rw [e77]
      refine V_iast F dM_save_283 (by first | rfl | assumption) rfl (by omega) ?_
      refine V_aload_n (i := 0) F dM_save_284 rfl rfl ?_
      refine V_getr (ci := 7) (C := R_M) (T := T_M) (N := 32) F dM_save_285 (by first | rfl | assumption) rfl (j := 31) (by decide) rfl lfM_80 ?_
      refine V_iconst F dM_save_288 (by decide) ?_
      refine V_aload_n (i := 0) F dM_save_289 rfl rfl ?_
      refine V_geti (ci := 7) (C := R_M) (T := T_M) (N := 32) F dM_save_290 (by first | rfl | assumption) rfl (j := 23) 23 rfl (by decide) rfl lfM_188 ?_
      try simp only [upw_s, upw_f (show (77 : Nat) ≠ 101 by decide)]
      rw [e77]
      refine V_iast F dM_save_293 (by first | rfl | assumption) rfl (by omega) ?_
      refine V_aload_n (i := 0) F dM_save_294 rfl rfl ?_
      refine V_getr (ci := 7) (C := R_M) (T := T_M) (N := 32) F dM_save_295 (by first | rfl | assumption) rfl (j := 31) (by decide) rfl lfM_80 ?_
      refine V_iconst F dM_save_298 (by decide) ?_
      refine V_aload_n (i := 0) F dM_save_299 rfl rfl ?_
      refine V_geti (ci := 7) (C := R_M) (T := T_M) (N := 32) F dM_save_300 (by first | rfl | assumption) rfl (j := 24) 24 rfl (by decide) rfl lfM_164 ?_
      try simp only [upw_s, upw_f (show (77 : Nat) ≠ 101 by decide)]
      rw [e77]
      refine V_iast F dM_save_303 (by first | rfl | assumption) rfl (by omega) ?_
      refine V_aload_n (i := 0) F dM_save_304 rfl rfl ?_
      refine V_getr (ci := 7) (C := R_M) (T := T_M) (N := 32) F dM_save_305 (by first | rfl | assumption) rfl (j := 31) (by decide) rfl lfM_80 ?_
      refine V_iconst F dM_save_308 (by decide) ?_
      refine V_aload_n (i := 0) F dM_save_309 rfl rfl ?_
      refine V_geti (ci := 7) (C := R_M) (T := T_M) (N := 32) F dM_save_310 (by first | rfl | assumption) rfl (j := 25) 25 rfl (by decide) rfl lfM_182 ?_
      try simp only [upw_s, upw_f (show (77 : Nat) ≠ 101 by decide)]
      rw [e77]
      refine V_iast F dM_save_313 (by first | rfl | assumption) rfl (by omega) ?_
      exact hR _ _ _ dM_save_314 (by
                    have hi : i = 36 := by omega
                    subst hi
                    refine ⟨(fun j hj => by rw [upw_f (by omega), upw_f (by omega), upw_f (by omega), upw_f (by omega), upw_f (by omega)]; exact hI.1 j hj), fun k k1 k2 => ?_, fun k k1 k2 => ?_, fun k k1 k2 => ?_, fun k k1 k2 => ?_, ?_, ?_, ?_, ?_, ?_⟩
                    · repeat rw [upw_f (by decide)]
                      exact hI.2.1 k k1 k2
                    · repeat rw [upw_f (by decide)]
                      exact hI.2.2.1 k k1 k2
                    · repeat rw [upw_f (by decide)]
                      exact hI.2.2.2.1 k k1 k2
                    · repeat rw [upw_f (by decide)]
                      exact hI.2.2.2.2 k k1 k2
                    · (repeat (first | rw [upw_ne (by omega)] | rw [upw_eq (by omega) (by omega)]))
                    · (repeat (first | rw [upw_ne (by omega)] | rw [upw_eq (by omega) (by omega)]))
                    · (repeat (first | rw [upw_ne (by omega)] | rw [upw_eq (by omega) (by omega)]))
                    · (repeat (first | rw [upw_ne (by omega)] | rw [upw_eq (by omega) (by omega)]))
                    · (repeat (first | rw [upw_ne (by omega)] | rw [upw_eq (by omega) (by omega)])))
    · refine V_aload_n (i := 0) F dM_save_243 rfl rfl ?_
      refine V_getr (ci := 7) (C := R_M) (T := T_M) (N := 32) F dM_save_244 (by first | rfl | assumption) rfl (j := 29) (by decide) rfl lfM_74 ?_
      refine V_bipush F dM_save_247 (by decide) ?_
      refine V_iload_n (i := 1) F dM_save_249 rfl rfl ?_
      refine V_iadd F dM_save_250 (by omega) ?_
      refine V_aload_n (i := 0) F dM_save_251 rfl rfl ?_
      refine V_getr (ci := 7) (C := R_M) (T := T_M) (N := 32) F dM_save_252 (by first | rfl | assumption) rfl (j := 18) (by decide) rfl lfM_53 ?_
      refine V_iload_n (i := 1) F dM_save_255 rfl rfl ?_
      first
        | refine V_sald F dM_save_256 (by decide) (by omega) (stt_in _ _) ?_
        | refine V_iald F dM_save_256 (by first | rfl | assumption) rfl (by omega) ?_
      rw [e92]
      refine V_iast F dM_save_257 (by first | rfl | assumption) rfl (by omega) ?_
      refine V_iinc F dM_save_258 (by decide) rfl (by omega) (by simp only [List.set_cons_zero, List.set_cons_succ]; exact rfl) ?_
      refine V_goto F 237 dM_save_261 (by decide) ?_
      refine ih (i + 1) _ (by omega) (by omega) (by omega) ⟨(fun j hj => by rw [upw_f (by omega)]; exact hI.1 j hj), fun k k1 k2 => ?_, fun k k1 k2 => ?_, fun k k1 k2 => ?_, fun k k1 k2 => ?_⟩
      · rw [upw_f (by decide), upw_f (by decide)]; exact hI.2.1 k k1 k2
      · rw [upw_f (by decide)]; exact hI.2.2.1 k k1 k2
      · rw [upw_ne (by omega), upw_ne (by omega), upw_ne (by omega), upw_ne (by omega), upw_ne (by omega), upw_ne (by omega), upw_ne (by omega), upw_ne (by omega), upw_ne (by omega)]; exact hI.2.2.2.1 k k1 k2
      · by_cases e : k = i
        · rw [e, upw_s]
        · rw [upw_ne (by omega)]; exact hI.2.2.2.2 k k1 (by omega)
theorem lpM_save3 {G : vG} {X : vX} {Q : State → Prop} {w : RW} (hm : mOK w) (F : FX G X cM_save yM_save.cls 2 0) (hR : RetV G X cM_save 2 Q (fun u => svM w u)) : ∀ (m : Nat) (i : Int) (u : RW), 6 - i < m → (0 ≤ i) → (i ≤ 6) → (sfr w u ∧ sA w u 288 ∧ sB w u 1800 ∧ sC w u i) → V G X 2 Q 68 [some (.inr 77), some (.inl i)] [] u := by
  intro m
  induction m with
  | zero => intro i u hm0 h1 h2 hI; omega
  | succ m ih =>
    intro i u hm0 h1 h2 hI
    have e80 := hI.1 80 (by decide)
    have e81 := hI.1 81 (by decide)
    have e82 := hI.1 82 (by decide)
    have e86 := hI.1 86 (by decide)
    have e87 := hI.1 87 (by decide)
    have e88 := hI.1 88 (by decide)
    have e89 := hI.1 89 (by decide)
    have e90 := hI.1 90 (by decide)
    have e91 := hI.1 91 (by decide)
    have e93 := hI.1 93 (by decide)
    have e94 := hI.1 94 (by decide)
    refine V_iload_n (i := 1) F dM_save_68 rfl rfl ?_
    refine V_bipush F dM_save_69 (by decide) ?_
    refine V_icmp_ge F 235 dM_save_71 (by decide) (fun h71 => ?_) (fun h71 => ?_)
    · refine V_iconst F dM_save_235 (by decide) ?_
      refine V_istore_n (i := 1) F dM_save_236 rfl (by decide) (by simp only [List.set_cons_zero, List.set_cons_succ]; exact rfl) ?_
      exact lpM_save4 F hR 37 0 u (by omega) (by omega) (by omega) ⟨hI.1, hI.2.1, hI.2.2.1, by rw [show i = 6 by omega] at hI; exact hI.2.2.2, fun k k1 k2 => by omega⟩
    · have k5 := hm.2.2.2.2.1 i h1 (by omega)
      refine V_aload_n (i := 0) F dM_save_74 rfl rfl ?_
      refine V_getr (ci := 7) (C := R_M) (T := T_M) (N := 32) F dM_save_75 (by first | rfl | assumption) rfl (j := 29) (by decide) rfl lfM_74 ?_
      refine V_iload_n (i := 1) F dM_save_78 rfl rfl ?_
      refine V_aload_n (i := 0) F dM_save_79 rfl rfl ?_
      refine V_getr (ci := 7) (C := R_M) (T := T_M) (N := 32) F dM_save_80 (by first | rfl | assumption) rfl (j := 12) (by decide) rfl lfM_35 ?_
      refine V_iload_n (i := 1) F dM_save_83 rfl rfl ?_
      first
        | refine V_sald F dM_save_84 (by decide) (by omega) (stt_in _ _) ?_
        | refine V_iald F dM_save_84 (by first | rfl | assumption) rfl (by omega) ?_
      try simp only [upw_s, upw_f (show (86 : Nat) ≠ 99 by decide), upw_f (show (86 : Nat) ≠ 100 by decide)]
      rw [e86]
      refine V_iast F dM_save_85 (by first | rfl | assumption) rfl (by omega) ?_
      refine V_aload_n (i := 0) F dM_save_86 rfl rfl ?_
      refine V_getr (ci := 7) (C := R_M) (T := T_M) (N := 32) F dM_save_87 (by first | rfl | assumption) rfl (j := 29) (by decide) rfl lfM_74 ?_
      refine V_bipush F dM_save_90 (by decide) ?_
      refine V_iload_n (i := 1) F dM_save_92 rfl rfl ?_
      refine V_iadd F dM_save_93 (by omega) ?_
      refine V_aload_n (i := 0) F dM_save_94 rfl rfl ?_
      refine V_getr (ci := 7) (C := R_M) (T := T_M) (N := 32) F dM_save_95 (by first | rfl | assumption) rfl (j := 13) (by decide) rfl lfM_38 ?_
      refine V_iload_n (i := 1) F dM_save_98 rfl rfl ?_
      first
        | refine V_sald F dM_save_99 (by decide) (by omega) (stt_in _ _) ?_
        | refine V_iald F dM_save_99 (by first | rfl | assumption) rfl (by omega) ?_
      try simp only [upw_s, upw_f (show (87 : Nat) ≠ 99 by decide), upw_f (show (87 : Nat) ≠ 100 by decide)]
      rw [e87]
      refine V_iast F dM_save_100 (by first | rfl | assumption) rfl (by omega) ?_
      refine V_aload_n (i := 0) F dM_save_101 rfl rfl ?_
      refine V_getr (ci := 7) (C := R_M) (T := T_M) (N := 32) F dM_save_102 (by first | rfl | assumption) rfl (j := 29) (by decide) rfl lfM_74 ?_
      refine V_bipush F dM_save_105 (by decide) ?_
      refine V_iload_n (i := 1) F dM_save_107 rfl rfl ?_
      refine V_iadd F dM_save_108 (by omega) ?_
      refine V_aload_n (i := 0) F dM_save_109 rfl rfl ?_
      refine V_getr (ci := 7) (C := R_M) (T := T_M) (N := 32) F dM_save_110 (by first | rfl | assumption) rfl (j := 14) (by decide) rfl lfM_41 ?_
      refine V_iload_n (i := 1) F dM_save_113 rfl rfl ?_
      first
        | refine V_sald F dM_save_114 (by decide) (by omega) (stt_in _ _) ?_
        | refine V_iald F dM_save_114 (by first | rfl | assumption) rfl (by omega) ?_
      try simp only [upw_s, upw_f (show (88 : Nat) ≠ 99 by decide), upw_f (show (88 : Nat) ≠ 100 by decide)]
      rw [e88]
      refine V_iast F dM_save_115 (by first | rfl | assumption) rfl (by omega) ?_
      refine V_aload_n (i := 0) F dM_save_116 rfl rfl ?_
      refine V_getr (ci := 7) (C := R_M) (T := T_M) (N := 32) F dM_save_117 (by first | rfl | assumption) rfl (j := 29) (by decide) rfl lfM_74 ?_
      refine V_bipush F dM_save_120 (by decide) ?_
      refine V_iload_n (i := 1) F dM_save_122 rfl rfl ?_
      refine V_iadd F dM_save_123 (by omega) ?_
      refine V_aload_n (i := 0) F dM_save_124 rfl rfl ?_
      refine V_getr (ci := 7) (C := R_M) (T := T_M) (N := 32) F dM_save_125 (by first | rfl | assumption) rfl (j := 15) (by decide) rfl lfM_44 ?_
      refine V_iload_n (i := 1) F dM_save_128 rfl rfl ?_
      first
        | refine V_sald F dM_save_129 (by decide) (by omega) (stt_in _ _) ?_
        | refine V_iald F dM_save_129 (by first | rfl | assumption) rfl (by omega) ?_
      try simp only [upw_s, upw_f (show (89 : Nat) ≠ 99 by decide), upw_f (show (89 : Nat) ≠ 100 by decide)]
      rw [e89]
      refine V_iast F dM_save_130 (by first | rfl | assumption) rfl (by omega) ?_
      refine V_aload_n (i := 0) F dM_save_131 rfl rfl ?_
      refine V_getr (ci := 7) (C := R_M) (T := T_M) (N := 32) F dM_save_132 (by first | rfl | assumption) rfl (j := 29) (by decide) rfl lfM_74 ?_
      refine V_bipush F dM_save_135 (by decide) ?_
      refine V_iload_n (i := 1) F dM_save_137 rfl rfl ?_
      refine V_iadd F dM_save_138 (by omega) ?_
      refine V_aload_n (i := 0) F dM_save_139 rfl rfl ?_
      refine V_getr (ci := 7) (C := R_M) (T := T_M) (N := 32) F dM_save_140 (by first | rfl | assumption) rfl (j := 16) (by decide) rfl lfM_47 ?_
      refine V_iload_n (i := 1) F dM_save_143 rfl rfl ?_
      first
        | refine V_sald F dM_save_144 (by decide) (by omega) (stt_in _ _) ?_
        | refine V_iald F dM_save_144 (by first | rfl | assumption) rfl (by omega) ?_
      try simp only [upw_s, upw_f (show (90 : Nat) ≠ 99 by decide), upw_f (show (90 : Nat) ≠ 100 by decide)]
      rw [e90]
      refine V_iast F dM_save_145 (by first | rfl | assumption) rfl (by omega) ?_
      refine V_aload_n (i := 0) F dM_save_146 rfl rfl ?_
      refine V_getr (ci := 7) (C := R_M) (T := T_M) (N := 32) F dM_save_147 (by first | rfl | assumption) rfl (j := 29) (by decide) rfl lfM_74 ?_
      refine V_bipush F dM_save_150 (by decide) ?_
      refine V_iload_n (i := 1) F dM_save_152 rfl rfl ?_
      refine V_iadd F dM_save_153 (by omega) ?_
      refine V_aload_n (i := 0) F dM_save_154 rfl rfl ?_
      refine V_getr (ci := 7) (C := R_M) (T := T_M) (N := 32) F dM_save_155 (by first | rfl | assumption) rfl (j := 19) (by decide) rfl lfM_56 ?_
      refine V_iload_n (i := 1) F dM_save_158 rfl rfl ?_
      first
        | refine V_sald F dM_save_159 (by decide) (by omega) (stt_in _ _) ?_
        | refine V_iald F dM_save_159 (by first | rfl | assumption) rfl (by omega) ?_
      try simp only [upw_s, upw_f (show (93 : Nat) ≠ 99 by decide), upw_f (show (93 : Nat) ≠ 100 by decide)]
      rw [e93]
      refine V_bipush F dM_save_160 (by decide) ?_
      refine V_aload_n (i := 0) F dM_save_162 rfl rfl ?_
      refine V_getr (ci := 7) (C := R_M) (T := T_M) (N := 32) F dM_save_163 (by first | rfl | assumption) rfl (j := 20) (by decide) rfl lfM_59 ?_
      refine V_iload_n (i := 1) F dM_save_166 rfl rfl ?_
      first
        | refine V_sald F dM_save_167 (by decide) (by omega) (stt_in _ _) ?_
        | refine V_iald F dM_save_167 (by first | rfl | assumption) rfl (by omega) ?_
      try simp only [upw_s, upw_f (show (94 : Nat) ≠ 99 by decide), upw_f (show (94 : Nat) ≠ 100 by decide)]
      rw [e94]
      refine V_imul F dM_save_168 (by omega) ?_
      refine V_iadd F dM_save_169 (by omega) ?_
      refine V_aload_n (i := 0) F dM_save_170 rfl rfl ?_
      refine V_getr (ci := 7) (C := R_M) (T := T_M) (N := 32) F dM_save_171 (by first | rfl | assumption) rfl (j := 17) (by decide) rfl lfM_50 ?_
      refine V_iload_n (i := 1) F dM_save_174 rfl rfl ?_
      refine V_zald F dM_save_175 (by first | rfl | assumption) rfl (by omega) ?_
      try simp only [upw_s, upw_f (show (91 : Nat) ≠ 99 by decide), upw_f (show (91 : Nat) ≠ 100 by decide)]
      rw [e91]
      refine V_if_eq F 184 dM_save_176 (by decide) (fun h176 => ?_) (fun h176 => ?_)
      · refine V_iconst F dM_save_184 (by decide) ?_
        refine V_iadd F dM_save_185 (by omega) ?_
        refine V_iast F dM_save_186 (by first | rfl | assumption) rfl (by omega) ?_
        refine V_aload_n (i := 0) F dM_save_187 rfl rfl ?_
        refine V_getr (ci := 7) (C := R_M) (T := T_M) (N := 32) F dM_save_188 (by first | rfl | assumption) rfl (j := 30) (by decide) rfl lfM_77 ?_
        refine V_iload_n (i := 1) F dM_save_191 rfl rfl ?_
        refine V_aload_n (i := 0) F dM_save_192 rfl rfl ?_
        refine V_getr (ci := 7) (C := R_M) (T := T_M) (N := 32) F dM_save_193 (by first | rfl | assumption) rfl (j := 5) (by decide) rfl lfM_17 ?_
        refine V_iload_n (i := 1) F dM_save_196 rfl rfl ?_
        first
          | refine V_sald F dM_save_197 (by decide) (by omega) (stt_in _ _) ?_
          | refine V_iald F dM_save_197 (by first | rfl | assumption) rfl (by omega) ?_
        try simp only [upw_s, upw_f (show (80 : Nat) ≠ 99 by decide), upw_f (show (80 : Nat) ≠ 100 by decide)]
        rw [e80]
        refine V_iast F dM_save_198 (by first | rfl | assumption) rfl (by omega) ?_
        refine V_aload_n (i := 0) F dM_save_199 rfl rfl ?_
        refine V_getr (ci := 7) (C := R_M) (T := T_M) (N := 32) F dM_save_200 (by first | rfl | assumption) rfl (j := 30) (by decide) rfl lfM_77 ?_
        refine V_bipush F dM_save_203 (by decide) ?_
        refine V_iload_n (i := 1) F dM_save_205 rfl rfl ?_
        refine V_iadd F dM_save_206 (by omega) ?_
        refine V_aload_n (i := 0) F dM_save_207 rfl rfl ?_
        refine V_getr (ci := 7) (C := R_M) (T := T_M) (N := 32) F dM_save_208 (by first | rfl | assumption) rfl (j := 6) (by decide) rfl lfM_20 ?_
        refine V_iload_n (i := 1) F dM_save_211 rfl rfl ?_
        first
          | refine V_sald F dM_save_212 (by decide) (by omega) (stt_in _ _) ?_
          | refine V_iald F dM_save_212 (by first | rfl | assumption) rfl (by omega) ?_
        try simp only [upw_s, upw_f (show (81 : Nat) ≠ 99 by decide), upw_f (show (81 : Nat) ≠ 100 by decide)]
        rw [e81]
        refine V_iast F dM_save_213 (by first | rfl | assumption) rfl (by omega) ?_
        refine V_aload_n (i := 0) F dM_save_214 rfl rfl ?_
        refine V_getr (ci := 7) (C := R_M) (T := T_M) (N := 32) F dM_save_215 (by first | rfl | assumption) rfl (j := 30) (by decide) rfl lfM_77 ?_
        refine V_bipush F dM_save_218 (by decide) ?_
        refine V_iload_n (i := 1) F dM_save_220 rfl rfl ?_
        refine V_iadd F dM_save_221 (by omega) ?_
        refine V_aload_n (i := 0) F dM_save_222 rfl rfl ?_
        refine V_getr (ci := 7) (C := R_M) (T := T_M) (N := 32) F dM_save_223 (by first | rfl | assumption) rfl (j := 7) (by decide) rfl lfM_23 ?_
        refine V_iload_n (i := 1) F dM_save_226 rfl rfl ?_
        first
          | refine V_sald F dM_save_227 (by decide) (by omega) (stt_in _ _) ?_
          | refine V_iald F dM_save_227 (by first | rfl | assumption) rfl (by omega) ?_
        try simp only [upw_s, upw_f (show (82 : Nat) ≠ 99 by decide), upw_f (show (82 : Nat) ≠ 100 by decide)]
        rw [e82]
        refine V_iast F dM_save_228 (by first | rfl | assumption) rfl (by omega) ?_
        refine V_iinc F dM_save_229 (by decide) rfl (by omega) (by simp only [List.set_cons_zero, List.set_cons_succ]; exact rfl) ?_
        refine V_goto F 68 dM_save_232 (by decide) ?_
        refine ih (i + 1) _ (by omega) (by omega) (by omega) ⟨(fun j hj => by rw [upw_f (by omega), upw_f (by omega), upw_f (by omega), upw_f (by omega), upw_f (by omega), upw_f (by omega), upw_f (by omega), upw_f (by omega), upw_f (by omega)]; exact hI.1 j hj), fun k k1 k2 => ?_, fun k k1 k2 => ?_, fun k k1 k2 => ?_⟩
        · repeat rw [upw_f (by decide)]
          exact hI.2.1 k k1 k2
        · repeat rw [upw_f (by decide)]
          exact hI.2.2.1 k k1 k2
        · by_cases e : k = i
          · subst e
            refine ⟨⟨?_, ?_, ?_, ?_, ?_, ?_⟩, ?_, ?_, ?_⟩ <;> (repeat (first | rw [upw_ne (by omega)] | rw [upw_eq (by omega) (by omega)]))
            first | rw [if_pos h176] | rw [if_neg h176]
          · have hh := hI.2.2.2 k k1 (by omega)
            obtain ⟨⟨a1, a2, a3, a4, a5, a6⟩, b1, b2, b3⟩ := hh
            refine ⟨⟨?_, ?_, ?_, ?_, ?_, ?_⟩, ?_, ?_, ?_⟩
            · (repeat (first | rw [upw_ne (by omega)] | rw [upw_eq (by omega) (by omega)])); exact a1
            · (repeat (first | rw [upw_ne (by omega)] | rw [upw_eq (by omega) (by omega)])); exact a2
            · (repeat (first | rw [upw_ne (by omega)] | rw [upw_eq (by omega) (by omega)])); exact a3
            · (repeat (first | rw [upw_ne (by omega)] | rw [upw_eq (by omega) (by omega)])); exact a4
            · (repeat (first | rw [upw_ne (by omega)] | rw [upw_eq (by omega) (by omega)])); exact a5
            · (repeat (first | rw [upw_ne (by omega)] | rw [upw_eq (by omega) (by omega)])); exact a6
            · (repeat (first | rw [upw_ne (by omega)] | rw [upw_eq (by omega) (by omega)])); exact b1
            · (repeat (first | rw [upw_ne (by omega)] | rw [upw_eq (by omega) (by omega)])); exact b2
            · (repeat (first | rw [upw_ne (by omega)] | rw [upw_eq (by omega) (by omega)])); exact b3
      · refine V_bipush F dM_save_179 (by decide) ?_
        refine V_goto F 185 dM_save_181 (by decide) ?_
        refine V_iadd F dM_save_185 (by omega) ?_
        refine V_iast F dM_save_186 (by first | rfl | assumption) rfl (by omega) ?_
        refine V_aload_n (i := 0) F dM_save_187 rfl rfl ?_
        refine V_getr (ci := 7) (C := R_M) (T := T_M) (N := 32) F dM_save_188 (by first | rfl | assumption) rfl (j := 30) (by decide) rfl lfM_77 ?_
        refine V_iload_n (i := 1) F dM_save_191 rfl rfl ?_
        refine V_aload_n (i := 0) F dM_save_192 rfl rfl ?_
        refine V_getr (ci := 7) (C := R_M) (T := T_M) (N := 32) F dM_save_193 (by first | rfl | assumption) rfl (j := 5) (by decide) rfl lfM_17 ?_
        refine V_iload_n (i := 1) F dM_save_196 rfl rfl ?_
        first
          | refine V_sald F dM_save_197 (by decide) (by omega) (stt_in _ _) ?_
          | refine V_iald F dM_save_197 (by first | rfl | assumption) rfl (by omega) ?_
        try simp only [upw_s, upw_f (show (80 : Nat) ≠ 99 by decide), upw_f (show (80 : Nat) ≠ 100 by decide)]
        rw [e80]
        refine V_iast F dM_save_198 (by first | rfl | assumption) rfl (by omega) ?_
        refine V_aload_n (i := 0) F dM_save_199 rfl rfl ?_
        refine V_getr (ci := 7) (C := R_M) (T := T_M) (N := 32) F dM_save_200 (by first | rfl | assumption) rfl (j := 30) (by decide) rfl lfM_77 ?_
        refine V_bipush F dM_save_203 (by decide) ?_
        refine V_iload_n (i := 1) F dM_save_205 rfl rfl ?_
        refine V_iadd F dM_save_206 (by omega) ?_
        refine V_aload_n (i := 0) F dM_save_207 rfl rfl ?_
        refine V_getr (ci := 7) (C := R_M) (T := T_M) (N := 32) F dM_save_208 (by first | rfl | assumption) rfl (j := 6) (by decide) rfl lfM_20 ?_
        refine V_iload_n (i := 1) F dM_save_211 rfl rfl ?_
        first
          | refine V_sald F dM_save_212 (by decide) (by omega) (stt_in _ _) ?_
          | refine V_iald F dM_save_212 (by first | rfl | assumption) rfl (by omega) ?_
        try simp only [upw_s, upw_f (show (81 : Nat) ≠ 99 by decide), upw_f (show (81 : Nat) ≠ 100 by decide)]
        rw [e81]
        refine V_iast F dM_save_213 (by first | rfl | assumption) rfl (by omega) ?_
        refine V_aload_n (i := 0) F dM_save_214 rfl rfl ?_
        refine V_getr (ci := 7) (C := R_M) (T := T_M) (N := 32) F dM_save_215 (by first | rfl | assumption) rfl (j := 30) (by decide) rfl lfM_77 ?_
        refine V_bipush F dM_save_218 (by decide) ?_
        refine V_iload_n (i := 1) F dM_save_220 rfl rfl ?_
        refine V_iadd F dM_save_221 (by omega) ?_
        refine V_aload_n (i := 0) F dM_save_222 rfl rfl ?_
        refine V_getr (ci := 7) (C := R_M) (T := T_M) (N := 32) F dM_save_223 (by first | rfl | assumption) rfl (j := 7) (by decide) rfl lfM_23 ?_
        refine V_iload_n (i := 1) F dM_save_226 rfl rfl ?_
        first
          | refine V_sald F dM_save_227 (by decide) (by omega) (stt_in _ _) ?_
          | refine V_iald F dM_save_227 (by first | rfl | assumption) rfl (by omega) ?_
        try simp only [upw_s, upw_f (show (82 : Nat) ≠ 99 by decide), upw_f (show (82 : Nat) ≠ 100 by decide)]
        rw [e82]
        refine V_iast F dM_save_228 (by first | rfl | assumption) rfl (by omega) ?_
        refine V_iinc F dM_save_229 (by decide) rfl (by omega) (by simp only [List.set_cons_zero, List.set_cons_succ]; exact rfl) ?_
        refine V_goto F 68 dM_save_232 (by decide) ?_
        refine ih (i + 1) _ (by omega) (by omega) (by omega) ⟨(fun j hj => by rw [upw_f (by omega), upw_f (by omega), upw_f (by omega), upw_f (by omega), upw_f (by omega), upw_f (by omega), upw_f (by omega), upw_f (by omega), upw_f (by omega)]; exact hI.1 j hj), fun k k1 k2 => ?_, fun k k1 k2 => ?_, fun k k1 k2 => ?_⟩
        · repeat rw [upw_f (by decide)]
          exact hI.2.1 k k1 k2
        · repeat rw [upw_f (by decide)]
          exact hI.2.2.1 k k1 k2
        · by_cases e : k = i
          · subst e
            refine ⟨⟨?_, ?_, ?_, ?_, ?_, ?_⟩, ?_, ?_, ?_⟩ <;> (repeat (first | rw [upw_ne (by omega)] | rw [upw_eq (by omega) (by omega)]))
            first | rw [if_pos h176] | rw [if_neg h176]
          · have hh := hI.2.2.2 k k1 (by omega)
            obtain ⟨⟨a1, a2, a3, a4, a5, a6⟩, b1, b2, b3⟩ := hh
            refine ⟨⟨?_, ?_, ?_, ?_, ?_, ?_⟩, ?_, ?_, ?_⟩
            · (repeat (first | rw [upw_ne (by omega)] | rw [upw_eq (by omega) (by omega)])); exact a1
            · (repeat (first | rw [upw_ne (by omega)] | rw [upw_eq (by omega) (by omega)])); exact a2
            · (repeat (first | rw [upw_ne (by omega)] | rw [upw_eq (by omega) (by omega)])); exact a3
            · (repeat (first | rw [upw_ne (by omega)] | rw [upw_eq (by omega) (by omega)])); exact a4
            · (repeat (first | rw [upw_ne (by omega)] | rw [upw_eq (by omega) (by omega)])); exact a5
            · (repeat (first | rw [upw_ne (by omega)] | rw [upw_eq (by omega) (by omega)])); exact a6
            · (repeat (first | rw [upw_ne (by omega)] | rw [upw_eq (by omega) (by omega)])); exact b1
            · (repeat (first | rw [upw_ne (by omega)] | rw [upw_eq (by omega) (by omega)])); exact b2
            · (repeat (first | rw [upw_ne (by omega)] | rw [upw_eq (by omega) (by omega)])); exact b3
theorem lpM_save2 {G : vG} {X : vX} {Q : State → Prop} {w : RW} (hm : mOK w) (F : FX G X cM_save yM_save.cls 2 0) (hR : RetV G X cM_save 2 Q (fun u => svM w u)) : ∀ (m : Nat) (i : Int) (u : RW), 1800 - i < m → (0 ≤ i) → (i ≤ 1800) → (sfr w u ∧ sA w u 288 ∧ sB w u i) → V G X 2 Q 41 [some (.inr 77), some (.inl i)] [] u := by
  intro m
  induction m with
  | zero => intro i u hm0 h1 h2 hI; omega
  | succ m ih =>
    intro i u hm0 h1 h2 hI
    have e85 := hI.1 85 (by decide)
    refine V_iload_n (i := 1) F dM_save_41 rfl rfl ?_
    refine V_sipush F dM_save_42 (by decide) ?_
    refine V_icmp_ge F 66 dM_save_45 (by decide) (fun h45 => ?_) (fun h45 => ?_)
    · refine V_iconst F dM_save_66 (by decide) ?_
      refine V_istore_n (i := 1) F dM_save_67 rfl (by decide) (by simp only [List.set_cons_zero, List.set_cons_succ]; exact rfl) ?_
      exact lpM_save3 hm F hR 7 0 u (by omega) (by omega) (by omega) ⟨hI.1, hI.2.1, by rw [show i = 1800 by omega] at hI; exact hI.2.2, fun k k1 k2 => by omega⟩
    · refine V_aload_n (i := 0) F dM_save_48 rfl rfl ?_
      refine V_getr (ci := 7) (C := R_M) (T := T_M) (N := 32) F dM_save_49 (by first | rfl | assumption) rfl (j := 28) (by decide) rfl lfM_71 ?_
      refine V_iload_n (i := 1) F dM_save_52 rfl rfl ?_
      refine V_aload_n (i := 0) F dM_save_53 rfl rfl ?_
      refine V_getr (ci := 7) (C := R_M) (T := T_M) (N := 32) F dM_save_54 (by first | rfl | assumption) rfl (j := 11) (by decide) rfl lfM_32 ?_
      refine V_iload_n (i := 1) F dM_save_57 rfl rfl ?_
      first
        | refine V_sald F dM_save_58 (by decide) (by omega) (stt_in _ _) ?_
        | refine V_iald F dM_save_58 (by first | rfl | assumption) rfl (by omega) ?_
      rw [e85]
      refine V_iast F dM_save_59 (by first | rfl | assumption) rfl (by omega) ?_
      refine V_iinc F dM_save_60 (by decide) rfl (by omega) (by simp only [List.set_cons_zero, List.set_cons_succ]; exact rfl) ?_
      refine V_goto F 41 dM_save_63 (by decide) ?_
      refine ih (i + 1) _ (by omega) (by omega) (by omega) ⟨(fun j hj => by rw [upw_f (by omega)]; exact hI.1 j hj), fun k k1 k2 => ?_, fun k k1 k2 => ?_⟩
      · repeat rw [upw_f (by decide)]
        exact hI.2.1 k k1 k2
      · by_cases e : k = i
        · rw [e, upw_s]
        · rw [upw_i e]; exact hI.2.2 k k1 (by omega)
theorem lpM_save1 {G : vG} {X : vX} {Q : State → Prop} {w : RW} (hm : mOK w) (F : FX G X cM_save yM_save.cls 2 0) (hR : RetV G X cM_save 2 Q (fun u => svM w u)) : ∀ (m : Nat) (i : Int) (u : RW), 288 - i < m → (0 ≤ i) → (i ≤ 288) → (sfr w u ∧ sA w u i) → V G X 2 Q 2 [some (.inr 77), some (.inl i)] [] u := by
  intro m
  induction m with
  | zero => intro i u hm0 h1 h2 hI; omega
  | succ m ih =>
    intro i u hm0 h1 h2 hI
    have e78 := hI.1 78 (by decide)
    have e79 := hI.1 79 (by decide)
    refine V_iload_n (i := 1) F dM_save_2 rfl rfl ?_
    refine V_sipush F dM_save_3 (by decide) ?_
    refine V_icmp_ge F 39 dM_save_6 (by decide) (fun h6 => ?_) (fun h6 => ?_)
    · refine V_iconst F dM_save_39 (by decide) ?_
      refine V_istore_n (i := 1) F dM_save_40 rfl (by decide) (by simp only [List.set_cons_zero, List.set_cons_succ]; exact rfl) ?_
      exact lpM_save2 hm F hR 1801 0 u (by omega) (by omega) (by omega) ⟨hI.1, by rw [show i = 288 by omega] at hI; exact hI.2, fun k k1 k2 => by omega⟩
    · refine V_aload_n (i := 0) F dM_save_9 rfl rfl ?_
      refine V_getr (ci := 7) (C := R_M) (T := T_M) (N := 32) F dM_save_10 (by first | rfl | assumption) rfl (j := 26) (by decide) rfl lfM_65 ?_
      refine V_iload_n (i := 1) F dM_save_13 rfl rfl ?_
      refine V_aload_n (i := 0) F dM_save_14 rfl rfl ?_
      refine V_getr (ci := 7) (C := R_M) (T := T_M) (N := 32) F dM_save_15 (by first | rfl | assumption) rfl (j := 2) (by decide) rfl lfM_7 ?_
      refine V_iload_n (i := 1) F dM_save_18 rfl rfl ?_
      refine V_zald F dM_save_19 (by first | rfl | assumption) rfl (by omega) ?_
      rw [e78]
      have hz := (hm.2.1 i h1 (by omega)).1
      refine V_zast F dM_save_20 (by first | rfl | assumption) rfl (by omega) (by first | exact Or.inl rfl | exact Or.inr rfl | exact bz_01 _ | assumption) ?_
      refine V_aload_n (i := 0) F dM_save_21 rfl rfl ?_
      refine V_getr (ci := 7) (C := R_M) (T := T_M) (N := 32) F dM_save_22 (by first | rfl | assumption) rfl (j := 27) (by decide) rfl lfM_68 ?_
      refine V_iload_n (i := 1) F dM_save_25 rfl rfl ?_
      refine V_aload_n (i := 0) F dM_save_26 rfl rfl ?_
      refine V_getr (ci := 7) (C := R_M) (T := T_M) (N := 32) F dM_save_27 (by first | rfl | assumption) rfl (j := 3) (by decide) rfl lfM_13 ?_
      refine V_iload_n (i := 1) F dM_save_30 rfl rfl ?_
      first
        | refine V_sald F dM_save_31 (by decide) (by omega) (stt_in _ _) ?_
        | refine V_iald F dM_save_31 (by first | rfl | assumption) rfl (by omega) ?_
      try simp only [upw_s, upw_f (show (79 : Nat) ≠ 96 by decide)]
      rw [e79]
      refine V_iast F dM_save_32 (by first | rfl | assumption) rfl (by omega) ?_
      refine V_iinc F dM_save_33 (by decide) rfl (by omega) (by simp only [List.set_cons_zero, List.set_cons_succ]; exact rfl) ?_
      refine V_goto F 2 dM_save_36 (by decide) ?_
      refine ih (i + 1) _ (by omega) (by omega) (by omega) ⟨(fun j hj => by rw [upw_f (by omega), upw_f (by omega)]; exact hI.1 j hj), fun k k1 k2 => ?_⟩
      by_cases e : k = i
      · subst e
        refine ⟨?_, ?_⟩ <;> (repeat (first | rw [upw_ne (by omega)] | rw [upw_eq (by omega) (by omega)]))
      · have hh := hI.2 k k1 (by omega)
        refine ⟨?_, ?_⟩
        · (repeat (first | rw [upw_ne (by omega)] | rw [upw_eq (by omega) (by omega)])); exact hh.1
        · (repeat (first | rw [upw_ne (by omega)] | rw [upw_eq (by omega) (by omega)])); exact hh.2
theorem ctM_save {G : vG} {l : Launch} {w : RW} (hm : mOK w) : CTv G l yM_save cM_save 2 0 [.inr 77] w (fun u => svM w u) := by
  refine CTv.intro (by decide) (Nat.le_of_ble_eq_true rfl) ?_
  intro X Q F hX hR
  subst hX
  show V G X 2 Q 0 [some (.inr 77), none] [] w
  refine V_iconst F dM_save_0 (by decide) ?_
  refine V_istore_n (i := 1) F dM_save_1 rfl (by decide) (by simp only [List.set_cons_zero, List.set_cons_succ]; exact rfl) ?_
  exact lpM_save1 hm F hR 289 0 w (by omega) (by omega) (by omega) ⟨fun _ _ => rfl, fun k k1 k2 => by omega⟩
def rfr (w u : RW) : Prop := (∀ j, j < 78 ∨ 96 ≤ j → u j = w j)
def rA (w u : RW) (n : Int) : Prop := ∀ i, 0 ≤ i → i < n → u 78 i = w 96 i ∧ u 79 i = w 97 i
def rB (w u : RW) (n : Int) : Prop := ∀ i, 0 ≤ i → i < n → u 85 i = w 98 i
def rC (w u : RW) (n : Int) : Prop := ∀ t, 0 ≤ t → t < n → (u 86 t = w 99 t ∧ u 87 t = w 99 (6 + t) ∧ u 88 t = w 99 (12 + t) ∧ u 89 t = w 99 (18 + t) ∧ u 90 t = w 99 (24 + t) ∧ u 93 t = w 99 (30 + t) % 8 ∧ u 94 t = w 99 (30 + t) / 8 % 8 ∧ u 91 t = (if w 99 (30 + t) < 64 then 0 else 1)) ∧ u 80 t = w 100 t ∧ u 81 t = w 100 (6 + t) ∧ u 82 t = w 100 (12 + t)
def rD (w u : RW) (n : Int) : Prop := ∀ i, 0 ≤ i → i < n → u 92 i = w 99 (36 + i)
def rsM (w u : RW) : Prop := (∀ j, j < 77 ∨ 96 ≤ j → u j = w j) ∧ (u 77 4 = w 101 0 ∧ u 77 10 = w 101 1 ∧ u 77 23 = w 101 2 ∧ u 77 24 = w 101 3 ∧ u 77 25 = w 101 4 ∧ u 77 0 = w 77 0 ∧ u 77 1 = w 77 1) ∧ rA w u 288 ∧ rB w u 1800 ∧ rC w u 6 ∧ rD w u 36 ∧ ∀ s, 0 ≤ s → s < 6 → u 83 s = 0
theorem rA_c {w u v : RW} {n : Int} (h1 : v 78 = u 78) (h2 : v 79 = u 79) (h : rA w u n) : rA w v n := fun i a b => by rw [h1, h2]; exact h i a b
theorem rB_c {w u v : RW} {n : Int} (h1 : v 85 = u 85) (h : rB w u n) : rB w v n := fun i a b => by rw [h1]; exact h i a b
theorem rC_c {w u v : RW} {n : Int} (hh : ∀ j, j ∈ [80, 81, 82, 86, 87, 88, 89, 90, 91, 93, 94] → v j = u j) (h : rC w u n) : rC w v n := fun i a b => by rw [hh 80 (by decide), hh 81 (by decide), hh 82 (by decide), hh 86 (by decide), hh 87 (by decide), hh 88 (by decide), hh 89 (by decide), hh 90 (by decide), hh 91 (by decide), hh 93 (by decide), hh 94 (by decide)]; exact h i a b
theorem rD_c {w u v : RW} {n : Int} (h1 : v 92 = u 92) (h : rD w u n) : rD w v n := fun i a b => by rw [h1]; exact h i a b
theorem lpM_rest4 {G : vG} {X : vX} {Q : State → Prop} {w : RW}  (F : FX G X cM_restore yM_restore.cls 2 1) (hR : RetV G X cM_restore 2 Q (fun u => rsM w u)) : ∀ (m : Nat) (i : Int) (u : RW), 36 - i < m → (0 ≤ i) → (i ≤ 36) → (rfr w u ∧ rA w u 288 ∧ rB w u 1800 ∧ rC w u 6 ∧ rD w u i) → V G X 2 Q 260 [some (.inr 77), some (.inl i)] [] u := by
  intro m
  induction m with
  | zero => intro i u hm0 h1 h2 hI; omega
  | succ m ih =>
    intro i u hm0 h1 h2 hI
    have e77 := hI.1 77 (by decide)
    have e99 := hI.1 99 (by decide)
    have e101 := hI.1 101 (by decide)
    refine V_iload_n (i := 1) F dM_restore_260 rfl rfl ?_
    refine V_bipush F dM_restore_261 (by decide) ?_
    refine V_icmp_ge F 287 dM_restore_263 (by decide) (fun h263 => ?_) (fun h263 => ?_)
    · refine V_aload_n (i := 0) F dM_restore_287 rfl rfl ?_
      refine V_aload_n (i := 0) F dM_restore_288 rfl rfl ?_
      refine V_getr (ci := 7) (C := R_M) (T := T_M) (N := 32) F dM_restore_289 (by first | rfl | assumption) rfl (j := 31) (by decide) rfl lfM_80 ?_
      refine V_iconst F dM_restore_292 (by decide) ?_
      first
        | refine V_sald F dM_restore_293 (by decide) (by omega) (stt_in _ _) ?_
        | refine V_iald F dM_restore_293 (by first | rfl | assumption) rfl (by omega) ?_
      rw [e101]
      refine V_puti (ci := 7) (C := R_M) (T := T_M) (N := 32) F dM_restore_294 (by first | rfl | assumption) rfl (j := 4) 4 rfl (by decide) rfl rfl rfl lfM_185 ?_
      refine V_aload_n (i := 0) F dM_restore_297 rfl rfl ?_
      refine V_aload_n (i := 0) F dM_restore_298 rfl rfl ?_
      refine V_getr (ci := 7) (C := R_M) (T := T_M) (N := 32) F dM_restore_299 (by first | rfl | assumption) rfl (j := 31) (by decide) rfl lfM_80 ?_
      refine V_iconst F dM_restore_302 (by decide) ?_
      first
        | refine V_sald F dM_restore_303 (by decide) (by omega) (stt_in _ _) ?_
        | refine V_iald F dM_restore_303 (by first | rfl | assumption) rfl (by omega) ?_
      try simp only [upw_s, upw_f (show (101 : Nat) ≠ 77 by decide)]
      rw [e101]
      refine V_puti (ci := 7) (C := R_M) (T := T_M) (N := 32) F dM_restore_304 (by first | rfl | assumption) rfl (j := 10) 10 rfl (by decide) rfl rfl rfl lfM_141 ?_
      refine V_aload_n (i := 0) F dM_restore_307 rfl rfl ?_
      refine V_aload_n (i := 0) F dM_restore_308 rfl rfl ?_
      refine V_getr (ci := 7) (C := R_M) (T := T_M) (N := 32) F dM_restore_309 (by first | rfl | assumption) rfl (j := 31) (by decide) rfl lfM_80 ?_
      refine V_iconst F dM_restore_312 (by decide) ?_
      first
        | refine V_sald F dM_restore_313 (by decide) (by omega) (stt_in _ _) ?_
        | refine V_iald F dM_restore_313 (by first | rfl | assumption) rfl (by omega) ?_
      try simp only [upw_s, upw_f (show (101 : Nat) ≠ 77 by decide)]
      rw [e101]
      refine V_puti (ci := 7) (C := R_M) (T := T_M) (N := 32) F dM_restore_314 (by first | rfl | assumption) rfl (j := 23) 23 rfl (by decide) rfl rfl rfl lfM_188 ?_
      refine V_aload_n (i := 0) F dM_restore_317 rfl rfl ?_
      refine V_aload_n (i := 0) F dM_restore_318 rfl rfl ?_
      refine V_getr (ci := 7) (C := R_M) (T := T_M) (N := 32) F dM_restore_319 (by first | rfl | assumption) rfl (j := 31) (by decide) rfl lfM_80 ?_
      refine V_iconst F dM_restore_322 (by decide) ?_
      first
        | refine V_sald F dM_restore_323 (by decide) (by omega) (stt_in _ _) ?_
        | refine V_iald F dM_restore_323 (by first | rfl | assumption) rfl (by omega) ?_
      try simp only [upw_s, upw_f (show (101 : Nat) ≠ 77 by decide)]
      rw [e101]
      refine V_puti (ci := 7) (C := R_M) (T := T_M) (N := 32) F dM_restore_324 (by first | rfl | assumption) rfl (j := 24) 24 rfl (by decide) rfl rfl rfl lfM_164 ?_
      refine V_aload_n (i := 0) F dM_restore_327 rfl rfl ?_
      refine V_aload_n (i := 0) F dM_restore_328 rfl rfl ?_
      refine V_getr (ci := 7) (C := R_M) (T := T_M) (N := 32) F dM_restore_329 (by first | rfl | assumption) rfl (j := 31) (by decide) rfl lfM_80 ?_
      refine V_iconst F dM_restore_332 (by decide) ?_
      first
        | refine V_sald F dM_restore_333 (by decide) (by omega) (stt_in _ _) ?_
        | refine V_iald F dM_restore_333 (by first | rfl | assumption) rfl (by omega) ?_
      try simp only [upw_s, upw_f (show (101 : Nat) ≠ 77 by decide)]
      rw [e101]
      refine V_puti (ci := 7) (C := R_M) (T := T_M) (N := 32) F dM_restore_334 (by first | rfl | assumption) rfl (j := 25) 25 rfl (by decide) rfl rfl rfl lfM_182 ?_
      refine V_aload_n (i := 0) F dM_restore_337 rfl rfl ?_
      refine V_callVv F dM_restore_338 lmM_200 miM_changed mvM_changed (ctM_changed (w := upw (upw (upw (upw (upw u 77 4 (w 101 0)) 77 10 (w 101 1)) 77 23 (w 101 2)) 77 24 (w 101 3)) 77 25 (w 101 4))) (by decide) (by first | rfl | assumption) rfl rfl (Nat.le_of_ble_eq_true rfl) (fun v hc => ?_)
      skip
      exact hR _ _ _ dM_restore_341 (by
                    have hi : i = 36 := by omega
                    subst hi
                    have hv : ∀ j, j ≠ 83 → j ≠ 77 → v j = u j := fun j a b => by rw [hc.1 j a, upw_f b, upw_f b, upw_f b, upw_f b, upw_f b]
                    have h77 := hc.1 77 (by decide)
                    refine ⟨fun j hj => by rw [hv j (by omega) (by omega)]; exact hI.1 j (by omega), ?_, rA_c (hv 78 (by decide) (by decide)) (hv 79 (by decide) (by decide)) hI.2.1, rB_c (hv 85 (by decide) (by decide)) hI.2.2.1, rC_c (fun j hj => hv j (fun e => by subst e; revert hj; decide) (fun e => by subst e; revert hj; decide)) hI.2.2.2.1, rD_c (hv 92 (by decide) (by decide)) hI.2.2.2.2, hc.2⟩
                    rw [h77, ← e77]
                    refine ⟨?_, ?_, ?_, ?_, ?_, ?_, ?_⟩ <;> (repeat (first | rw [upw_ne (by omega)] | rw [upw_eq (by omega) (by omega)])))
    · refine V_aload_n (i := 0) F dM_restore_266 rfl rfl ?_
      refine V_getr (ci := 7) (C := R_M) (T := T_M) (N := 32) F dM_restore_267 (by first | rfl | assumption) rfl (j := 18) (by decide) rfl lfM_53 ?_
      refine V_iload_n (i := 1) F dM_restore_270 rfl rfl ?_
      refine V_aload_n (i := 0) F dM_restore_271 rfl rfl ?_
      refine V_getr (ci := 7) (C := R_M) (T := T_M) (N := 32) F dM_restore_272 (by first | rfl | assumption) rfl (j := 29) (by decide) rfl lfM_74 ?_
      refine V_bipush F dM_restore_275 (by decide) ?_
      refine V_iload_n (i := 1) F dM_restore_277 rfl rfl ?_
      refine V_iadd F dM_restore_278 (by omega) ?_
      first
        | refine V_sald F dM_restore_279 (by decide) (by omega) (stt_in _ _) ?_
        | refine V_iald F dM_restore_279 (by first | rfl | assumption) rfl (by omega) ?_
      rw [e99]
      refine V_iast F dM_restore_280 (by first | rfl | assumption) rfl (by omega) ?_
      refine V_iinc F dM_restore_281 (by decide) rfl (by omega) (by simp only [List.set_cons_zero, List.set_cons_succ]; exact rfl) ?_
      refine V_goto F 260 dM_restore_284 (by decide) ?_
      refine ih (i + 1) _ (by omega) (by omega) (by omega) ⟨(fun j hj => by rw [upw_f (by omega)]; exact hI.1 j hj), rA_c (upw_f (by decide)) (upw_f (by decide)) hI.2.1, rB_c (upw_f (by decide)) hI.2.2.1, rC_c (fun j hj => upw_f (fun e => by subst e; revert hj; decide)) hI.2.2.2.1, fun k k1 k2 => ?_⟩
      by_cases e : k = i
      · rw [e, upw_s]
      · rw [upw_i e]; exact hI.2.2.2.2 k k1 (by omega)
theorem lpM_rest3 {G : vG} {X : vX} {Q : State → Prop} {w : RW} (h99 : ∀ t, 0 ≤ t → t < 6 → 0 ≤ w 99 (30 + t)) (F : FX G X cM_restore yM_restore.cls 2 1) (hR : RetV G X cM_restore 2 Q (fun u => rsM w u)) : ∀ (m : Nat) (i : Int) (u : RW), 6 - i < m → (0 ≤ i) → (i ≤ 6) → (rfr w u ∧ rA w u 288 ∧ rB w u 1800 ∧ rC w u i) → V G X 2 Q 68 [some (.inr 77), some (.inl i)] [] u := by
  intro m
  induction m with
  | zero => intro i u hm0 h1 h2 hI; omega
  | succ m ih =>
    intro i u hm0 h1 h2 hI
    have e99 := hI.1 99 (by decide)
    have e100 := hI.1 100 (by decide)
    refine V_iload_n (i := 1) F dM_restore_68 rfl rfl ?_
    refine V_bipush F dM_restore_69 (by decide) ?_
    refine V_icmp_ge F 258 dM_restore_71 (by decide) (fun h71 => ?_) (fun h71 => ?_)
    · refine V_iconst F dM_restore_258 (by decide) ?_
      refine V_istore_n (i := 1) F dM_restore_259 rfl (by decide) (by simp only [List.set_cons_zero, List.set_cons_succ]; exact rfl) ?_
      exact lpM_rest4 F hR 37 0 u (by omega) (by omega) (by omega) ⟨hI.1, hI.2.1, hI.2.2.1, by rw [show i = 6 by omega] at hI; exact hI.2.2.2, fun k k1 k2 => by omega⟩
    · have k9 := h99 i h1 (by omega)
      refine V_aload_n (i := 0) F dM_restore_74 rfl rfl ?_
      refine V_getr (ci := 7) (C := R_M) (T := T_M) (N := 32) F dM_restore_75 (by first | rfl | assumption) rfl (j := 12) (by decide) rfl lfM_35 ?_
      refine V_iload_n (i := 1) F dM_restore_78 rfl rfl ?_
      refine V_aload_n (i := 0) F dM_restore_79 rfl rfl ?_
      refine V_getr (ci := 7) (C := R_M) (T := T_M) (N := 32) F dM_restore_80 (by first | rfl | assumption) rfl (j := 29) (by decide) rfl lfM_74 ?_
      refine V_iload_n (i := 1) F dM_restore_83 rfl rfl ?_
      first
        | refine V_sald F dM_restore_84 (by decide) (by omega) (stt_in _ _) ?_
        | refine V_iald F dM_restore_84 (by first | rfl | assumption) rfl (by omega) ?_
      try simp only [upw_s, upw_f (show (99 : Nat) ≠ 86 by decide), upw_f (show (99 : Nat) ≠ 87 by decide), upw_f (show (99 : Nat) ≠ 88 by decide), upw_f (show (99 : Nat) ≠ 89 by decide), upw_f (show (99 : Nat) ≠ 90 by decide), upw_f (show (99 : Nat) ≠ 91 by decide), upw_f (show (99 : Nat) ≠ 93 by decide), upw_f (show (99 : Nat) ≠ 94 by decide), upw_f (show (99 : Nat) ≠ 80 by decide), upw_f (show (99 : Nat) ≠ 81 by decide), upw_f (show (99 : Nat) ≠ 82 by decide)]
      rw [e99]
      refine V_iast F dM_restore_85 (by first | rfl | assumption) rfl (by omega) ?_
      refine V_aload_n (i := 0) F dM_restore_86 rfl rfl ?_
      refine V_getr (ci := 7) (C := R_M) (T := T_M) (N := 32) F dM_restore_87 (by first | rfl | assumption) rfl (j := 13) (by decide) rfl lfM_38 ?_
      refine V_iload_n (i := 1) F dM_restore_90 rfl rfl ?_
      refine V_aload_n (i := 0) F dM_restore_91 rfl rfl ?_
      refine V_getr (ci := 7) (C := R_M) (T := T_M) (N := 32) F dM_restore_92 (by first | rfl | assumption) rfl (j := 29) (by decide) rfl lfM_74 ?_
      refine V_bipush F dM_restore_95 (by decide) ?_
      refine V_iload_n (i := 1) F dM_restore_97 rfl rfl ?_
      refine V_iadd F dM_restore_98 (by omega) ?_
      first
        | refine V_sald F dM_restore_99 (by decide) (by omega) (stt_in _ _) ?_
        | refine V_iald F dM_restore_99 (by first | rfl | assumption) rfl (by omega) ?_
      try simp only [upw_s, upw_f (show (99 : Nat) ≠ 86 by decide), upw_f (show (99 : Nat) ≠ 87 by decide), upw_f (show (99 : Nat) ≠ 88 by decide), upw_f (show (99 : Nat) ≠ 89 by decide), upw_f (show (99 : Nat) ≠ 90 by decide), upw_f (show (99 : Nat) ≠ 91 by decide), upw_f (show (99 : Nat) ≠ 93 by decide), upw_f (show (99 : Nat) ≠ 94 by decide), upw_f (show (99 : Nat) ≠ 80 by decide), upw_f (show (99 : Nat) ≠ 81 by decide), upw_f (show (99 : Nat) ≠ 82 by decide)]
      rw [e99]
      refine V_iast F dM_restore_100 (by first | rfl | assumption) rfl (by omega) ?_
      refine V_aload_n (i := 0) F dM_restore_101 rfl rfl ?_
      refine V_getr (ci := 7) (C := R_M) (T := T_M) (N := 32) F dM_restore_102 (by first | rfl | assumption) rfl (j := 14) (by decide) rfl lfM_41 ?_
      refine V_iload_n (i := 1) F dM_restore_105 rfl rfl ?_
      refine V_aload_n (i := 0) F dM_restore_106 rfl rfl ?_
      refine V_getr (ci := 7) (C := R_M) (T := T_M) (N := 32) F dM_restore_107 (by first | rfl | assumption) rfl (j := 29) (by decide) rfl lfM_74 ?_
      refine V_bipush F dM_restore_110 (by decide) ?_
      refine V_iload_n (i := 1) F dM_restore_112 rfl rfl ?_
      refine V_iadd F dM_restore_113 (by omega) ?_
      first
        | refine V_sald F dM_restore_114 (by decide) (by omega) (stt_in _ _) ?_
        | refine V_iald F dM_restore_114 (by first | rfl | assumption) rfl (by omega) ?_
      try simp only [upw_s, upw_f (show (99 : Nat) ≠ 86 by decide), upw_f (show (99 : Nat) ≠ 87 by decide), upw_f (show (99 : Nat) ≠ 88 by decide), upw_f (show (99 : Nat) ≠ 89 by decide), upw_f (show (99 : Nat) ≠ 90 by decide), upw_f (show (99 : Nat) ≠ 91 by decide), upw_f (show (99 : Nat) ≠ 93 by decide), upw_f (show (99 : Nat) ≠ 94 by decide), upw_f (show (99 : Nat) ≠ 80 by decide), upw_f (show (99 : Nat) ≠ 81 by decide), upw_f (show (99 : Nat) ≠ 82 by decide)]
      rw [e99]
      refine V_iast F dM_restore_115 (by first | rfl | assumption) rfl (by omega) ?_
      refine V_aload_n (i := 0) F dM_restore_116 rfl rfl ?_
      refine V_getr (ci := 7) (C := R_M) (T := T_M) (N := 32) F dM_restore_117 (by first | rfl | assumption) rfl (j := 15) (by decide) rfl lfM_44 ?_
      refine V_iload_n (i := 1) F dM_restore_120 rfl rfl ?_
      refine V_aload_n (i := 0) F dM_restore_121 rfl rfl ?_
      refine V_getr (ci := 7) (C := R_M) (T := T_M) (N := 32) F dM_restore_122 (by first | rfl | assumption) rfl (j := 29) (by decide) rfl lfM_74 ?_
      refine V_bipush F dM_restore_125 (by decide) ?_
      refine V_iload_n (i := 1) F dM_restore_127 rfl rfl ?_
      refine V_iadd F dM_restore_128 (by omega) ?_
      first
        | refine V_sald F dM_restore_129 (by decide) (by omega) (stt_in _ _) ?_
        | refine V_iald F dM_restore_129 (by first | rfl | assumption) rfl (by omega) ?_
      try simp only [upw_s, upw_f (show (99 : Nat) ≠ 86 by decide), upw_f (show (99 : Nat) ≠ 87 by decide), upw_f (show (99 : Nat) ≠ 88 by decide), upw_f (show (99 : Nat) ≠ 89 by decide), upw_f (show (99 : Nat) ≠ 90 by decide), upw_f (show (99 : Nat) ≠ 91 by decide), upw_f (show (99 : Nat) ≠ 93 by decide), upw_f (show (99 : Nat) ≠ 94 by decide), upw_f (show (99 : Nat) ≠ 80 by decide), upw_f (show (99 : Nat) ≠ 81 by decide), upw_f (show (99 : Nat) ≠ 82 by decide)]
      rw [e99]
      refine V_iast F dM_restore_130 (by first | rfl | assumption) rfl (by omega) ?_
      refine V_aload_n (i := 0) F dM_restore_131 rfl rfl ?_
      refine V_getr (ci := 7) (C := R_M) (T := T_M) (N := 32) F dM_restore_132 (by first | rfl | assumption) rfl (j := 16) (by decide) rfl lfM_47 ?_
      refine V_iload_n (i := 1) F dM_restore_135 rfl rfl ?_
      refine V_aload_n (i := 0) F dM_restore_136 rfl rfl ?_
      refine V_getr (ci := 7) (C := R_M) (T := T_M) (N := 32) F dM_restore_137 (by first | rfl | assumption) rfl (j := 29) (by decide) rfl lfM_74 ?_
      refine V_bipush F dM_restore_140 (by decide) ?_
      refine V_iload_n (i := 1) F dM_restore_142 rfl rfl ?_
      refine V_iadd F dM_restore_143 (by omega) ?_
      first
        | refine V_sald F dM_restore_144 (by decide) (by omega) (stt_in _ _) ?_
        | refine V_iald F dM_restore_144 (by first | rfl | assumption) rfl (by omega) ?_
      try simp only [upw_s, upw_f (show (99 : Nat) ≠ 86 by decide), upw_f (show (99 : Nat) ≠ 87 by decide), upw_f (show (99 : Nat) ≠ 88 by decide), upw_f (show (99 : Nat) ≠ 89 by decide), upw_f (show (99 : Nat) ≠ 90 by decide), upw_f (show (99 : Nat) ≠ 91 by decide), upw_f (show (99 : Nat) ≠ 93 by decide), upw_f (show (99 : Nat) ≠ 94 by decide), upw_f (show (99 : Nat) ≠ 80 by decide), upw_f (show (99 : Nat) ≠ 81 by decide), upw_f (show (99 : Nat) ≠ 82 by decide)]
      rw [e99]
      refine V_iast F dM_restore_145 (by first | rfl | assumption) rfl (by omega) ?_
      refine V_aload_n (i := 0) F dM_restore_146 rfl rfl ?_
      refine V_getr (ci := 7) (C := R_M) (T := T_M) (N := 32) F dM_restore_147 (by first | rfl | assumption) rfl (j := 19) (by decide) rfl lfM_56 ?_
      refine V_iload_n (i := 1) F dM_restore_150 rfl rfl ?_
      refine V_aload_n (i := 0) F dM_restore_151 rfl rfl ?_
      refine V_getr (ci := 7) (C := R_M) (T := T_M) (N := 32) F dM_restore_152 (by first | rfl | assumption) rfl (j := 29) (by decide) rfl lfM_74 ?_
      refine V_bipush F dM_restore_155 (by decide) ?_
      refine V_iload_n (i := 1) F dM_restore_157 rfl rfl ?_
      refine V_iadd F dM_restore_158 (by omega) ?_
      first
        | refine V_sald F dM_restore_159 (by decide) (by omega) (stt_in _ _) ?_
        | refine V_iald F dM_restore_159 (by first | rfl | assumption) rfl (by omega) ?_
      try simp only [upw_s, upw_f (show (99 : Nat) ≠ 86 by decide), upw_f (show (99 : Nat) ≠ 87 by decide), upw_f (show (99 : Nat) ≠ 88 by decide), upw_f (show (99 : Nat) ≠ 89 by decide), upw_f (show (99 : Nat) ≠ 90 by decide), upw_f (show (99 : Nat) ≠ 91 by decide), upw_f (show (99 : Nat) ≠ 93 by decide), upw_f (show (99 : Nat) ≠ 94 by decide), upw_f (show (99 : Nat) ≠ 80 by decide), upw_f (show (99 : Nat) ≠ 81 by decide), upw_f (show (99 : Nat) ≠ 82 by decide)]
      rw [e99]
      refine V_bipush F dM_restore_160 (by decide) ?_
      refine V_irem F dM_restore_162 (by omega) ?_
      refine V_iast F dM_restore_163 (by first | rfl | assumption) rfl (by omega) ?_
      refine V_aload_n (i := 0) F dM_restore_164 rfl rfl ?_
      refine V_getr (ci := 7) (C := R_M) (T := T_M) (N := 32) F dM_restore_165 (by first | rfl | assumption) rfl (j := 20) (by decide) rfl lfM_59 ?_
      refine V_iload_n (i := 1) F dM_restore_168 rfl rfl ?_
      refine V_aload_n (i := 0) F dM_restore_169 rfl rfl ?_
      refine V_getr (ci := 7) (C := R_M) (T := T_M) (N := 32) F dM_restore_170 (by first | rfl | assumption) rfl (j := 29) (by decide) rfl lfM_74 ?_
      refine V_bipush F dM_restore_173 (by decide) ?_
      refine V_iload_n (i := 1) F dM_restore_175 rfl rfl ?_
      refine V_iadd F dM_restore_176 (by omega) ?_
      first
        | refine V_sald F dM_restore_177 (by decide) (by omega) (stt_in _ _) ?_
        | refine V_iald F dM_restore_177 (by first | rfl | assumption) rfl (by omega) ?_
      try simp only [upw_s, upw_f (show (99 : Nat) ≠ 86 by decide), upw_f (show (99 : Nat) ≠ 87 by decide), upw_f (show (99 : Nat) ≠ 88 by decide), upw_f (show (99 : Nat) ≠ 89 by decide), upw_f (show (99 : Nat) ≠ 90 by decide), upw_f (show (99 : Nat) ≠ 91 by decide), upw_f (show (99 : Nat) ≠ 93 by decide), upw_f (show (99 : Nat) ≠ 94 by decide), upw_f (show (99 : Nat) ≠ 80 by decide), upw_f (show (99 : Nat) ≠ 81 by decide), upw_f (show (99 : Nat) ≠ 82 by decide)]
      rw [e99]
      refine V_bipush F dM_restore_178 (by decide) ?_
      refine V_idiv F dM_restore_180 (by omega) ?_
      refine V_bipush F dM_restore_181 (by decide) ?_
      refine V_irem F dM_restore_183 (by omega) ?_
      refine V_iast F dM_restore_184 (by first | rfl | assumption) rfl (by omega) ?_
      refine V_aload_n (i := 0) F dM_restore_185 rfl rfl ?_
      refine V_getr (ci := 7) (C := R_M) (T := T_M) (N := 32) F dM_restore_186 (by first | rfl | assumption) rfl (j := 17) (by decide) rfl lfM_50 ?_
      refine V_iload_n (i := 1) F dM_restore_189 rfl rfl ?_
      refine V_aload_n (i := 0) F dM_restore_190 rfl rfl ?_
      refine V_getr (ci := 7) (C := R_M) (T := T_M) (N := 32) F dM_restore_191 (by first | rfl | assumption) rfl (j := 29) (by decide) rfl lfM_74 ?_
      refine V_bipush F dM_restore_194 (by decide) ?_
      refine V_iload_n (i := 1) F dM_restore_196 rfl rfl ?_
      refine V_iadd F dM_restore_197 (by omega) ?_
      first
        | refine V_sald F dM_restore_198 (by decide) (by omega) (stt_in _ _) ?_
        | refine V_iald F dM_restore_198 (by first | rfl | assumption) rfl (by omega) ?_
      try simp only [upw_s, upw_f (show (99 : Nat) ≠ 86 by decide), upw_f (show (99 : Nat) ≠ 87 by decide), upw_f (show (99 : Nat) ≠ 88 by decide), upw_f (show (99 : Nat) ≠ 89 by decide), upw_f (show (99 : Nat) ≠ 90 by decide), upw_f (show (99 : Nat) ≠ 91 by decide), upw_f (show (99 : Nat) ≠ 93 by decide), upw_f (show (99 : Nat) ≠ 94 by decide), upw_f (show (99 : Nat) ≠ 80 by decide), upw_f (show (99 : Nat) ≠ 81 by decide), upw_f (show (99 : Nat) ≠ 82 by decide)]
      rw [e99]
      refine V_bipush F dM_restore_199 (by decide) ?_
      refine V_icmp_lt F 208 dM_restore_201 (by decide) (fun h201 => ?_) (fun h201 => ?_)
      · refine V_iconst F dM_restore_208 (by decide) ?_
        refine V_zast F dM_restore_209 (by first | rfl | assumption) rfl (by omega) (by first | exact Or.inl rfl | exact Or.inr rfl | exact bz_01 _ | assumption) ?_
        refine V_aload_n (i := 0) F dM_restore_210 rfl rfl ?_
        refine V_getr (ci := 7) (C := R_M) (T := T_M) (N := 32) F dM_restore_211 (by first | rfl | assumption) rfl (j := 5) (by decide) rfl lfM_17 ?_
        refine V_iload_n (i := 1) F dM_restore_214 rfl rfl ?_
        refine V_aload_n (i := 0) F dM_restore_215 rfl rfl ?_
        refine V_getr (ci := 7) (C := R_M) (T := T_M) (N := 32) F dM_restore_216 (by first | rfl | assumption) rfl (j := 30) (by decide) rfl lfM_77 ?_
        refine V_iload_n (i := 1) F dM_restore_219 rfl rfl ?_
        first
          | refine V_sald F dM_restore_220 (by decide) (by omega) (stt_in _ _) ?_
          | refine V_iald F dM_restore_220 (by first | rfl | assumption) rfl (by omega) ?_
        try simp only [upw_s, upw_f (show (100 : Nat) ≠ 86 by decide), upw_f (show (100 : Nat) ≠ 87 by decide), upw_f (show (100 : Nat) ≠ 88 by decide), upw_f (show (100 : Nat) ≠ 89 by decide), upw_f (show (100 : Nat) ≠ 90 by decide), upw_f (show (100 : Nat) ≠ 91 by decide), upw_f (show (100 : Nat) ≠ 93 by decide), upw_f (show (100 : Nat) ≠ 94 by decide), upw_f (show (100 : Nat) ≠ 80 by decide), upw_f (show (100 : Nat) ≠ 81 by decide), upw_f (show (100 : Nat) ≠ 82 by decide)]
        rw [e100]
        refine V_iast F dM_restore_221 (by first | rfl | assumption) rfl (by omega) ?_
        refine V_aload_n (i := 0) F dM_restore_222 rfl rfl ?_
        refine V_getr (ci := 7) (C := R_M) (T := T_M) (N := 32) F dM_restore_223 (by first | rfl | assumption) rfl (j := 6) (by decide) rfl lfM_20 ?_
        refine V_iload_n (i := 1) F dM_restore_226 rfl rfl ?_
        refine V_aload_n (i := 0) F dM_restore_227 rfl rfl ?_
        refine V_getr (ci := 7) (C := R_M) (T := T_M) (N := 32) F dM_restore_228 (by first | rfl | assumption) rfl (j := 30) (by decide) rfl lfM_77 ?_
        refine V_bipush F dM_restore_231 (by decide) ?_
        refine V_iload_n (i := 1) F dM_restore_233 rfl rfl ?_
        refine V_iadd F dM_restore_234 (by omega) ?_
        first
          | refine V_sald F dM_restore_235 (by decide) (by omega) (stt_in _ _) ?_
          | refine V_iald F dM_restore_235 (by first | rfl | assumption) rfl (by omega) ?_
        try simp only [upw_s, upw_f (show (100 : Nat) ≠ 86 by decide), upw_f (show (100 : Nat) ≠ 87 by decide), upw_f (show (100 : Nat) ≠ 88 by decide), upw_f (show (100 : Nat) ≠ 89 by decide), upw_f (show (100 : Nat) ≠ 90 by decide), upw_f (show (100 : Nat) ≠ 91 by decide), upw_f (show (100 : Nat) ≠ 93 by decide), upw_f (show (100 : Nat) ≠ 94 by decide), upw_f (show (100 : Nat) ≠ 80 by decide), upw_f (show (100 : Nat) ≠ 81 by decide), upw_f (show (100 : Nat) ≠ 82 by decide)]
        rw [e100]
        refine V_iast F dM_restore_236 (by first | rfl | assumption) rfl (by omega) ?_
        refine V_aload_n (i := 0) F dM_restore_237 rfl rfl ?_
        refine V_getr (ci := 7) (C := R_M) (T := T_M) (N := 32) F dM_restore_238 (by first | rfl | assumption) rfl (j := 7) (by decide) rfl lfM_23 ?_
        refine V_iload_n (i := 1) F dM_restore_241 rfl rfl ?_
        refine V_aload_n (i := 0) F dM_restore_242 rfl rfl ?_
        refine V_getr (ci := 7) (C := R_M) (T := T_M) (N := 32) F dM_restore_243 (by first | rfl | assumption) rfl (j := 30) (by decide) rfl lfM_77 ?_
        refine V_bipush F dM_restore_246 (by decide) ?_
        refine V_iload_n (i := 1) F dM_restore_248 rfl rfl ?_
        refine V_iadd F dM_restore_249 (by omega) ?_
        first
          | refine V_sald F dM_restore_250 (by decide) (by omega) (stt_in _ _) ?_
          | refine V_iald F dM_restore_250 (by first | rfl | assumption) rfl (by omega) ?_
        try simp only [upw_s, upw_f (show (100 : Nat) ≠ 86 by decide), upw_f (show (100 : Nat) ≠ 87 by decide), upw_f (show (100 : Nat) ≠ 88 by decide), upw_f (show (100 : Nat) ≠ 89 by decide), upw_f (show (100 : Nat) ≠ 90 by decide), upw_f (show (100 : Nat) ≠ 91 by decide), upw_f (show (100 : Nat) ≠ 93 by decide), upw_f (show (100 : Nat) ≠ 94 by decide), upw_f (show (100 : Nat) ≠ 80 by decide), upw_f (show (100 : Nat) ≠ 81 by decide), upw_f (show (100 : Nat) ≠ 82 by decide)]
        rw [e100]
        refine V_iast F dM_restore_251 (by first | rfl | assumption) rfl (by omega) ?_
        refine V_iinc F dM_restore_252 (by decide) rfl (by omega) (by simp only [List.set_cons_zero, List.set_cons_succ]; exact rfl) ?_
        refine V_goto F 68 dM_restore_255 (by decide) ?_
        refine ih (i + 1) _ (by omega) (by omega) (by omega) ⟨(fun j hj => by rw [upw_f (by omega), upw_f (by omega), upw_f (by omega), upw_f (by omega), upw_f (by omega), upw_f (by omega), upw_f (by omega), upw_f (by omega), upw_f (by omega), upw_f (by omega), upw_f (by omega)]; exact hI.1 j hj), rA_c ?_ ?_ hI.2.1, rB_c ?_ hI.2.2.1, fun k k1 k2 => ?_⟩
        · repeat rw [upw_f (by decide)]
        · repeat rw [upw_f (by decide)]
        · repeat rw [upw_f (by decide)]
        · by_cases e : k = i
          · subst e
            refine ⟨⟨?_, ?_, ?_, ?_, ?_, ?_, ?_, ?_⟩, ?_, ?_, ?_⟩ <;> (repeat (first | rw [upw_ne (by omega)] | rw [upw_eq (by omega) (by omega)]))
            first | rw [if_pos (by omega)] | rw [if_neg (by omega)]
          · have hh := hI.2.2.2 k k1 (by omega)
            obtain ⟨⟨a1, a2, a3, a4, a5, a6, a7, a8⟩, b1, b2, b3⟩ := hh
            refine ⟨⟨?_, ?_, ?_, ?_, ?_, ?_, ?_, ?_⟩, ?_, ?_, ?_⟩
            · (repeat (first | rw [upw_ne (by omega)] | rw [upw_eq (by omega) (by omega)])); exact a1
            · (repeat (first | rw [upw_ne (by omega)] | rw [upw_eq (by omega) (by omega)])); exact a2
            · (repeat (first | rw [upw_ne (by omega)] | rw [upw_eq (by omega) (by omega)])); exact a3
            · (repeat (first | rw [upw_ne (by omega)] | rw [upw_eq (by omega) (by omega)])); exact a4
            · (repeat (first | rw [upw_ne (by omega)] | rw [upw_eq (by omega) (by omega)])); exact a5
            · (repeat (first | rw [upw_ne (by omega)] | rw [upw_eq (by omega) (by omega)])); exact a6
            · (repeat (first | rw [upw_ne (by omega)] | rw [upw_eq (by omega) (by omega)])); exact a7
            · (repeat (first | rw [upw_ne (by omega)] | rw [upw_eq (by omega) (by omega)])); exact a8
            · (repeat (first | rw [upw_ne (by omega)] | rw [upw_eq (by omega) (by omega)])); exact b1
            · (repeat (first | rw [upw_ne (by omega)] | rw [upw_eq (by omega) (by omega)])); exact b2
            · (repeat (first | rw [upw_ne (by omega)] | rw [upw_eq (by omega) (by omega)])); exact b3
      · refine V_iconst F dM_restore_204 (by decide) ?_
        refine V_goto F 209 dM_restore_205 (by decide) ?_
        refine V_zast F dM_restore_209 (by first | rfl | assumption) rfl (by omega) (by first | exact Or.inl rfl | exact Or.inr rfl | exact bz_01 _ | assumption) ?_
        refine V_aload_n (i := 0) F dM_restore_210 rfl rfl ?_
        refine V_getr (ci := 7) (C := R_M) (T := T_M) (N := 32) F dM_restore_211 (by first | rfl | assumption) rfl (j := 5) (by decide) rfl lfM_17 ?_
        refine V_iload_n (i := 1) F dM_restore_214 rfl rfl ?_
        refine V_aload_n (i := 0) F dM_restore_215 rfl rfl ?_
        refine V_getr (ci := 7) (C := R_M) (T := T_M) (N := 32) F dM_restore_216 (by first | rfl | assumption) rfl (j := 30) (by decide) rfl lfM_77 ?_
        refine V_iload_n (i := 1) F dM_restore_219 rfl rfl ?_
        first
          | refine V_sald F dM_restore_220 (by decide) (by omega) (stt_in _ _) ?_
          | refine V_iald F dM_restore_220 (by first | rfl | assumption) rfl (by omega) ?_
        try simp only [upw_s, upw_f (show (100 : Nat) ≠ 86 by decide), upw_f (show (100 : Nat) ≠ 87 by decide), upw_f (show (100 : Nat) ≠ 88 by decide), upw_f (show (100 : Nat) ≠ 89 by decide), upw_f (show (100 : Nat) ≠ 90 by decide), upw_f (show (100 : Nat) ≠ 91 by decide), upw_f (show (100 : Nat) ≠ 93 by decide), upw_f (show (100 : Nat) ≠ 94 by decide), upw_f (show (100 : Nat) ≠ 80 by decide), upw_f (show (100 : Nat) ≠ 81 by decide), upw_f (show (100 : Nat) ≠ 82 by decide)]
        rw [e100]
        refine V_iast F dM_restore_221 (by first | rfl | assumption) rfl (by omega) ?_
        refine V_aload_n (i := 0) F dM_restore_222 rfl rfl ?_
        refine V_getr (ci := 7) (C := R_M) (T := T_M) (N := 32) F dM_restore_223 (by first | rfl | assumption) rfl (j := 6) (by decide) rfl lfM_20 ?_
        refine V_iload_n (i := 1) F dM_restore_226 rfl rfl ?_
        refine V_aload_n (i := 0) F dM_restore_227 rfl rfl ?_
        refine V_getr (ci := 7) (C := R_M) (T := T_M) (N := 32) F dM_restore_228 (by first | rfl | assumption) rfl (j := 30) (by decide) rfl lfM_77 ?_
        refine V_bipush F dM_restore_231 (by decide) ?_
        refine V_iload_n (i := 1) F dM_restore_233 rfl rfl ?_
        refine V_iadd F dM_restore_234 (by omega) ?_
        first
          | refine V_sald F dM_restore_235 (by decide) (by omega) (stt_in _ _) ?_
          | refine V_iald F dM_restore_235 (by first | rfl | assumption) rfl (by omega) ?_
        try simp only [upw_s, upw_f (show (100 : Nat) ≠ 86 by decide), upw_f (show (100 : Nat) ≠ 87 by decide), upw_f (show (100 : Nat) ≠ 88 by decide), upw_f (show (100 : Nat) ≠ 89 by decide), upw_f (show (100 : Nat) ≠ 90 by decide), upw_f (show (100 : Nat) ≠ 91 by decide), upw_f (show (100 : Nat) ≠ 93 by decide), upw_f (show (100 : Nat) ≠ 94 by decide), upw_f (show (100 : Nat) ≠ 80 by decide), upw_f (show (100 : Nat) ≠ 81 by decide), upw_f (show (100 : Nat) ≠ 82 by decide)]
        rw [e100]
        refine V_iast F dM_restore_236 (by first | rfl | assumption) rfl (by omega) ?_
        refine V_aload_n (i := 0) F dM_restore_237 rfl rfl ?_
        refine V_getr (ci := 7) (C := R_M) (T := T_M) (N := 32) F dM_restore_238 (by first | rfl | assumption) rfl (j := 7) (by decide) rfl lfM_23 ?_
        refine V_iload_n (i := 1) F dM_restore_241 rfl rfl ?_
        refine V_aload_n (i := 0) F dM_restore_242 rfl rfl ?_
        refine V_getr (ci := 7) (C := R_M) (T := T_M) (N := 32) F dM_restore_243 (by first | rfl | assumption) rfl (j := 30) (by decide) rfl lfM_77 ?_
        refine V_bipush F dM_restore_246 (by decide) ?_
        refine V_iload_n (i := 1) F dM_restore_248 rfl rfl ?_
        refine V_iadd F dM_restore_249 (by omega) ?_
        first
          | refine V_sald F dM_restore_250 (by decide) (by omega) (stt_in _ _) ?_
          | refine V_iald F dM_restore_250 (by first | rfl | assumption) rfl (by omega) ?_
        try simp only [upw_s, upw_f (show (100 : Nat) ≠ 86 by decide), upw_f (show (100 : Nat) ≠ 87 by decide), upw_f (show (100 : Nat) ≠ 88 by decide), upw_f (show (100 : Nat) ≠ 89 by decide), upw_f (show (100 : Nat) ≠ 90 by decide), upw_f (show (100 : Nat) ≠ 91 by decide), upw_f (show (100 : Nat) ≠ 93 by decide), upw_f (show (100 : Nat) ≠ 94 by decide), upw_f (show (100 : Nat) ≠ 80 by decide), upw_f (show (100 : Nat) ≠ 81 by decide), upw_f (show (100 : Nat) ≠ 82 by decide)]
        rw [e100]
        refine V_iast F dM_restore_251 (by first | rfl | assumption) rfl (by omega) ?_
        refine V_iinc F dM_restore_252 (by decide) rfl (by omega) (by simp only [List.set_cons_zero, List.set_cons_succ]; exact rfl) ?_
        refine V_goto F 68 dM_restore_255 (by decide) ?_
        refine ih (i + 1) _ (by omega) (by omega) (by omega) ⟨(fun j hj => by rw [upw_f (by omega), upw_f (by omega), upw_f (by omega), upw_f (by omega), upw_f (by omega), upw_f (by omega), upw_f (by omega), upw_f (by omega), upw_f (by omega), upw_f (by omega), upw_f (by omega)]; exact hI.1 j hj), rA_c ?_ ?_ hI.2.1, rB_c ?_ hI.2.2.1, fun k k1 k2 => ?_⟩
        · repeat rw [upw_f (by decide)]
        · repeat rw [upw_f (by decide)]
        · repeat rw [upw_f (by decide)]
        · by_cases e : k = i
          · subst e
            refine ⟨⟨?_, ?_, ?_, ?_, ?_, ?_, ?_, ?_⟩, ?_, ?_, ?_⟩ <;> (repeat (first | rw [upw_ne (by omega)] | rw [upw_eq (by omega) (by omega)]))
            first | rw [if_pos (by omega)] | rw [if_neg (by omega)]
          · have hh := hI.2.2.2 k k1 (by omega)
            obtain ⟨⟨a1, a2, a3, a4, a5, a6, a7, a8⟩, b1, b2, b3⟩ := hh
            refine ⟨⟨?_, ?_, ?_, ?_, ?_, ?_, ?_, ?_⟩, ?_, ?_, ?_⟩
            · (repeat (first | rw [upw_ne (by omega)] | rw [upw_eq (by omega) (by omega)])); exact a1
            · (repeat (first | rw [upw_ne (by omega)] | rw [upw_eq (by omega) (by omega)])); exact a2
            · (repeat (first | rw [upw_ne (by omega)] | rw [upw_eq (by omega) (by omega)])); exact a3
            · (repeat (first | rw [upw_ne (by omega)] | rw [upw_eq (by omega) (by omega)])); exact a4
            · (repeat (first | rw [upw_ne (by omega)] | rw [upw_eq (by omega) (by omega)])); exact a5
            · (repeat (first | rw [upw_ne (by omega)] | rw [upw_eq (by omega) (by omega)])); exact a6
            · (repeat (first | rw [upw_ne (by omega)] | rw [upw_eq (by omega) (by omega)])); exact a7
            · (repeat (first | rw [upw_ne (by omega)] | rw [upw_eq (by omega) (by omega)])); exact a8
            · (repeat (first | rw [upw_ne (by omega)] | rw [upw_eq (by omega) (by omega)])); exact b1
            · (repeat (first | rw [upw_ne (by omega)] | rw [upw_eq (by omega) (by omega)])); exact b2
            · (repeat (first | rw [upw_ne (by omega)] | rw [upw_eq (by omega) (by omega)])); exact b3
theorem lpM_rest2 {G : vG} {X : vX} {Q : State → Prop} {w : RW} (h99 : ∀ t, 0 ≤ t → t < 6 → 0 ≤ w 99 (30 + t)) (F : FX G X cM_restore yM_restore.cls 2 1) (hR : RetV G X cM_restore 2 Q (fun u => rsM w u)) : ∀ (m : Nat) (i : Int) (u : RW), 1800 - i < m → (0 ≤ i) → (i ≤ 1800) → (rfr w u ∧ rA w u 288 ∧ rB w u i) → V G X 2 Q 41 [some (.inr 77), some (.inl i)] [] u := by
  intro m
  induction m with
  | zero => intro i u hm0 h1 h2 hI; omega
  | succ m ih =>
    intro i u hm0 h1 h2 hI
    have e98 := hI.1 98 (by decide)
    refine V_iload_n (i := 1) F dM_restore_41 rfl rfl ?_
    refine V_sipush F dM_restore_42 (by decide) ?_
    refine V_icmp_ge F 66 dM_restore_45 (by decide) (fun h45 => ?_) (fun h45 => ?_)
    · refine V_iconst F dM_restore_66 (by decide) ?_
      refine V_istore_n (i := 1) F dM_restore_67 rfl (by decide) (by simp only [List.set_cons_zero, List.set_cons_succ]; exact rfl) ?_
      exact lpM_rest3 h99 F hR 7 0 u (by omega) (by omega) (by omega) ⟨hI.1, hI.2.1, by rw [show i = 1800 by omega] at hI; exact hI.2.2, fun k k1 k2 => by omega⟩
    · refine V_aload_n (i := 0) F dM_restore_48 rfl rfl ?_
      refine V_getr (ci := 7) (C := R_M) (T := T_M) (N := 32) F dM_restore_49 (by first | rfl | assumption) rfl (j := 11) (by decide) rfl lfM_32 ?_
      refine V_iload_n (i := 1) F dM_restore_52 rfl rfl ?_
      refine V_aload_n (i := 0) F dM_restore_53 rfl rfl ?_
      refine V_getr (ci := 7) (C := R_M) (T := T_M) (N := 32) F dM_restore_54 (by first | rfl | assumption) rfl (j := 28) (by decide) rfl lfM_71 ?_
      refine V_iload_n (i := 1) F dM_restore_57 rfl rfl ?_
      first
        | refine V_sald F dM_restore_58 (by decide) (by omega) (stt_in _ _) ?_
        | refine V_iald F dM_restore_58 (by first | rfl | assumption) rfl (by omega) ?_
      rw [e98]
      refine V_iast F dM_restore_59 (by first | rfl | assumption) rfl (by omega) ?_
      refine V_iinc F dM_restore_60 (by decide) rfl (by omega) (by simp only [List.set_cons_zero, List.set_cons_succ]; exact rfl) ?_
      refine V_goto F 41 dM_restore_63 (by decide) ?_
      refine ih (i + 1) _ (by omega) (by omega) (by omega) ⟨(fun j hj => by rw [upw_f (by omega)]; exact hI.1 j hj), rA_c (upw_f (by decide)) (upw_f (by decide)) hI.2.1, fun k k1 k2 => ?_⟩
      by_cases e : k = i
      · rw [e, upw_s]
      · rw [upw_i e]; exact hI.2.2 k k1 (by omega)
theorem lpM_rest1 {G : vG} {X : vX} {Q : State → Prop} {w : RW} (h96 : ∀ i, 0 ≤ i → i < 288 → w 96 i = 0 ∨ w 96 i = 1) (h99 : ∀ t, 0 ≤ t → t < 6 → 0 ≤ w 99 (30 + t)) (F : FX G X cM_restore yM_restore.cls 2 1) (hR : RetV G X cM_restore 2 Q (fun u => rsM w u)) : ∀ (m : Nat) (i : Int) (u : RW), 288 - i < m → (0 ≤ i) → (i ≤ 288) → (rfr w u ∧ rA w u i) → V G X 2 Q 2 [some (.inr 77), some (.inl i)] [] u := by
  intro m
  induction m with
  | zero => intro i u hm0 h1 h2 hI; omega
  | succ m ih =>
    intro i u hm0 h1 h2 hI
    have e96 := hI.1 96 (by decide)
    have e97 := hI.1 97 (by decide)
    refine V_iload_n (i := 1) F dM_restore_2 rfl rfl ?_
    refine V_sipush F dM_restore_3 (by decide) ?_
    refine V_icmp_ge F 39 dM_restore_6 (by decide) (fun h6 => ?_) (fun h6 => ?_)
    · refine V_iconst F dM_restore_39 (by decide) ?_
      refine V_istore_n (i := 1) F dM_restore_40 rfl (by decide) (by simp only [List.set_cons_zero, List.set_cons_succ]; exact rfl) ?_
      exact lpM_rest2 h99 F hR 1801 0 u (by omega) (by omega) (by omega) ⟨hI.1, by rw [show i = 288 by omega] at hI; exact hI.2, fun k k1 k2 => by omega⟩
    · refine V_aload_n (i := 0) F dM_restore_9 rfl rfl ?_
      refine V_getr (ci := 7) (C := R_M) (T := T_M) (N := 32) F dM_restore_10 (by first | rfl | assumption) rfl (j := 2) (by decide) rfl lfM_7 ?_
      refine V_iload_n (i := 1) F dM_restore_13 rfl rfl ?_
      refine V_aload_n (i := 0) F dM_restore_14 rfl rfl ?_
      refine V_getr (ci := 7) (C := R_M) (T := T_M) (N := 32) F dM_restore_15 (by first | rfl | assumption) rfl (j := 26) (by decide) rfl lfM_65 ?_
      refine V_iload_n (i := 1) F dM_restore_18 rfl rfl ?_
      refine V_zald F dM_restore_19 (by first | rfl | assumption) rfl (by omega) ?_
      rw [e96]
      have hz := h96 i h1 (by omega)
      refine V_zast F dM_restore_20 (by first | rfl | assumption) rfl (by omega) (by first | exact Or.inl rfl | exact Or.inr rfl | exact bz_01 _ | assumption) ?_
      refine V_aload_n (i := 0) F dM_restore_21 rfl rfl ?_
      refine V_getr (ci := 7) (C := R_M) (T := T_M) (N := 32) F dM_restore_22 (by first | rfl | assumption) rfl (j := 3) (by decide) rfl lfM_13 ?_
      refine V_iload_n (i := 1) F dM_restore_25 rfl rfl ?_
      refine V_aload_n (i := 0) F dM_restore_26 rfl rfl ?_
      refine V_getr (ci := 7) (C := R_M) (T := T_M) (N := 32) F dM_restore_27 (by first | rfl | assumption) rfl (j := 27) (by decide) rfl lfM_68 ?_
      refine V_iload_n (i := 1) F dM_restore_30 rfl rfl ?_
      first
        | refine V_sald F dM_restore_31 (by decide) (by omega) (stt_in _ _) ?_
        | refine V_iald F dM_restore_31 (by first | rfl | assumption) rfl (by omega) ?_
      try simp only [upw_s, upw_f (show (97 : Nat) ≠ 78 by decide)]
      rw [e97]
      refine V_iast F dM_restore_32 (by first | rfl | assumption) rfl (by omega) ?_
      refine V_iinc F dM_restore_33 (by decide) rfl (by omega) (by simp only [List.set_cons_zero, List.set_cons_succ]; exact rfl) ?_
      refine V_goto F 2 dM_restore_36 (by decide) ?_
      refine ih (i + 1) _ (by omega) (by omega) (by omega) ⟨(fun j hj => by rw [upw_f (by omega), upw_f (by omega)]; exact hI.1 j hj), fun k k1 k2 => ?_⟩
      by_cases e : k = i
      · subst e
        refine ⟨?_, ?_⟩ <;> (repeat (first | rw [upw_ne (by omega)] | rw [upw_eq (by omega) (by omega)]))
      · have hh := hI.2 k k1 (by omega)
        refine ⟨?_, ?_⟩
        · (repeat (first | rw [upw_ne (by omega)] | rw [upw_eq (by omega) (by omega)])); exact hh.1
        · (repeat (first | rw [upw_ne (by omega)] | rw [upw_eq (by omega) (by omega)])); exact hh.2
theorem ctM_restore {G : vG} {l : Launch} {w : RW} (h96 : ∀ i, 0 ≤ i → i < 288 → w 96 i = 0 ∨ w 96 i = 1) (h99 : ∀ t, 0 ≤ t → t < 6 → 0 ≤ w 99 (30 + t)) : CTv G l yM_restore cM_restore 2 1 [.inr 77] w (fun u => rsM w u) := by
  refine CTv.intro (by decide) (Nat.le_of_ble_eq_true rfl) ?_
  intro X Q F hX hR
  subst hX
  show V G X 2 Q 0 [some (.inr 77), none] [] w
  refine V_iconst F dM_restore_0 (by decide) ?_
  refine V_istore_n (i := 1) F dM_restore_1 rfl (by decide) (by simp only [List.set_cons_zero, List.set_cons_succ]; exact rfl) ?_
  exact lpM_rest1 h96 h99 F hR 289 0 w (by omega) (by omega) (by omega) ⟨fun _ _ => rfl, fun k k1 k2 => by omega⟩
