theorem dL_below_0 : decode cL_below 0 = .ok (.iload_n 0, 1) := by decide +kernel
theorem dL_below_1 : decode cL_below 1 = .ok (.ldc 7, 2) := by decide +kernel
theorem dL_below_3 : decode cL_below 3 = .ok (.iand, 1) := by decide +kernel
theorem dL_below_4 : decode cL_below 4 = .ok (.iload_n 1, 1) := by decide +kernel
theorem dL_below_5 : decode cL_below 5 = .ok (.irem, 1) := by decide +kernel
theorem dL_below_6 : decode cL_below 6 = .ok (.ireturn, 1) := by decide +kernel
theorem dL_cell_0 : decode cL_cell 0 = .ok (.iload_n 1, 1) := by decide +kernel
theorem dL_cell_1 : decode cL_cell 1 = .ok (.aload_n 0, 1) := by decide +kernel
theorem dL_cell_2 : decode cL_cell 2 = .ok (.arraylength, 1) := by decide +kernel
theorem dL_cell_3 : decode cL_cell 3 = .ok (.if_icmp .ge 9, 3) := by decide +kernel
theorem dL_cell_6 : decode cL_cell 6 = .ok (.aload_n 0, 1) := by decide +kernel
theorem dL_cell_7 : decode cL_cell 7 = .ok (.iload_n 1, 1) := by decide +kernel
theorem dL_cell_8 : decode cL_cell 8 = .ok (.iaload, 1) := by decide +kernel
theorem dL_cell_9 : decode cL_cell 9 = .ok (.goto 9, 3) := by decide +kernel
theorem dL_cell_12 : decode cL_cell 12 = .ok (.ldc 8, 2) := by decide +kernel
theorem dL_cell_14 : decode cL_cell 14 = .ok (.iload_n 1, 1) := by decide +kernel
theorem dL_cell_15 : decode cL_cell 15 = .ok (.iconst 3, 1) := by decide +kernel
theorem dL_cell_16 : decode cL_cell 16 = .ok (.iadd, 1) := by decide +kernel
theorem dL_cell_17 : decode cL_cell 17 = .ok (.imul, 1) := by decide +kernel
theorem dL_cell_18 : decode cL_cell 18 = .ok (.ireturn, 1) := by decide +kernel
theorem dL_build_0 : decode cL_build 0 = .ok (.sipush 350, 3) := by decide +kernel
theorem dL_build_3 : decode cL_build 3 = .ok (.newarray .int, 2) := by decide +kernel
theorem dL_build_5 : decode cL_build 5 = .ok (.astore 4, 2) := by decide +kernel
theorem dL_build_7 : decode cL_build 7 = .ok (.aload_n 1, 1) := by decide +kernel
theorem dL_build_8 : decode cL_build 8 = .ok (.iload_n 2, 1) := by decide +kernel
theorem dL_build_9 : decode cL_build 9 = .ok (.invokestatic 9, 3) := by decide +kernel
theorem dL_build_12 : decode cL_build 12 = .ok (.istore 5, 2) := by decide +kernel
theorem dL_build_14 : decode cL_build 14 = .ok (.aload 4, 2) := by decide +kernel
theorem dL_build_16 : decode cL_build 16 = .ok (.iconst 1, 1) := by decide +kernel
theorem dL_build_17 : decode cL_build 17 = .ok (.iload 5, 2) := by decide +kernel
theorem dL_build_19 : decode cL_build 19 = .ok (.bipush 30, 2) := by decide +kernel
theorem dL_build_21 : decode cL_build 21 = .ok (.invokestatic 15, 3) := by decide +kernel
theorem dL_build_24 : decode cL_build 24 = .ok (.iastore, 1) := by decide +kernel
theorem dL_build_25 : decode cL_build 25 = .ok (.aload 4, 2) := by decide +kernel
theorem dL_build_27 : decode cL_build 27 = .ok (.iconst 2, 1) := by decide +kernel
theorem dL_build_28 : decode cL_build 28 = .ok (.aload 4, 2) := by decide +kernel
theorem dL_build_30 : decode cL_build 30 = .ok (.iconst 1, 1) := by decide +kernel
theorem dL_build_31 : decode cL_build 31 = .ok (.iaload, 1) := by decide +kernel
theorem dL_build_32 : decode cL_build 32 = .ok (.bipush 20, 2) := by decide +kernel
theorem dL_build_34 : decode cL_build 34 = .ok (.iadd, 1) := by decide +kernel
theorem dL_build_35 : decode cL_build 35 = .ok (.iload 5, 2) := by decide +kernel
theorem dL_build_37 : decode cL_build 37 = .ok (.iconst 5, 1) := by decide +kernel
theorem dL_build_38 : decode cL_build 38 = .ok (.ishr, 1) := by decide +kernel
theorem dL_build_39 : decode cL_build 39 = .ok (.bipush 60, 2) := by decide +kernel
theorem dL_build_41 : decode cL_build 41 = .ok (.invokestatic 15, 3) := by decide +kernel
theorem dL_build_44 : decode cL_build 44 = .ok (.iadd, 1) := by decide +kernel
theorem dL_build_45 : decode cL_build 45 = .ok (.iastore, 1) := by decide +kernel
theorem dL_build_46 : decode cL_build 46 = .ok (.aload_n 0, 1) := by decide +kernel
theorem dL_build_47 : decode cL_build 47 = .ok (.aload 4, 2) := by decide +kernel
theorem dL_build_49 : decode cL_build 49 = .ok (.iconst 1, 1) := by decide +kernel
theorem dL_build_50 : decode cL_build 50 = .ok (.iaload, 1) := by decide +kernel
theorem dL_build_51 : decode cL_build 51 = .ok (.aload 4, 2) := by decide +kernel
theorem dL_build_53 : decode cL_build 53 = .ok (.iconst 2, 1) := by decide +kernel
theorem dL_build_54 : decode cL_build 54 = .ok (.iaload, 1) := by decide +kernel
theorem dL_build_55 : decode cL_build 55 = .ok (.invokevirtual 19, 3) := by decide +kernel
theorem dL_build_58 : decode cL_build 58 = .ok (.ifCond .ne 5, 3) := by decide +kernel
theorem dL_build_61 : decode cL_build 61 = .ok (.aconst_null, 1) := by decide +kernel
theorem dL_build_62 : decode cL_build 62 = .ok (.areturn, 1) := by decide +kernel
theorem dL_build_63 : decode cL_build 63 = .ok (.iconst 0, 1) := by decide +kernel
theorem dL_build_64 : decode cL_build 64 = .ok (.istore 6, 2) := by decide +kernel
theorem dL_build_66 : decode cL_build 66 = .ok (.iload 6, 2) := by decide +kernel
theorem dL_build_68 : decode cL_build 68 = .ok (.iconst 4, 1) := by decide +kernel
theorem dL_build_69 : decode cL_build 69 = .ok (.if_icmp .ge 118, 3) := by decide +kernel
theorem dL_build_72 : decode cL_build 72 = .ok (.aload 4, 2) := by decide +kernel
theorem dL_build_74 : decode cL_build 74 = .ok (.bipush 10, 2) := by decide +kernel
theorem dL_build_76 : decode cL_build 76 = .ok (.iconst 2, 1) := by decide +kernel
theorem dL_build_77 : decode cL_build 77 = .ok (.iload 6, 2) := by decide +kernel
theorem dL_build_79 : decode cL_build 79 = .ok (.imul, 1) := by decide +kernel
theorem dL_build_80 : decode cL_build 80 = .ok (.iadd, 1) := by decide +kernel
theorem dL_build_81 : decode cL_build 81 = .ok (.iconst 2, 1) := by decide +kernel
theorem dL_build_82 : decode cL_build 82 = .ok (.iload 5, 2) := by decide +kernel
theorem dL_build_84 : decode cL_build 84 = .ok (.iconst 3, 1) := by decide +kernel
theorem dL_build_85 : decode cL_build 85 = .ok (.iconst 5, 1) := by decide +kernel
theorem dL_build_86 : decode cL_build 86 = .ok (.iload 6, 2) := by decide +kernel
theorem dL_build_88 : decode cL_build 88 = .ok (.imul, 1) := by decide +kernel
theorem dL_build_89 : decode cL_build 89 = .ok (.iadd, 1) := by decide +kernel
theorem dL_build_90 : decode cL_build 90 = .ok (.ishr, 1) := by decide +kernel
theorem dL_build_91 : decode cL_build 91 = .ok (.bipush 12, 2) := by decide +kernel
theorem dL_build_93 : decode cL_build 93 = .ok (.invokestatic 15, 3) := by decide +kernel
theorem dL_build_96 : decode cL_build 96 = .ok (.iload 6, 2) := by decide +kernel
theorem dL_build_98 : decode cL_build 98 = .ok (.iconst 1, 1) := by decide +kernel
theorem dL_build_99 : decode cL_build 99 = .ok (.iadd, 1) := by decide +kernel
theorem dL_build_100 : decode cL_build 100 = .ok (.imul, 1) := by decide +kernel
theorem dL_build_101 : decode cL_build 101 = .ok (.iadd, 1) := by decide +kernel
theorem dL_build_102 : decode cL_build 102 = .ok (.iastore, 1) := by decide +kernel
theorem dL_build_103 : decode cL_build 103 = .ok (.aload 4, 2) := by decide +kernel
theorem dL_build_105 : decode cL_build 105 = .ok (.bipush 11, 2) := by decide +kernel
theorem dL_build_107 : decode cL_build 107 = .ok (.iconst 2, 1) := by decide +kernel
theorem dL_build_108 : decode cL_build 108 = .ok (.iload 6, 2) := by decide +kernel
theorem dL_build_110 : decode cL_build 110 = .ok (.imul, 1) := by decide +kernel
theorem dL_build_111 : decode cL_build 111 = .ok (.iadd, 1) := by decide +kernel
theorem dL_build_112 : decode cL_build 112 = .ok (.aload 4, 2) := by decide +kernel
theorem dL_build_114 : decode cL_build 114 = .ok (.bipush 10, 2) := by decide +kernel
theorem dL_build_116 : decode cL_build 116 = .ok (.iconst 2, 1) := by decide +kernel
theorem dL_build_117 : decode cL_build 117 = .ok (.iload 6, 2) := by decide +kernel
theorem dL_build_119 : decode cL_build 119 = .ok (.imul, 1) := by decide +kernel
theorem dL_build_120 : decode cL_build 120 = .ok (.iadd, 1) := by decide +kernel
theorem dL_build_121 : decode cL_build 121 = .ok (.iaload, 1) := by decide +kernel
theorem dL_build_122 : decode cL_build 122 = .ok (.iload 5, 2) := by decide +kernel
theorem dL_build_124 : decode cL_build 124 = .ok (.bipush 6, 2) := by decide +kernel
theorem dL_build_126 : decode cL_build 126 = .ok (.iconst 5, 1) := by decide +kernel
theorem dL_build_127 : decode cL_build 127 = .ok (.iload 6, 2) := by decide +kernel
theorem dL_build_129 : decode cL_build 129 = .ok (.imul, 1) := by decide +kernel
theorem dL_build_130 : decode cL_build 130 = .ok (.iadd, 1) := by decide +kernel
theorem dL_build_131 : decode cL_build 131 = .ok (.ishr, 1) := by decide +kernel
theorem dL_build_132 : decode cL_build 132 = .ok (.bipush 30, 2) := by decide +kernel
theorem dL_build_134 : decode cL_build 134 = .ok (.invokestatic 15, 3) := by decide +kernel
theorem dL_build_137 : decode cL_build 137 = .ok (.iload 6, 2) := by decide +kernel
theorem dL_build_139 : decode cL_build 139 = .ok (.iconst 1, 1) := by decide +kernel
theorem dL_build_140 : decode cL_build 140 = .ok (.iadd, 1) := by decide +kernel
theorem dL_build_141 : decode cL_build 141 = .ok (.imul, 1) := by decide +kernel
theorem dL_build_142 : decode cL_build 142 = .ok (.iadd, 1) := by decide +kernel
theorem dL_build_143 : decode cL_build 143 = .ok (.iastore, 1) := by decide +kernel
theorem dL_build_144 : decode cL_build 144 = .ok (.aload_n 0, 1) := by decide +kernel
theorem dL_build_145 : decode cL_build 145 = .ok (.iload 6, 2) := by decide +kernel
theorem dL_build_147 : decode cL_build 147 = .ok (.aload 4, 2) := by decide +kernel
theorem dL_build_149 : decode cL_build 149 = .ok (.bipush 10, 2) := by decide +kernel
theorem dL_build_151 : decode cL_build 151 = .ok (.iconst 2, 1) := by decide +kernel
theorem dL_build_152 : decode cL_build 152 = .ok (.iload 6, 2) := by decide +kernel
theorem dL_build_154 : decode cL_build 154 = .ok (.imul, 1) := by decide +kernel
theorem dL_build_155 : decode cL_build 155 = .ok (.iadd, 1) := by decide +kernel
theorem dL_build_156 : decode cL_build 156 = .ok (.iaload, 1) := by decide +kernel
theorem dL_build_157 : decode cL_build 157 = .ok (.aload 4, 2) := by decide +kernel
theorem dL_build_159 : decode cL_build 159 = .ok (.bipush 11, 2) := by decide +kernel
theorem dL_build_161 : decode cL_build 161 = .ok (.iconst 2, 1) := by decide +kernel
theorem dL_build_162 : decode cL_build 162 = .ok (.iload 6, 2) := by decide +kernel
theorem dL_build_164 : decode cL_build 164 = .ok (.imul, 1) := by decide +kernel
theorem dL_build_165 : decode cL_build 165 = .ok (.iadd, 1) := by decide +kernel
theorem dL_build_166 : decode cL_build 166 = .ok (.iaload, 1) := by decide +kernel
theorem dL_build_167 : decode cL_build 167 = .ok (.invokevirtual 25, 3) := by decide +kernel
theorem dL_build_170 : decode cL_build 170 = .ok (.sipush 240, 3) := by decide +kernel
theorem dL_build_173 : decode cL_build 173 = .ok (.iload 6, 2) := by decide +kernel
theorem dL_build_175 : decode cL_build 175 = .ok (.ishl, 1) := by decide +kernel
theorem dL_build_176 : decode cL_build 176 = .ok (.if_icmp .eq 5, 3) := by decide +kernel
theorem dL_build_179 : decode cL_build 179 = .ok (.aconst_null, 1) := by decide +kernel
theorem dL_build_180 : decode cL_build 180 = .ok (.areturn, 1) := by decide +kernel
theorem dL_build_181 : decode cL_build 181 = .ok (.iinc 6 1, 3) := by decide +kernel
theorem dL_build_184 : decode cL_build 184 = .ok (.goto (-118), 3) := by decide +kernel
theorem dL_build_187 : decode cL_build 187 = .ok (.aload 4, 2) := by decide +kernel
theorem dL_build_189 : decode cL_build 189 = .ok (.iconst 3, 1) := by decide +kernel
theorem dL_build_190 : decode cL_build 190 = .ok (.iconst 1, 1) := by decide +kernel
theorem dL_build_191 : decode cL_build 191 = .ok (.aload_n 1, 1) := by decide +kernel
theorem dL_build_192 : decode cL_build 192 = .ok (.iload_n 2, 1) := by decide +kernel
theorem dL_build_193 : decode cL_build 193 = .ok (.iconst 1, 1) := by decide +kernel
theorem dL_build_194 : decode cL_build 194 = .ok (.iadd, 1) := by decide +kernel
theorem dL_build_195 : decode cL_build 195 = .ok (.invokestatic 9, 3) := by decide +kernel
theorem dL_build_198 : decode cL_build 198 = .ok (.iconst 4, 1) := by decide +kernel
theorem dL_build_199 : decode cL_build 199 = .ok (.invokestatic 15, 3) := by decide +kernel
theorem dL_build_202 : decode cL_build 202 = .ok (.iadd, 1) := by decide +kernel
theorem dL_build_203 : decode cL_build 203 = .ok (.iastore, 1) := by decide +kernel
theorem dL_build_204 : decode cL_build 204 = .ok (.iconst 0, 1) := by decide +kernel
theorem dL_build_205 : decode cL_build 205 = .ok (.istore 6, 2) := by decide +kernel
theorem dL_build_207 : decode cL_build 207 = .ok (.iload 6, 2) := by decide +kernel
theorem dL_build_209 : decode cL_build 209 = .ok (.aload 4, 2) := by decide +kernel
theorem dL_build_211 : decode cL_build 211 = .ok (.iconst 3, 1) := by decide +kernel
theorem dL_build_212 : decode cL_build 212 = .ok (.iaload, 1) := by decide +kernel
theorem dL_build_213 : decode cL_build 213 = .ok (.if_icmp .ge 197, 3) := by decide +kernel
theorem dL_build_216 : decode cL_build 216 = .ok (.aload_n 1, 1) := by decide +kernel
theorem dL_build_217 : decode cL_build 217 = .ok (.iload_n 2, 1) := by decide +kernel
theorem dL_build_218 : decode cL_build 218 = .ok (.iconst 1, 1) := by decide +kernel
theorem dL_build_219 : decode cL_build 219 = .ok (.iadd, 1) := by decide +kernel
theorem dL_build_220 : decode cL_build 220 = .ok (.invokestatic 9, 3) := by decide +kernel
theorem dL_build_223 : decode cL_build 223 = .ok (.iconst 2, 1) := by decide +kernel
theorem dL_build_224 : decode cL_build 224 = .ok (.bipush 7, 2) := by decide +kernel
theorem dL_build_226 : decode cL_build 226 = .ok (.iload 6, 2) := by decide +kernel
theorem dL_build_228 : decode cL_build 228 = .ok (.imul, 1) := by decide +kernel
theorem dL_build_229 : decode cL_build 229 = .ok (.iadd, 1) := by decide +kernel
theorem dL_build_230 : decode cL_build 230 = .ok (.ishr, 1) := by decide +kernel
theorem dL_build_231 : decode cL_build 231 = .ok (.istore 7, 2) := by decide +kernel
theorem dL_build_233 : decode cL_build 233 = .ok (.aload 4, 2) := by decide +kernel
theorem dL_build_235 : decode cL_build 235 = .ok (.bipush 20, 2) := by decide +kernel
theorem dL_build_237 : decode cL_build 237 = .ok (.bipush 8, 2) := by decide +kernel
theorem dL_build_239 : decode cL_build 239 = .ok (.iload 6, 2) := by decide +kernel
theorem dL_build_241 : decode cL_build 241 = .ok (.imul, 1) := by decide +kernel
theorem dL_build_242 : decode cL_build 242 = .ok (.iadd, 1) := by decide +kernel
theorem dL_build_243 : decode cL_build 243 = .ok (.iconst 1, 1) := by decide +kernel
theorem dL_build_244 : decode cL_build 244 = .ok (.iload 7, 2) := by decide +kernel
theorem dL_build_246 : decode cL_build 246 = .ok (.bipush 8, 2) := by decide +kernel
theorem dL_build_248 : decode cL_build 248 = .ok (.invokestatic 15, 3) := by decide +kernel
theorem dL_build_251 : decode cL_build 251 = .ok (.ior, 1) := by decide +kernel
theorem dL_build_252 : decode cL_build 252 = .ok (.iastore, 1) := by decide +kernel
theorem dL_build_253 : decode cL_build 253 = .ok (.aload 4, 2) := by decide +kernel
theorem dL_build_255 : decode cL_build 255 = .ok (.bipush 21, 2) := by decide +kernel
theorem dL_build_257 : decode cL_build 257 = .ok (.bipush 8, 2) := by decide +kernel
theorem dL_build_259 : decode cL_build 259 = .ok (.iload 6, 2) := by decide +kernel
theorem dL_build_261 : decode cL_build 261 = .ok (.imul, 1) := by decide +kernel
theorem dL_build_262 : decode cL_build 262 = .ok (.iadd, 1) := by decide +kernel
theorem dL_build_263 : decode cL_build 263 = .ok (.iload 7, 2) := by decide +kernel
theorem dL_build_265 : decode cL_build 265 = .ok (.iconst 3, 1) := by decide +kernel
theorem dL_build_266 : decode cL_build 266 = .ok (.ishr, 1) := by decide +kernel
theorem dL_build_267 : decode cL_build 267 = .ok (.bipush 6, 2) := by decide +kernel
theorem dL_build_269 : decode cL_build 269 = .ok (.invokestatic 15, 3) := by decide +kernel
theorem dL_build_272 : decode cL_build 272 = .ok (.ifCond .ne 7, 3) := by decide +kernel
theorem dL_build_275 : decode cL_build 275 = .ok (.iconst 2, 1) := by decide +kernel
theorem dL_build_276 : decode cL_build 276 = .ok (.goto 5, 3) := by decide +kernel
theorem dL_build_279 : decode cL_build 279 = .ok (.bipush 127, 2) := by decide +kernel
theorem dL_build_281 : decode cL_build 281 = .ok (.iastore, 1) := by decide +kernel
theorem dL_build_282 : decode cL_build 282 = .ok (.aload 4, 2) := by decide +kernel
theorem dL_build_284 : decode cL_build 284 = .ok (.bipush 22, 2) := by decide +kernel
theorem dL_build_286 : decode cL_build 286 = .ok (.bipush 8, 2) := by decide +kernel
theorem dL_build_288 : decode cL_build 288 = .ok (.iload 6, 2) := by decide +kernel
theorem dL_build_290 : decode cL_build 290 = .ok (.imul, 1) := by decide +kernel
theorem dL_build_291 : decode cL_build 291 = .ok (.iadd, 1) := by decide +kernel
theorem dL_build_292 : decode cL_build 292 = .ok (.iload 7, 2) := by decide +kernel
theorem dL_build_294 : decode cL_build 294 = .ok (.iconst 4, 1) := by decide +kernel
theorem dL_build_295 : decode cL_build 295 = .ok (.ishr, 1) := by decide +kernel
theorem dL_build_296 : decode cL_build 296 = .ok (.bipush 25, 2) := by decide +kernel
theorem dL_build_298 : decode cL_build 298 = .ok (.invokestatic 15, 3) := by decide +kernel
theorem dL_build_301 : decode cL_build 301 = .ok (.iastore, 1) := by decide +kernel
theorem dL_build_302 : decode cL_build 302 = .ok (.aload 4, 2) := by decide +kernel
theorem dL_build_304 : decode cL_build 304 = .ok (.bipush 23, 2) := by decide +kernel
theorem dL_build_306 : decode cL_build 306 = .ok (.bipush 8, 2) := by decide +kernel
theorem dL_build_308 : decode cL_build 308 = .ok (.iload 6, 2) := by decide +kernel
theorem dL_build_310 : decode cL_build 310 = .ok (.imul, 1) := by decide +kernel
theorem dL_build_311 : decode cL_build 311 = .ok (.iadd, 1) := by decide +kernel
theorem dL_build_312 : decode cL_build 312 = .ok (.aload 4, 2) := by decide +kernel
theorem dL_build_314 : decode cL_build 314 = .ok (.bipush 22, 2) := by decide +kernel
theorem dL_build_316 : decode cL_build 316 = .ok (.bipush 8, 2) := by decide +kernel
theorem dL_build_318 : decode cL_build 318 = .ok (.iload 6, 2) := by decide +kernel
theorem dL_build_320 : decode cL_build 320 = .ok (.imul, 1) := by decide +kernel
theorem dL_build_321 : decode cL_build 321 = .ok (.iadd, 1) := by decide +kernel
theorem dL_build_322 : decode cL_build 322 = .ok (.iaload, 1) := by decide +kernel
theorem dL_build_323 : decode cL_build 323 = .ok (.bipush 15, 2) := by decide +kernel
theorem dL_build_325 : decode cL_build 325 = .ok (.iadd, 1) := by decide +kernel
theorem dL_build_326 : decode cL_build 326 = .ok (.iload 7, 2) := by decide +kernel
theorem dL_build_328 : decode cL_build 328 = .ok (.iconst 5, 1) := by decide +kernel
theorem dL_build_329 : decode cL_build 329 = .ok (.ishr, 1) := by decide +kernel
theorem dL_build_330 : decode cL_build 330 = .ok (.bipush 80, 2) := by decide +kernel
theorem dL_build_332 : decode cL_build 332 = .ok (.invokestatic 15, 3) := by decide +kernel
theorem dL_build_335 : decode cL_build 335 = .ok (.iadd, 1) := by decide +kernel
theorem dL_build_336 : decode cL_build 336 = .ok (.iastore, 1) := by decide +kernel
theorem dL_build_337 : decode cL_build 337 = .ok (.aload 4, 2) := by decide +kernel
theorem dL_build_339 : decode cL_build 339 = .ok (.bipush 24, 2) := by decide +kernel
theorem dL_build_341 : decode cL_build 341 = .ok (.bipush 8, 2) := by decide +kernel
theorem dL_build_343 : decode cL_build 343 = .ok (.iload 6, 2) := by decide +kernel
theorem dL_build_345 : decode cL_build 345 = .ok (.imul, 1) := by decide +kernel
theorem dL_build_346 : decode cL_build 346 = .ok (.iadd, 1) := by decide +kernel
theorem dL_build_347 : decode cL_build 347 = .ok (.iconst (-1), 1) := by decide +kernel
theorem dL_build_348 : decode cL_build 348 = .ok (.iastore, 1) := by decide +kernel
theorem dL_build_349 : decode cL_build 349 = .ok (.aload_n 0, 1) := by decide +kernel
theorem dL_build_350 : decode cL_build 350 = .ok (.aload 4, 2) := by decide +kernel
theorem dL_build_352 : decode cL_build 352 = .ok (.bipush 20, 2) := by decide +kernel
theorem dL_build_354 : decode cL_build 354 = .ok (.bipush 8, 2) := by decide +kernel
theorem dL_build_356 : decode cL_build 356 = .ok (.iload 6, 2) := by decide +kernel
theorem dL_build_358 : decode cL_build 358 = .ok (.imul, 1) := by decide +kernel
theorem dL_build_359 : decode cL_build 359 = .ok (.iadd, 1) := by decide +kernel
theorem dL_build_360 : decode cL_build 360 = .ok (.iaload, 1) := by decide +kernel
theorem dL_build_361 : decode cL_build 361 = .ok (.aload 4, 2) := by decide +kernel
theorem dL_build_363 : decode cL_build 363 = .ok (.bipush 21, 2) := by decide +kernel
theorem dL_build_365 : decode cL_build 365 = .ok (.bipush 8, 2) := by decide +kernel
theorem dL_build_367 : decode cL_build 367 = .ok (.iload 6, 2) := by decide +kernel
theorem dL_build_369 : decode cL_build 369 = .ok (.imul, 1) := by decide +kernel
theorem dL_build_370 : decode cL_build 370 = .ok (.iadd, 1) := by decide +kernel
theorem dL_build_371 : decode cL_build 371 = .ok (.iaload, 1) := by decide +kernel
theorem dL_build_372 : decode cL_build 372 = .ok (.aload 4, 2) := by decide +kernel
theorem dL_build_374 : decode cL_build 374 = .ok (.bipush 22, 2) := by decide +kernel
theorem dL_build_376 : decode cL_build 376 = .ok (.bipush 8, 2) := by decide +kernel
theorem dL_build_378 : decode cL_build 378 = .ok (.iload 6, 2) := by decide +kernel
theorem dL_build_380 : decode cL_build 380 = .ok (.imul, 1) := by decide +kernel
theorem dL_build_381 : decode cL_build 381 = .ok (.iadd, 1) := by decide +kernel
theorem dL_build_382 : decode cL_build 382 = .ok (.iaload, 1) := by decide +kernel
theorem dL_build_383 : decode cL_build 383 = .ok (.aload 4, 2) := by decide +kernel
theorem dL_build_385 : decode cL_build 385 = .ok (.bipush 23, 2) := by decide +kernel
theorem dL_build_387 : decode cL_build 387 = .ok (.bipush 8, 2) := by decide +kernel
theorem dL_build_389 : decode cL_build 389 = .ok (.iload 6, 2) := by decide +kernel
theorem dL_build_391 : decode cL_build 391 = .ok (.imul, 1) := by decide +kernel
theorem dL_build_392 : decode cL_build 392 = .ok (.iadd, 1) := by decide +kernel
theorem dL_build_393 : decode cL_build 393 = .ok (.iaload, 1) := by decide +kernel
theorem dL_build_394 : decode cL_build 394 = .ok (.invokevirtual 29, 3) := by decide +kernel
theorem dL_build_397 : decode cL_build 397 = .ok (.iload 6, 2) := by decide +kernel
theorem dL_build_399 : decode cL_build 399 = .ok (.if_icmp .eq 5, 3) := by decide +kernel
theorem dL_build_402 : decode cL_build 402 = .ok (.aconst_null, 1) := by decide +kernel
theorem dL_build_403 : decode cL_build 403 = .ok (.areturn, 1) := by decide +kernel
theorem dL_build_404 : decode cL_build 404 = .ok (.iinc 6 1, 3) := by decide +kernel
theorem dL_build_407 : decode cL_build 407 = .ok (.goto (-200), 3) := by decide +kernel
theorem dL_build_410 : decode cL_build 410 = .ok (.iconst 1, 1) := by decide +kernel
theorem dL_build_411 : decode cL_build 411 = .ok (.aload_n 1, 1) := by decide +kernel
theorem dL_build_412 : decode cL_build 412 = .ok (.iload_n 2, 1) := by decide +kernel
theorem dL_build_413 : decode cL_build 413 = .ok (.iconst 2, 1) := by decide +kernel
theorem dL_build_414 : decode cL_build 414 = .ok (.iadd, 1) := by decide +kernel
theorem dL_build_415 : decode cL_build 415 = .ok (.invokestatic 9, 3) := by decide +kernel
theorem dL_build_418 : decode cL_build 418 = .ok (.iload_n 3, 1) := by decide +kernel
theorem dL_build_419 : decode cL_build 419 = .ok (.invokestatic 15, 3) := by decide +kernel
theorem dL_build_422 : decode cL_build 422 = .ok (.iadd, 1) := by decide +kernel
theorem dL_build_423 : decode cL_build 423 = .ok (.istore 6, 2) := by decide +kernel
theorem dL_build_425 : decode cL_build 425 = .ok (.iconst 0, 1) := by decide +kernel
theorem dL_build_426 : decode cL_build 426 = .ok (.istore 7, 2) := by decide +kernel
theorem dL_build_428 : decode cL_build 428 = .ok (.iload 7, 2) := by decide +kernel
theorem dL_build_430 : decode cL_build 430 = .ok (.iload 6, 2) := by decide +kernel
theorem dL_build_432 : decode cL_build 432 = .ok (.if_icmp .ge 39, 3) := by decide +kernel
theorem dL_build_435 : decode cL_build 435 = .ok (.aload_n 0, 1) := by decide +kernel
theorem dL_build_436 : decode cL_build 436 = .ok (.aload 4, 2) := by decide +kernel
theorem dL_build_438 : decode cL_build 438 = .ok (.aload_n 1, 1) := by decide +kernel
theorem dL_build_439 : decode cL_build 439 = .ok (.iload_n 2, 1) := by decide +kernel
theorem dL_build_440 : decode cL_build 440 = .ok (.iconst 3, 1) := by decide +kernel
theorem dL_build_441 : decode cL_build 441 = .ok (.iadd, 1) := by decide +kernel
theorem dL_build_442 : decode cL_build 442 = .ok (.iload 7, 2) := by decide +kernel
theorem dL_build_444 : decode cL_build 444 = .ok (.iconst 4, 1) := by decide +kernel
theorem dL_build_445 : decode cL_build 445 = .ok (.irem, 1) := by decide +kernel
theorem dL_build_446 : decode cL_build 446 = .ok (.iadd, 1) := by decide +kernel
theorem dL_build_447 : decode cL_build 447 = .ok (.invokestatic 9, 3) := by decide +kernel
theorem dL_build_450 : decode cL_build 450 = .ok (.iload 7, 2) := by decide +kernel
theorem dL_build_452 : decode cL_build 452 = .ok (.iconst 4, 1) := by decide +kernel
theorem dL_build_453 : decode cL_build 453 = .ok (.idiv, 1) := by decide +kernel
theorem dL_build_454 : decode cL_build 454 = .ok (.iconst 5, 1) := by decide +kernel
theorem dL_build_455 : decode cL_build 455 = .ok (.imul, 1) := by decide +kernel
theorem dL_build_456 : decode cL_build 456 = .ok (.ishr, 1) := by decide +kernel
theorem dL_build_457 : decode cL_build 457 = .ok (.invokestatic 33, 3) := by decide +kernel
theorem dL_build_460 : decode cL_build 460 = .ok (.ifCond .ne 5, 3) := by decide +kernel
theorem dL_build_463 : decode cL_build 463 = .ok (.aconst_null, 1) := by decide +kernel
theorem dL_build_464 : decode cL_build 464 = .ok (.areturn, 1) := by decide +kernel
theorem dL_build_465 : decode cL_build 465 = .ok (.iinc 7 1, 3) := by decide +kernel
theorem dL_build_468 : decode cL_build 468 = .ok (.goto (-40), 3) := by decide +kernel
theorem dL_build_471 : decode cL_build 471 = .ok (.aload 4, 2) := by decide +kernel
theorem dL_build_473 : decode cL_build 473 = .ok (.areturn, 1) := by decide +kernel
theorem dL_open_0 : decode cL_open 0 = .ok (.bipush 70, 2) := by decide +kernel
theorem dL_open_2 : decode cL_open 2 = .ok (.bipush 14, 2) := by decide +kernel
theorem dL_open_4 : decode cL_open 4 = .ok (.aload_n 1, 1) := by decide +kernel
theorem dL_open_5 : decode cL_open 5 = .ok (.iconst 4, 1) := by decide +kernel
theorem dL_open_6 : decode cL_open 6 = .ok (.iaload, 1) := by decide +kernel
theorem dL_open_7 : decode cL_open 7 = .ok (.imul, 1) := by decide +kernel
theorem dL_open_8 : decode cL_open 8 = .ok (.iadd, 1) := by decide +kernel
theorem dL_open_9 : decode cL_open 9 = .ok (.istore_n 3, 1) := by decide +kernel
theorem dL_open_10 : decode cL_open 10 = .ok (.aload_n 1, 1) := by decide +kernel
theorem dL_open_11 : decode cL_open 11 = .ok (.iload_n 3, 1) := by decide +kernel
theorem dL_open_12 : decode cL_open 12 = .ok (.iload_n 2, 1) := by decide +kernel
theorem dL_open_13 : decode cL_open 13 = .ok (.iconst 3, 1) := by decide +kernel
theorem dL_open_14 : decode cL_open 14 = .ok (.invokestatic 15, 3) := by decide +kernel
theorem dL_open_17 : decode cL_open 17 = .ok (.iastore, 1) := by decide +kernel
theorem dL_open_18 : decode cL_open 18 = .ok (.aload_n 1, 1) := by decide +kernel
theorem dL_open_19 : decode cL_open 19 = .ok (.iload_n 3, 1) := by decide +kernel
theorem dL_open_20 : decode cL_open 20 = .ok (.iconst 1, 1) := by decide +kernel
theorem dL_open_21 : decode cL_open 21 = .ok (.iadd, 1) := by decide +kernel
theorem dL_open_22 : decode cL_open 22 = .ok (.iload_n 2, 1) := by decide +kernel
theorem dL_open_23 : decode cL_open 23 = .ok (.iconst 2, 1) := by decide +kernel
theorem dL_open_24 : decode cL_open 24 = .ok (.ishr, 1) := by decide +kernel
theorem dL_open_25 : decode cL_open 25 = .ok (.iconst 4, 1) := by decide +kernel
theorem dL_open_26 : decode cL_open 26 = .ok (.invokestatic 15, 3) := by decide +kernel
theorem dL_open_29 : decode cL_open 29 = .ok (.iastore, 1) := by decide +kernel
theorem dL_open_30 : decode cL_open 30 = .ok (.aload_n 1, 1) := by decide +kernel
theorem dL_open_31 : decode cL_open 31 = .ok (.iload_n 3, 1) := by decide +kernel
theorem dL_open_32 : decode cL_open 32 = .ok (.iconst 2, 1) := by decide +kernel
theorem dL_open_33 : decode cL_open 33 = .ok (.iadd, 1) := by decide +kernel
theorem dL_open_34 : decode cL_open 34 = .ok (.iconst 1, 1) := by decide +kernel
theorem dL_open_35 : decode cL_open 35 = .ok (.iload_n 2, 1) := by decide +kernel
theorem dL_open_36 : decode cL_open 36 = .ok (.iconst 4, 1) := by decide +kernel
theorem dL_open_37 : decode cL_open 37 = .ok (.ishr, 1) := by decide +kernel
theorem dL_open_38 : decode cL_open 38 = .ok (.bipush 25, 2) := by decide +kernel
theorem dL_open_40 : decode cL_open 40 = .ok (.invokestatic 15, 3) := by decide +kernel
theorem dL_open_43 : decode cL_open 43 = .ok (.iadd, 1) := by decide +kernel
theorem dL_open_44 : decode cL_open 44 = .ok (.iastore, 1) := by decide +kernel
theorem dL_open_45 : decode cL_open 45 = .ok (.aload_n 1, 1) := by decide +kernel
theorem dL_open_46 : decode cL_open 46 = .ok (.iload_n 3, 1) := by decide +kernel
theorem dL_open_47 : decode cL_open 47 = .ok (.iconst 3, 1) := by decide +kernel
theorem dL_open_48 : decode cL_open 48 = .ok (.iadd, 1) := by decide +kernel
theorem dL_open_49 : decode cL_open 49 = .ok (.iload_n 2, 1) := by decide +kernel
theorem dL_open_50 : decode cL_open 50 = .ok (.bipush 7, 2) := by decide +kernel
theorem dL_open_52 : decode cL_open 52 = .ok (.ishr, 1) := by decide +kernel
theorem dL_open_53 : decode cL_open 53 = .ok (.bipush 10, 2) := by decide +kernel
theorem dL_open_55 : decode cL_open 55 = .ok (.invokestatic 15, 3) := by decide +kernel
theorem dL_open_58 : decode cL_open 58 = .ok (.iastore, 1) := by decide +kernel
theorem dL_open_59 : decode cL_open 59 = .ok (.aload_n 1, 1) := by decide +kernel
theorem dL_open_60 : decode cL_open 60 = .ok (.iload_n 3, 1) := by decide +kernel
theorem dL_open_61 : decode cL_open 61 = .ok (.bipush 7, 2) := by decide +kernel
theorem dL_open_63 : decode cL_open 63 = .ok (.iadd, 1) := by decide +kernel
theorem dL_open_64 : decode cL_open 64 = .ok (.iconst (-1), 1) := by decide +kernel
theorem dL_open_65 : decode cL_open 65 = .ok (.iastore, 1) := by decide +kernel
theorem dL_open_66 : decode cL_open 66 = .ok (.aload_n 1, 1) := by decide +kernel
theorem dL_open_67 : decode cL_open 67 = .ok (.iload_n 3, 1) := by decide +kernel
theorem dL_open_68 : decode cL_open 68 = .ok (.bipush 8, 2) := by decide +kernel
theorem dL_open_70 : decode cL_open 70 = .ok (.iadd, 1) := by decide +kernel
theorem dL_open_71 : decode cL_open 71 = .ok (.iconst (-1), 1) := by decide +kernel
theorem dL_open_72 : decode cL_open 72 = .ok (.iastore, 1) := by decide +kernel
theorem dL_open_73 : decode cL_open 73 = .ok (.aload_n 1, 1) := by decide +kernel
theorem dL_open_74 : decode cL_open 74 = .ok (.iconst 4, 1) := by decide +kernel
theorem dL_open_75 : decode cL_open 75 = .ok (.dup2, 1) := by decide +kernel
theorem dL_open_76 : decode cL_open 76 = .ok (.iaload, 1) := by decide +kernel
theorem dL_open_77 : decode cL_open 77 = .ok (.iconst 1, 1) := by decide +kernel
theorem dL_open_78 : decode cL_open 78 = .ok (.iadd, 1) := by decide +kernel
theorem dL_open_79 : decode cL_open 79 = .ok (.iastore, 1) := by decide +kernel
theorem dL_open_80 : decode cL_open 80 = .ok (.aload_n 0, 1) := by decide +kernel
theorem dL_open_81 : decode cL_open 81 = .ok (.aload_n 1, 1) := by decide +kernel
theorem dL_open_82 : decode cL_open 82 = .ok (.iload_n 3, 1) := by decide +kernel
theorem dL_open_83 : decode cL_open 83 = .ok (.iaload, 1) := by decide +kernel
theorem dL_open_84 : decode cL_open 84 = .ok (.aload_n 1, 1) := by decide +kernel
theorem dL_open_85 : decode cL_open 85 = .ok (.iload_n 3, 1) := by decide +kernel
theorem dL_open_86 : decode cL_open 86 = .ok (.iconst 1, 1) := by decide +kernel
theorem dL_open_87 : decode cL_open 87 = .ok (.iadd, 1) := by decide +kernel
theorem dL_open_88 : decode cL_open 88 = .ok (.iaload, 1) := by decide +kernel
theorem dL_open_89 : decode cL_open 89 = .ok (.aload_n 1, 1) := by decide +kernel
theorem dL_open_90 : decode cL_open 90 = .ok (.iload_n 3, 1) := by decide +kernel
theorem dL_open_91 : decode cL_open 91 = .ok (.iconst 2, 1) := by decide +kernel
theorem dL_open_92 : decode cL_open 92 = .ok (.iadd, 1) := by decide +kernel
theorem dL_open_93 : decode cL_open 93 = .ok (.iaload, 1) := by decide +kernel
theorem dL_open_94 : decode cL_open 94 = .ok (.aload_n 1, 1) := by decide +kernel
theorem dL_open_95 : decode cL_open 95 = .ok (.iload_n 3, 1) := by decide +kernel
theorem dL_open_96 : decode cL_open 96 = .ok (.iconst 3, 1) := by decide +kernel
theorem dL_open_97 : decode cL_open 97 = .ok (.iadd, 1) := by decide +kernel
theorem dL_open_98 : decode cL_open 98 = .ok (.iaload, 1) := by decide +kernel
theorem dL_open_99 : decode cL_open 99 = .ok (.invokevirtual 37, 3) := by decide +kernel
theorem dL_open_102 : decode cL_open 102 = .ok (.aload_n 1, 1) := by decide +kernel
theorem dL_open_103 : decode cL_open 103 = .ok (.iconst 4, 1) := by decide +kernel
theorem dL_open_104 : decode cL_open 104 = .ok (.iaload, 1) := by decide +kernel
theorem dL_open_105 : decode cL_open 105 = .ok (.iconst 1, 1) := by decide +kernel
theorem dL_open_106 : decode cL_open 106 = .ok (.isub, 1) := by decide +kernel
theorem dL_open_107 : decode cL_open 107 = .ok (.if_icmp .ne 7, 3) := by decide +kernel
theorem dL_open_110 : decode cL_open 110 = .ok (.iconst 1, 1) := by decide +kernel
theorem dL_open_111 : decode cL_open 111 = .ok (.goto 4, 3) := by decide +kernel
theorem dL_open_114 : decode cL_open 114 = .ok (.iconst 0, 1) := by decide +kernel
theorem dL_open_115 : decode cL_open 115 = .ok (.ireturn, 1) := by decide +kernel
theorem dL_law_0 : decode cL_law 0 = .ok (.new 20, 3) := by decide +kernel
theorem dL_law_3 : decode cL_law 3 = .ok (.dup, 1) := by decide +kernel
theorem dL_law_4 : decode cL_law 4 = .ok (.invokespecial 53, 3) := by decide +kernel
theorem dL_law_7 : decode cL_law 7 = .ok (.astore_n 1, 1) := by decide +kernel
theorem dL_law_8 : decode cL_law 8 = .ok (.aload_n 1, 1) := by decide +kernel
theorem dL_law_9 : decode cL_law 9 = .ok (.aload_n 0, 1) := by decide +kernel
theorem dL_law_10 : decode cL_law 10 = .ok (.iconst 0, 1) := by decide +kernel
theorem dL_law_11 : decode cL_law 11 = .ok (.bipush 14, 2) := by decide +kernel
theorem dL_law_13 : decode cL_law 13 = .ok (.invokestatic 54, 3) := by decide +kernel
theorem dL_law_16 : decode cL_law 16 = .ok (.astore_n 2, 1) := by decide +kernel
theorem dL_law_17 : decode cL_law 17 = .ok (.aload_n 2, 1) := by decide +kernel
theorem dL_law_18 : decode cL_law 18 = .ok (.ifnonnull 5, 3) := by decide +kernel
theorem dL_law_21 : decode cL_law 21 = .ok (.iconst 0, 1) := by decide +kernel
theorem dL_law_22 : decode cL_law 22 = .ok (.ireturn, 1) := by decide +kernel
theorem dL_law_23 : decode cL_law 23 = .ok (.iconst 0, 1) := by decide +kernel
theorem dL_law_24 : decode cL_law 24 = .ok (.istore_n 3, 1) := by decide +kernel
theorem dL_law_25 : decode cL_law 25 = .ok (.iconst 0, 1) := by decide +kernel
theorem dL_law_26 : decode cL_law 26 = .ok (.istore 4, 2) := by decide +kernel
theorem dL_law_28 : decode cL_law 28 = .ok (.iload 4, 2) := by decide +kernel
theorem dL_law_30 : decode cL_law 30 = .ok (.bipush 30, 2) := by decide +kernel
theorem dL_law_32 : decode cL_law 32 = .ok (.if_icmp .ge 529, 3) := by decide +kernel
theorem dL_law_35 : decode cL_law 35 = .ok (.aload_n 0, 1) := by decide +kernel
theorem dL_law_36 : decode cL_law 36 = .ok (.bipush 7, 2) := by decide +kernel
theorem dL_law_38 : decode cL_law 38 = .ok (.iload 4, 2) := by decide +kernel
theorem dL_law_40 : decode cL_law 40 = .ok (.bipush 8, 2) := by decide +kernel
theorem dL_law_42 : decode cL_law 42 = .ok (.irem, 1) := by decide +kernel
theorem dL_law_43 : decode cL_law 43 = .ok (.iadd, 1) := by decide +kernel
theorem dL_law_44 : decode cL_law 44 = .ok (.invokestatic 9, 3) := by decide +kernel
theorem dL_law_47 : decode cL_law 47 = .ok (.iload 4, 2) := by decide +kernel
theorem dL_law_49 : decode cL_law 49 = .ok (.bipush 8, 2) := by decide +kernel
theorem dL_law_51 : decode cL_law 51 = .ok (.idiv, 1) := by decide +kernel
theorem dL_law_52 : decode cL_law 52 = .ok (.bipush 7, 2) := by decide +kernel
theorem dL_law_54 : decode cL_law 54 = .ok (.imul, 1) := by decide +kernel
theorem dL_law_55 : decode cL_law 55 = .ok (.ishr, 1) := by decide +kernel
theorem dL_law_56 : decode cL_law 56 = .ok (.istore 5, 2) := by decide +kernel
theorem dL_law_58 : decode cL_law 58 = .ok (.iload 5, 2) := by decide +kernel
theorem dL_law_60 : decode cL_law 60 = .ok (.iconst 3, 1) := by decide +kernel
theorem dL_law_61 : decode cL_law 61 = .ok (.ishr, 1) := by decide +kernel
theorem dL_law_62 : decode cL_law 62 = .ok (.aload_n 2, 1) := by decide +kernel
theorem dL_law_63 : decode cL_law 63 = .ok (.iconst 4, 1) := by decide +kernel
theorem dL_law_64 : decode cL_law 64 = .ok (.iaload, 1) := by decide +kernel
theorem dL_law_65 : decode cL_law 65 = .ok (.invokestatic 15, 3) := by decide +kernel
theorem dL_law_68 : decode cL_law 68 = .ok (.istore 6, 2) := by decide +kernel
theorem dL_law_70 : decode cL_law 70 = .ok (.iload 5, 2) := by decide +kernel
theorem dL_law_72 : decode cL_law 72 = .ok (.bipush 8, 2) := by decide +kernel
theorem dL_law_74 : decode cL_law 74 = .ok (.invokestatic 15, 3) := by decide +kernel
theorem dL_law_77 : decode cL_law 77 = .ok (.istore 7, 2) := by decide +kernel
theorem dL_law_79 : decode cL_law 79 = .ok (.aload_n 1, 1) := by decide +kernel
theorem dL_law_80 : decode cL_law 80 = .ok (.iload 6, 2) := by decide +kernel
theorem dL_law_82 : decode cL_law 82 = .ok (.iconst 0, 1) := by decide +kernel
theorem dL_law_83 : decode cL_law 83 = .ok (.invokevirtual 58, 3) := by decide +kernel
theorem dL_law_86 : decode cL_law 86 = .ok (.istore 8, 2) := by decide +kernel
theorem dL_law_88 : decode cL_law 88 = .ok (.iload 7, 2) := by decide +kernel
theorem dL_law_90 : decode cL_law 90 = .ok (.ifCond .ne 16, 3) := by decide +kernel
theorem dL_law_93 : decode cL_law 93 = .ok (.iload 8, 2) := by decide +kernel
theorem dL_law_95 : decode cL_law 95 = .ok (.iconst 2, 1) := by decide +kernel
theorem dL_law_96 : decode cL_law 96 = .ok (.if_icmp .ge 10, 3) := by decide +kernel
theorem dL_law_99 : decode cL_law 99 = .ok (.aload_n 1, 1) := by decide +kernel
theorem dL_law_100 : decode cL_law 100 = .ok (.iload 6, 2) := by decide +kernel
theorem dL_law_102 : decode cL_law 102 = .ok (.invokevirtual 61, 3) := by decide +kernel
theorem dL_law_105 : decode cL_law 105 = .ok (.pop, 1) := by decide +kernel
theorem dL_law_106 : decode cL_law 106 = .ok (.iload 7, 2) := by decide +kernel
theorem dL_law_108 : decode cL_law 108 = .ok (.iconst 1, 1) := by decide +kernel
theorem dL_law_109 : decode cL_law 109 = .ok (.if_icmp .ne 16, 3) := by decide +kernel
theorem dL_law_112 : decode cL_law 112 = .ok (.iload 8, 2) := by decide +kernel
theorem dL_law_114 : decode cL_law 114 = .ok (.iconst 2, 1) := by decide +kernel
theorem dL_law_115 : decode cL_law 115 = .ok (.if_icmp .ne 10, 3) := by decide +kernel
theorem dL_law_118 : decode cL_law 118 = .ok (.aload_n 1, 1) := by decide +kernel
theorem dL_law_119 : decode cL_law 119 = .ok (.iload 6, 2) := by decide +kernel
theorem dL_law_121 : decode cL_law 121 = .ok (.invokevirtual 65, 3) := by decide +kernel
theorem dL_law_124 : decode cL_law 124 = .ok (.pop, 1) := by decide +kernel
theorem dL_law_125 : decode cL_law 125 = .ok (.iload 7, 2) := by decide +kernel
theorem dL_law_127 : decode cL_law 127 = .ok (.iconst 2, 1) := by decide +kernel
theorem dL_law_128 : decode cL_law 128 = .ok (.if_icmp .ne 28, 3) := by decide +kernel
theorem dL_law_131 : decode cL_law 131 = .ok (.iload 8, 2) := by decide +kernel
theorem dL_law_133 : decode cL_law 133 = .ok (.iconst 3, 1) := by decide +kernel
theorem dL_law_134 : decode cL_law 134 = .ok (.if_icmp .ne 22, 3) := by decide +kernel
theorem dL_law_137 : decode cL_law 137 = .ok (.aload_n 1, 1) := by decide +kernel
theorem dL_law_138 : decode cL_law 138 = .ok (.iload 6, 2) := by decide +kernel
theorem dL_law_140 : decode cL_law 140 = .ok (.iconst 1, 1) := by decide +kernel
theorem dL_law_141 : decode cL_law 141 = .ok (.iload 5, 2) := by decide +kernel
theorem dL_law_143 : decode cL_law 143 = .ok (.bipush 6, 2) := by decide +kernel
theorem dL_law_145 : decode cL_law 145 = .ok (.ishr, 1) := by decide +kernel
theorem dL_law_146 : decode cL_law 146 = .ok (.bipush 20, 2) := by decide +kernel
theorem dL_law_148 : decode cL_law 148 = .ok (.invokestatic 15, 3) := by decide +kernel
theorem dL_law_151 : decode cL_law 151 = .ok (.iadd, 1) := by decide +kernel
theorem dL_law_152 : decode cL_law 152 = .ok (.invokevirtual 68, 3) := by decide +kernel
theorem dL_law_155 : decode cL_law 155 = .ok (.pop, 1) := by decide +kernel
theorem dL_law_156 : decode cL_law 156 = .ok (.iload 7, 2) := by decide +kernel
theorem dL_law_158 : decode cL_law 158 = .ok (.iconst 3, 1) := by decide +kernel
theorem dL_law_159 : decode cL_law 159 = .ok (.if_icmp .ne 38, 3) := by decide +kernel
theorem dL_law_162 : decode cL_law 162 = .ok (.iload 8, 2) := by decide +kernel
theorem dL_law_164 : decode cL_law 164 = .ok (.iconst 3, 1) := by decide +kernel
theorem dL_law_165 : decode cL_law 165 = .ok (.if_icmp .ge 32, 3) := by decide +kernel
theorem dL_law_168 : decode cL_law 168 = .ok (.iload 6, 2) := by decide +kernel
theorem dL_law_170 : decode cL_law 170 = .ok (.ifCond .le 27, 3) := by decide +kernel
theorem dL_law_173 : decode cL_law 173 = .ok (.aload_n 1, 1) := by decide +kernel
theorem dL_law_174 : decode cL_law 174 = .ok (.iload 6, 2) := by decide +kernel
theorem dL_law_176 : decode cL_law 176 = .ok (.iconst 1, 1) := by decide +kernel
theorem dL_law_177 : decode cL_law 177 = .ok (.isub, 1) := by decide +kernel
theorem dL_law_178 : decode cL_law 178 = .ok (.iconst 0, 1) := by decide +kernel
theorem dL_law_179 : decode cL_law 179 = .ok (.invokevirtual 58, 3) := by decide +kernel
theorem dL_law_182 : decode cL_law 182 = .ok (.iconst 3, 1) := by decide +kernel
theorem dL_law_183 : decode cL_law 183 = .ok (.if_icmp .ge 14, 3) := by decide +kernel
theorem dL_law_186 : decode cL_law 186 = .ok (.aload_n 1, 1) := by decide +kernel
theorem dL_law_187 : decode cL_law 187 = .ok (.iload 6, 2) := by decide +kernel
theorem dL_law_189 : decode cL_law 189 = .ok (.iload 6, 2) := by decide +kernel
theorem dL_law_191 : decode cL_law 191 = .ok (.iconst 1, 1) := by decide +kernel
theorem dL_law_192 : decode cL_law 192 = .ok (.isub, 1) := by decide +kernel
theorem dL_law_193 : decode cL_law 193 = .ok (.invokevirtual 71, 3) := by decide +kernel
theorem dL_law_196 : decode cL_law 196 = .ok (.pop, 1) := by decide +kernel
theorem dL_law_197 : decode cL_law 197 = .ok (.iload_n 3, 1) := by decide +kernel
theorem dL_law_198 : decode cL_law 198 = .ok (.aload_n 1, 1) := by decide +kernel
theorem dL_law_199 : decode cL_law 199 = .ok (.iconst 1, 1) := by decide +kernel
theorem dL_law_200 : decode cL_law 200 = .ok (.iload 5, 2) := by decide +kernel
theorem dL_law_202 : decode cL_law 202 = .ok (.iconst 4, 1) := by decide +kernel
theorem dL_law_203 : decode cL_law 203 = .ok (.ishr, 1) := by decide +kernel
theorem dL_law_204 : decode cL_law 204 = .ok (.bipush 9, 2) := by decide +kernel
theorem dL_law_206 : decode cL_law 206 = .ok (.invokestatic 15, 3) := by decide +kernel
theorem dL_law_209 : decode cL_law 209 = .ok (.iadd, 1) := by decide +kernel
theorem dL_law_210 : decode cL_law 210 = .ok (.invokevirtual 74, 3) := by decide +kernel
theorem dL_law_213 : decode cL_law 213 = .ok (.iadd, 1) := by decide +kernel
theorem dL_law_214 : decode cL_law 214 = .ok (.istore_n 3, 1) := by decide +kernel
theorem dL_law_215 : decode cL_law 215 = .ok (.iconst 0, 1) := by decide +kernel
theorem dL_law_216 : decode cL_law 216 = .ok (.istore 9, 2) := by decide +kernel
theorem dL_law_218 : decode cL_law 218 = .ok (.iconst 0, 1) := by decide +kernel
theorem dL_law_219 : decode cL_law 219 = .ok (.istore 10, 2) := by decide +kernel
theorem dL_law_221 : decode cL_law 221 = .ok (.iconst 0, 1) := by decide +kernel
theorem dL_law_222 : decode cL_law 222 = .ok (.istore 11, 2) := by decide +kernel
theorem dL_law_224 : decode cL_law 224 = .ok (.iload 11, 2) := by decide +kernel
theorem dL_law_226 : decode cL_law 226 = .ok (.aload_n 2, 1) := by decide +kernel
theorem dL_law_227 : decode cL_law 227 = .ok (.iconst 3, 1) := by decide +kernel
theorem dL_law_228 : decode cL_law 228 = .ok (.iaload, 1) := by decide +kernel
theorem dL_law_229 : decode cL_law 229 = .ok (.if_icmp .ge 98, 3) := by decide +kernel
theorem dL_law_232 : decode cL_law 232 = .ok (.aload_n 1, 1) := by decide +kernel
theorem dL_law_233 : decode cL_law 233 = .ok (.iload 11, 2) := by decide +kernel
theorem dL_law_235 : decode cL_law 235 = .ok (.iconst 0, 1) := by decide +kernel
theorem dL_law_236 : decode cL_law 236 = .ok (.invokevirtual 77, 3) := by decide +kernel
theorem dL_law_239 : decode cL_law 239 = .ok (.istore 12, 2) := by decide +kernel
theorem dL_law_241 : decode cL_law 241 = .ok (.iload 12, 2) := by decide +kernel
theorem dL_law_243 : decode cL_law 243 = .ok (.ifCond .lt 54, 3) := by decide +kernel
theorem dL_law_246 : decode cL_law 246 = .ok (.aload_n 1, 1) := by decide +kernel
theorem dL_law_247 : decode cL_law 247 = .ok (.iload 12, 2) := by decide +kernel
theorem dL_law_249 : decode cL_law 249 = .ok (.iconst 1, 1) := by decide +kernel
theorem dL_law_250 : decode cL_law 250 = .ok (.invokevirtual 58, 3) := by decide +kernel
theorem dL_law_253 : decode cL_law 253 = .ok (.iload 11, 2) := by decide +kernel
theorem dL_law_255 : decode cL_law 255 = .ok (.if_icmp .ne 40, 3) := by decide +kernel
theorem dL_law_258 : decode cL_law 258 = .ok (.aload_n 1, 1) := by decide +kernel
theorem dL_law_259 : decode cL_law 259 = .ok (.iload 12, 2) := by decide +kernel
theorem dL_law_261 : decode cL_law 261 = .ok (.iconst 0, 1) := by decide +kernel
theorem dL_law_262 : decode cL_law 262 = .ok (.invokevirtual 58, 3) := by decide +kernel
theorem dL_law_265 : decode cL_law 265 = .ok (.iconst 1, 1) := by decide +kernel
theorem dL_law_266 : decode cL_law 266 = .ok (.if_icmp .ne 29, 3) := by decide +kernel
theorem dL_law_269 : decode cL_law 269 = .ok (.aload_n 2, 1) := by decide +kernel
theorem dL_law_270 : decode cL_law 270 = .ok (.bipush 20, 2) := by decide +kernel
theorem dL_law_272 : decode cL_law 272 = .ok (.bipush 8, 2) := by decide +kernel
theorem dL_law_274 : decode cL_law 274 = .ok (.iload 11, 2) := by decide +kernel
theorem dL_law_276 : decode cL_law 276 = .ok (.imul, 1) := by decide +kernel
theorem dL_law_277 : decode cL_law 277 = .ok (.iadd, 1) := by decide +kernel
theorem dL_law_278 : decode cL_law 278 = .ok (.iaload, 1) := by decide +kernel
theorem dL_law_279 : decode cL_law 279 = .ok (.aload_n 2, 1) := by decide +kernel
theorem dL_law_280 : decode cL_law 280 = .ok (.bipush 70, 2) := by decide +kernel
theorem dL_law_282 : decode cL_law 282 = .ok (.bipush 14, 2) := by decide +kernel
theorem dL_law_284 : decode cL_law 284 = .ok (.iload 12, 2) := by decide +kernel
theorem dL_law_286 : decode cL_law 286 = .ok (.imul, 1) := by decide +kernel
theorem dL_law_287 : decode cL_law 287 = .ok (.iadd, 1) := by decide +kernel
theorem dL_law_288 : decode cL_law 288 = .ok (.iaload, 1) := by decide +kernel
theorem dL_law_289 : decode cL_law 289 = .ok (.ishr, 1) := by decide +kernel
theorem dL_law_290 : decode cL_law 290 = .ok (.iconst 1, 1) := by decide +kernel
theorem dL_law_291 : decode cL_law 291 = .ok (.iand, 1) := by decide +kernel
theorem dL_law_292 : decode cL_law 292 = .ok (.ifCond .ne 5, 3) := by decide +kernel
theorem dL_law_295 : decode cL_law 295 = .ok (.iconst 0, 1) := by decide +kernel
theorem dL_law_296 : decode cL_law 296 = .ok (.ireturn, 1) := by decide +kernel
theorem dL_law_297 : decode cL_law 297 = .ok (.iload 9, 2) := by decide +kernel
theorem dL_law_299 : decode cL_law 299 = .ok (.aload_n 1, 1) := by decide +kernel
theorem dL_law_300 : decode cL_law 300 = .ok (.iload 11, 2) := by decide +kernel
theorem dL_law_302 : decode cL_law 302 = .ok (.iconst 1, 1) := by decide +kernel
theorem dL_law_303 : decode cL_law 303 = .ok (.invokevirtual 77, 3) := by decide +kernel
theorem dL_law_306 : decode cL_law 306 = .ok (.iadd, 1) := by decide +kernel
theorem dL_law_307 : decode cL_law 307 = .ok (.istore 9, 2) := by decide +kernel
theorem dL_law_309 : decode cL_law 309 = .ok (.iload 10, 2) := by decide +kernel
theorem dL_law_311 : decode cL_law 311 = .ok (.aload_n 1, 1) := by decide +kernel
theorem dL_law_312 : decode cL_law 312 = .ok (.iload 11, 2) := by decide +kernel
theorem dL_law_314 : decode cL_law 314 = .ok (.iconst 2, 1) := by decide +kernel
theorem dL_law_315 : decode cL_law 315 = .ok (.invokevirtual 77, 3) := by decide +kernel
theorem dL_law_318 : decode cL_law 318 = .ok (.iadd, 1) := by decide +kernel
theorem dL_law_319 : decode cL_law 319 = .ok (.istore 10, 2) := by decide +kernel
theorem dL_law_321 : decode cL_law 321 = .ok (.iinc 11 1, 3) := by decide +kernel
theorem dL_law_324 : decode cL_law 324 = .ok (.goto (-100), 3) := by decide +kernel
theorem dL_law_327 : decode cL_law 327 = .ok (.iload 10, 2) := by decide +kernel
theorem dL_law_329 : decode cL_law 329 = .ok (.iload_n 3, 1) := by decide +kernel
theorem dL_law_330 : decode cL_law 330 = .ok (.if_icmp .eq 5, 3) := by decide +kernel
theorem dL_law_333 : decode cL_law 333 = .ok (.iconst 0, 1) := by decide +kernel
theorem dL_law_334 : decode cL_law 334 = .ok (.ireturn, 1) := by decide +kernel
theorem dL_law_335 : decode cL_law 335 = .ok (.iconst 0, 1) := by decide +kernel
theorem dL_law_336 : decode cL_law 336 = .ok (.istore 11, 2) := by decide +kernel
theorem dL_law_338 : decode cL_law 338 = .ok (.iconst 0, 1) := by decide +kernel
theorem dL_law_339 : decode cL_law 339 = .ok (.istore 12, 2) := by decide +kernel
theorem dL_law_341 : decode cL_law 341 = .ok (.iload 12, 2) := by decide +kernel
theorem dL_law_343 : decode cL_law 343 = .ok (.aload_n 2, 1) := by decide +kernel
theorem dL_law_344 : decode cL_law 344 = .ok (.iconst 4, 1) := by decide +kernel
theorem dL_law_345 : decode cL_law 345 = .ok (.iaload, 1) := by decide +kernel
theorem dL_law_346 : decode cL_law 346 = .ok (.if_icmp .ge 200, 3) := by decide +kernel
theorem dL_law_349 : decode cL_law 349 = .ok (.aload_n 1, 1) := by decide +kernel
theorem dL_law_350 : decode cL_law 350 = .ok (.iload 12, 2) := by decide +kernel
theorem dL_law_352 : decode cL_law 352 = .ok (.iconst 0, 1) := by decide +kernel
theorem dL_law_353 : decode cL_law 353 = .ok (.invokevirtual 58, 3) := by decide +kernel
theorem dL_law_356 : decode cL_law 356 = .ok (.istore 13, 2) := by decide +kernel
theorem dL_law_358 : decode cL_law 358 = .ok (.aload_n 1, 1) := by decide +kernel
theorem dL_law_359 : decode cL_law 359 = .ok (.iload 12, 2) := by decide +kernel
theorem dL_law_361 : decode cL_law 361 = .ok (.iconst 1, 1) := by decide +kernel
theorem dL_law_362 : decode cL_law 362 = .ok (.invokevirtual 58, 3) := by decide +kernel
theorem dL_law_365 : decode cL_law 365 = .ok (.istore 14, 2) := by decide +kernel
theorem dL_law_367 : decode cL_law 367 = .ok (.iload 13, 2) := by decide +kernel
theorem dL_law_369 : decode cL_law 369 = .ok (.iconst 1, 1) := by decide +kernel
theorem dL_law_370 : decode cL_law 370 = .ok (.if_icmp .ne 7, 3) := by decide +kernel
theorem dL_law_373 : decode cL_law 373 = .ok (.iconst 1, 1) := by decide +kernel
theorem dL_law_374 : decode cL_law 374 = .ok (.goto 4, 3) := by decide +kernel
theorem dL_law_377 : decode cL_law 377 = .ok (.iconst 0, 1) := by decide +kernel
theorem dL_law_378 : decode cL_law 378 = .ok (.iload 14, 2) := by decide +kernel
theorem dL_law_380 : decode cL_law 380 = .ok (.ifCond .lt 7, 3) := by decide +kernel
theorem dL_law_383 : decode cL_law 383 = .ok (.iconst 1, 1) := by decide +kernel
theorem dL_law_384 : decode cL_law 384 = .ok (.goto 4, 3) := by decide +kernel
theorem dL_law_387 : decode cL_law 387 = .ok (.iconst 0, 1) := by decide +kernel
theorem dL_law_388 : decode cL_law 388 = .ok (.if_icmp .ne 20, 3) := by decide +kernel
theorem dL_law_391 : decode cL_law 391 = .ok (.iload 14, 2) := by decide +kernel
theorem dL_law_393 : decode cL_law 393 = .ok (.ifCond .lt 17, 3) := by decide +kernel
theorem dL_law_396 : decode cL_law 396 = .ok (.aload_n 1, 1) := by decide +kernel
theorem dL_law_397 : decode cL_law 397 = .ok (.iload 14, 2) := by decide +kernel
theorem dL_law_399 : decode cL_law 399 = .ok (.iconst 0, 1) := by decide +kernel
theorem dL_law_400 : decode cL_law 400 = .ok (.invokevirtual 77, 3) := by decide +kernel
theorem dL_law_403 : decode cL_law 403 = .ok (.iload 12, 2) := by decide +kernel
theorem dL_law_405 : decode cL_law 405 = .ok (.if_icmp .eq 5, 3) := by decide +kernel
theorem dL_law_408 : decode cL_law 408 = .ok (.iconst 0, 1) := by decide +kernel
theorem dL_law_409 : decode cL_law 409 = .ok (.ireturn, 1) := by decide +kernel
theorem dL_law_410 : decode cL_law 410 = .ok (.aload_n 1, 1) := by decide +kernel
theorem dL_law_411 : decode cL_law 411 = .ok (.iload 12, 2) := by decide +kernel
theorem dL_law_413 : decode cL_law 413 = .ok (.iconst 4, 1) := by decide +kernel
theorem dL_law_414 : decode cL_law 414 = .ok (.invokevirtual 58, 3) := by decide +kernel
theorem dL_law_417 : decode cL_law 417 = .ok (.istore 15, 2) := by decide +kernel
theorem dL_law_419 : decode cL_law 419 = .ok (.iload 11, 2) := by decide +kernel
theorem dL_law_421 : decode cL_law 421 = .ok (.iload 15, 2) := by decide +kernel
theorem dL_law_423 : decode cL_law 423 = .ok (.iadd, 1) := by decide +kernel
theorem dL_law_424 : decode cL_law 424 = .ok (.istore 11, 2) := by decide +kernel
theorem dL_law_426 : decode cL_law 426 = .ok (.iload 15, 2) := by decide +kernel
theorem dL_law_428 : decode cL_law 428 = .ok (.aload_n 1, 1) := by decide +kernel
theorem dL_law_429 : decode cL_law 429 = .ok (.iload 12, 2) := by decide +kernel
theorem dL_law_431 : decode cL_law 431 = .ok (.iconst 5, 1) := by decide +kernel
theorem dL_law_432 : decode cL_law 432 = .ok (.invokevirtual 58, 3) := by decide +kernel
theorem dL_law_435 : decode cL_law 435 = .ok (.if_icmp .gt 87, 3) := by decide +kernel
theorem dL_law_438 : decode cL_law 438 = .ok (.iload 13, 2) := by decide +kernel
theorem dL_law_440 : decode cL_law 440 = .ok (.iconst 3, 1) := by decide +kernel
theorem dL_law_441 : decode cL_law 441 = .ok (.if_icmp .ne 7, 3) := by decide +kernel
theorem dL_law_444 : decode cL_law 444 = .ok (.iconst 1, 1) := by decide +kernel
theorem dL_law_445 : decode cL_law 445 = .ok (.goto 4, 3) := by decide +kernel
theorem dL_law_448 : decode cL_law 448 = .ok (.iconst 0, 1) := by decide +kernel
theorem dL_law_449 : decode cL_law 449 = .ok (.iload 15, 2) := by decide +kernel
theorem dL_law_451 : decode cL_law 451 = .ok (.aload_n 1, 1) := by decide +kernel
theorem dL_law_452 : decode cL_law 452 = .ok (.iload 12, 2) := by decide +kernel
theorem dL_law_454 : decode cL_law 454 = .ok (.iconst 5, 1) := by decide +kernel
theorem dL_law_455 : decode cL_law 455 = .ok (.invokevirtual 58, 3) := by decide +kernel
theorem dL_law_458 : decode cL_law 458 = .ok (.if_icmp .ne 7, 3) := by decide +kernel
theorem dL_law_461 : decode cL_law 461 = .ok (.iconst 1, 1) := by decide +kernel
theorem dL_law_462 : decode cL_law 462 = .ok (.goto 4, 3) := by decide +kernel
theorem dL_law_465 : decode cL_law 465 = .ok (.iconst 0, 1) := by decide +kernel
theorem dL_law_466 : decode cL_law 466 = .ok (.if_icmp .ne 56, 3) := by decide +kernel
theorem dL_law_469 : decode cL_law 469 = .ok (.iload 15, 2) := by decide +kernel
theorem dL_law_471 : decode cL_law 471 = .ok (.ifCond .le 14, 3) := by decide +kernel
theorem dL_law_474 : decode cL_law 474 = .ok (.aload_n 1, 1) := by decide +kernel
theorem dL_law_475 : decode cL_law 475 = .ok (.iload 12, 2) := by decide +kernel
theorem dL_law_477 : decode cL_law 477 = .ok (.bipush 6, 2) := by decide +kernel
theorem dL_law_479 : decode cL_law 479 = .ok (.invokevirtual 58, 3) := by decide +kernel
theorem dL_law_482 : decode cL_law 482 = .ok (.ifCond .lt 40, 3) := by decide +kernel
theorem dL_law_485 : decode cL_law 485 = .ok (.aload_n 1, 1) := by decide +kernel
theorem dL_law_486 : decode cL_law 486 = .ok (.iload 12, 2) := by decide +kernel
theorem dL_law_488 : decode cL_law 488 = .ok (.bipush 6, 2) := by decide +kernel
theorem dL_law_490 : decode cL_law 490 = .ok (.invokevirtual 58, 3) := by decide +kernel
theorem dL_law_493 : decode cL_law 493 = .ok (.aload_n 1, 1) := by decide +kernel
theorem dL_law_494 : decode cL_law 494 = .ok (.iload 12, 2) := by decide +kernel
theorem dL_law_496 : decode cL_law 496 = .ok (.iconst 3, 1) := by decide +kernel
theorem dL_law_497 : decode cL_law 497 = .ok (.invokevirtual 58, 3) := by decide +kernel
theorem dL_law_500 : decode cL_law 500 = .ok (.if_icmp .gt 22, 3) := by decide +kernel
theorem dL_law_503 : decode cL_law 503 = .ok (.aload_n 1, 1) := by decide +kernel
theorem dL_law_504 : decode cL_law 504 = .ok (.iload 12, 2) := by decide +kernel
theorem dL_law_506 : decode cL_law 506 = .ok (.iconst 3, 1) := by decide +kernel
theorem dL_law_507 : decode cL_law 507 = .ok (.invokevirtual 58, 3) := by decide +kernel
theorem dL_law_510 : decode cL_law 510 = .ok (.aload_n 1, 1) := by decide +kernel
theorem dL_law_511 : decode cL_law 511 = .ok (.iconst 0, 1) := by decide +kernel
theorem dL_law_512 : decode cL_law 512 = .ok (.aload_n 1, 1) := by decide +kernel
theorem dL_law_513 : decode cL_law 513 = .ok (.invokevirtual 80, 3) := by decide +kernel
theorem dL_law_516 : decode cL_law 516 = .ok (.invokevirtual 84, 3) := by decide +kernel
theorem dL_law_519 : decode cL_law 519 = .ok (.if_icmp .le 5, 3) := by decide +kernel
theorem dL_law_522 : decode cL_law 522 = .ok (.iconst 0, 1) := by decide +kernel
theorem dL_law_523 : decode cL_law 523 = .ok (.ireturn, 1) := by decide +kernel
theorem dL_law_524 : decode cL_law 524 = .ok (.aload_n 1, 1) := by decide +kernel
theorem dL_law_525 : decode cL_law 525 = .ok (.iload 13, 2) := by decide +kernel
theorem dL_law_527 : decode cL_law 527 = .ok (.invokevirtual 87, 3) := by decide +kernel
theorem dL_law_530 : decode cL_law 530 = .ok (.iload 12, 2) := by decide +kernel
theorem dL_law_532 : decode cL_law 532 = .ok (.ishr, 1) := by decide +kernel
theorem dL_law_533 : decode cL_law 533 = .ok (.iconst 1, 1) := by decide +kernel
theorem dL_law_534 : decode cL_law 534 = .ok (.iand, 1) := by decide +kernel
theorem dL_law_535 : decode cL_law 535 = .ok (.ifCond .ne 5, 3) := by decide +kernel
theorem dL_law_538 : decode cL_law 538 = .ok (.iconst 0, 1) := by decide +kernel
theorem dL_law_539 : decode cL_law 539 = .ok (.ireturn, 1) := by decide +kernel
theorem dL_law_540 : decode cL_law 540 = .ok (.iinc 12 1, 3) := by decide +kernel
theorem dL_law_543 : decode cL_law 543 = .ok (.goto (-202), 3) := by decide +kernel
theorem dL_law_546 : decode cL_law 546 = .ok (.iload 11, 2) := by decide +kernel
theorem dL_law_548 : decode cL_law 548 = .ok (.iload 9, 2) := by decide +kernel
theorem dL_law_550 : decode cL_law 550 = .ok (.if_icmp .eq 5, 3) := by decide +kernel
theorem dL_law_553 : decode cL_law 553 = .ok (.iconst 0, 1) := by decide +kernel
theorem dL_law_554 : decode cL_law 554 = .ok (.ireturn, 1) := by decide +kernel
theorem dL_law_555 : decode cL_law 555 = .ok (.iinc 4 1, 3) := by decide +kernel
theorem dL_law_558 : decode cL_law 558 = .ok (.goto (-530), 3) := by decide +kernel
theorem dL_law_561 : decode cL_law 561 = .ok (.iconst 1, 1) := by decide +kernel
theorem dL_law_562 : decode cL_law 562 = .ok (.ireturn, 1) := by decide +kernel
