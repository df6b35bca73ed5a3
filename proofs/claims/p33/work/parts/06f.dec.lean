theorem dL_law_0 : decode cL_law 0 = .ok (.new 21, 3) := by decide +kernel
theorem dL_law_3 : decode cL_law 3 = .ok (.dup, 1) := by decide +kernel
theorem dL_law_4 : decode cL_law 4 = .ok (.invokespecial 84, 3) := by decide +kernel
theorem dL_law_7 : decode cL_law 7 = .ok (.astore_n 1, 1) := by decide +kernel
theorem dL_law_8 : decode cL_law 8 = .ok (.bipush 16, 2) := by decide +kernel
theorem dL_law_10 : decode cL_law 10 = .ok (.newarray .int, 2) := by decide +kernel
theorem dL_law_12 : decode cL_law 12 = .ok (.astore_n 2, 1) := by decide +kernel
theorem dL_law_13 : decode cL_law 13 = .ok (.iconst 1, 1) := by decide +kernel
theorem dL_law_14 : decode cL_law 14 = .ok (.aload_n 0, 1) := by decide +kernel
theorem dL_law_15 : decode cL_law 15 = .ok (.iconst 0, 1) := by decide +kernel
theorem dL_law_16 : decode cL_law 16 = .ok (.invokestatic 10, 3) := by decide +kernel
theorem dL_law_19 : decode cL_law 19 = .ok (.bipush 7, 2) := by decide +kernel
theorem dL_law_21 : decode cL_law 21 = .ok (.invokestatic 16, 3) := by decide +kernel
theorem dL_law_24 : decode cL_law 24 = .ok (.iadd, 1) := by decide +kernel
theorem dL_law_25 : decode cL_law 25 = .ok (.istore_n 3, 1) := by decide +kernel
theorem dL_law_26 : decode cL_law 26 = .ok (.iconst 1, 1) := by decide +kernel
theorem dL_law_27 : decode cL_law 27 = .ok (.aload_n 0, 1) := by decide +kernel
theorem dL_law_28 : decode cL_law 28 = .ok (.bipush 18, 2) := by decide +kernel
theorem dL_law_30 : decode cL_law 30 = .ok (.invokestatic 10, 3) := by decide +kernel
theorem dL_law_33 : decode cL_law 33 = .ok (.bipush 20, 2) := by decide +kernel
theorem dL_law_35 : decode cL_law 35 = .ok (.invokestatic 16, 3) := by decide +kernel
theorem dL_law_38 : decode cL_law 38 = .ok (.iadd, 1) := by decide +kernel
theorem dL_law_39 : decode cL_law 39 = .ok (.istore 4, 2) := by decide +kernel
theorem dL_law_41 : decode cL_law 41 = .ok (.aload_n 1, 1) := by decide +kernel
theorem dL_law_42 : decode cL_law 42 = .ok (.iload 4, 2) := by decide +kernel
theorem dL_law_44 : decode cL_law 44 = .ok (.invokevirtual 85, 3) := by decide +kernel
theorem dL_law_47 : decode cL_law 47 = .ok (.bipush 10, 2) := by decide +kernel
theorem dL_law_49 : decode cL_law 49 = .ok (.if_icmp .ne 20, 3) := by decide +kernel
theorem dL_law_52 : decode cL_law 52 = .ok (.aload_n 1, 1) := by decide +kernel
theorem dL_law_53 : decode cL_law 53 = .ok (.aload_n 0, 1) := by decide +kernel
theorem dL_law_54 : decode cL_law 54 = .ok (.iload_n 3, 1) := by decide +kernel
theorem dL_law_55 : decode cL_law 55 = .ok (.invokestatic 88, 3) := by decide +kernel
theorem dL_law_58 : decode cL_law 58 = .ok (.ifCond .eq 11, 3) := by decide +kernel
theorem dL_law_61 : decode cL_law 61 = .ok (.aload_n 1, 1) := by decide +kernel
theorem dL_law_62 : decode cL_law 62 = .ok (.iload_n 3, 1) := by decide +kernel
theorem dL_law_63 : decode cL_law 63 = .ok (.invokestatic 92, 3) := by decide +kernel
theorem dL_law_66 : decode cL_law 66 = .ok (.ifCond .ne 5, 3) := by decide +kernel
theorem dL_law_69 : decode cL_law 69 = .ok (.iconst 0, 1) := by decide +kernel
theorem dL_law_70 : decode cL_law 70 = .ok (.ireturn, 1) := by decide +kernel
theorem dL_law_71 : decode cL_law 71 = .ok (.iconst 0, 1) := by decide +kernel
theorem dL_law_72 : decode cL_law 72 = .ok (.istore 5, 2) := by decide +kernel
theorem dL_law_74 : decode cL_law 74 = .ok (.iload 5, 2) := by decide +kernel
theorem dL_law_76 : decode cL_law 76 = .ok (.bipush 7, 2) := by decide +kernel
theorem dL_law_78 : decode cL_law 78 = .ok (.if_icmp .ge 240, 3) := by decide +kernel
theorem dL_law_81 : decode cL_law 81 = .ok (.aload_n 0, 1) := by decide +kernel
theorem dL_law_82 : decode cL_law 82 = .ok (.bipush 20, 2) := by decide +kernel
theorem dL_law_84 : decode cL_law 84 = .ok (.iload 5, 2) := by decide +kernel
theorem dL_law_86 : decode cL_law 86 = .ok (.iadd, 1) := by decide +kernel
theorem dL_law_87 : decode cL_law 87 = .ok (.invokestatic 10, 3) := by decide +kernel
theorem dL_law_90 : decode cL_law 90 = .ok (.istore 6, 2) := by decide +kernel
theorem dL_law_92 : decode cL_law 92 = .ok (.aload_n 0, 1) := by decide +kernel
theorem dL_law_93 : decode cL_law 93 = .ok (.bipush 30, 2) := by decide +kernel
theorem dL_law_95 : decode cL_law 95 = .ok (.iload 5, 2) := by decide +kernel
theorem dL_law_97 : decode cL_law 97 = .ok (.iadd, 1) := by decide +kernel
theorem dL_law_98 : decode cL_law 98 = .ok (.invokestatic 10, 3) := by decide +kernel
theorem dL_law_101 : decode cL_law 101 = .ok (.istore 7, 2) := by decide +kernel
theorem dL_law_103 : decode cL_law 103 = .ok (.aload_n 1, 1) := by decide +kernel
theorem dL_law_104 : decode cL_law 104 = .ok (.iload_n 3, 1) := by decide +kernel
theorem dL_law_105 : decode cL_law 105 = .ok (.iload 6, 2) := by decide +kernel
theorem dL_law_107 : decode cL_law 107 = .ok (.invokestatic 96, 3) := by decide +kernel
theorem dL_law_110 : decode cL_law 110 = .ok (.ifCond .eq 33, 3) := by decide +kernel
theorem dL_law_113 : decode cL_law 113 = .ok (.aload_n 1, 1) := by decide +kernel
theorem dL_law_114 : decode cL_law 114 = .ok (.iload 7, 2) := by decide +kernel
theorem dL_law_116 : decode cL_law 116 = .ok (.iload_n 3, 1) := by decide +kernel
theorem dL_law_117 : decode cL_law 117 = .ok (.invokestatic 16, 3) := by decide +kernel
theorem dL_law_120 : decode cL_law 120 = .ok (.invokestatic 100, 3) := by decide +kernel
theorem dL_law_123 : decode cL_law 123 = .ok (.ifCond .eq 20, 3) := by decide +kernel
theorem dL_law_126 : decode cL_law 126 = .ok (.aload_n 1, 1) := by decide +kernel
theorem dL_law_127 : decode cL_law 127 = .ok (.iload_n 3, 1) := by decide +kernel
theorem dL_law_128 : decode cL_law 128 = .ok (.aload_n 2, 1) := by decide +kernel
theorem dL_law_129 : decode cL_law 129 = .ok (.invokestatic 102, 3) := by decide +kernel
theorem dL_law_132 : decode cL_law 132 = .ok (.ifCond .eq 11, 3) := by decide +kernel
theorem dL_law_135 : decode cL_law 135 = .ok (.aload_n 1, 1) := by decide +kernel
theorem dL_law_136 : decode cL_law 136 = .ok (.iload_n 3, 1) := by decide +kernel
theorem dL_law_137 : decode cL_law 137 = .ok (.invokestatic 92, 3) := by decide +kernel
theorem dL_law_140 : decode cL_law 140 = .ok (.ifCond .ne 5, 3) := by decide +kernel
theorem dL_law_143 : decode cL_law 143 = .ok (.iconst 0, 1) := by decide +kernel
theorem dL_law_144 : decode cL_law 144 = .ok (.ireturn, 1) := by decide +kernel
theorem dL_law_145 : decode cL_law 145 = .ok (.iload 7, 2) := by decide +kernel
theorem dL_law_147 : decode cL_law 147 = .ok (.iconst 4, 1) := by decide +kernel
theorem dL_law_148 : decode cL_law 148 = .ok (.ishr, 1) := by decide +kernel
theorem dL_law_149 : decode cL_law 149 = .ok (.iconst 4, 1) := by decide +kernel
theorem dL_law_150 : decode cL_law 150 = .ok (.invokestatic 16, 3) := by decide +kernel
theorem dL_law_153 : decode cL_law 153 = .ok (.ifCond .ne 21, 3) := by decide +kernel
theorem dL_law_156 : decode cL_law 156 = .ok (.aload_n 1, 1) := by decide +kernel
theorem dL_law_157 : decode cL_law 157 = .ok (.iload 7, 2) := by decide +kernel
theorem dL_law_159 : decode cL_law 159 = .ok (.bipush 6, 2) := by decide +kernel
theorem dL_law_161 : decode cL_law 161 = .ok (.ishr, 1) := by decide +kernel
theorem dL_law_162 : decode cL_law 162 = .ok (.iload_n 3, 1) := by decide +kernel
theorem dL_law_163 : decode cL_law 163 = .ok (.invokestatic 16, 3) := by decide +kernel
theorem dL_law_166 : decode cL_law 166 = .ok (.invokestatic 105, 3) := by decide +kernel
theorem dL_law_169 : decode cL_law 169 = .ok (.ifCond .ne 5, 3) := by decide +kernel
theorem dL_law_172 : decode cL_law 172 = .ok (.iconst 0, 1) := by decide +kernel
theorem dL_law_173 : decode cL_law 173 = .ok (.ireturn, 1) := by decide +kernel
theorem dL_law_174 : decode cL_law 174 = .ok (.iload 7, 2) := by decide +kernel
theorem dL_law_176 : decode cL_law 176 = .ok (.bipush 10, 2) := by decide +kernel
theorem dL_law_178 : decode cL_law 178 = .ok (.ishr, 1) := by decide +kernel
theorem dL_law_179 : decode cL_law 179 = .ok (.iconst 5, 1) := by decide +kernel
theorem dL_law_180 : decode cL_law 180 = .ok (.invokestatic 16, 3) := by decide +kernel
theorem dL_law_183 : decode cL_law 183 = .ok (.ifCond .ne 21, 3) := by decide +kernel
theorem dL_law_186 : decode cL_law 186 = .ok (.aload_n 1, 1) := by decide +kernel
theorem dL_law_187 : decode cL_law 187 = .ok (.iload 7, 2) := by decide +kernel
theorem dL_law_189 : decode cL_law 189 = .ok (.bipush 13, 2) := by decide +kernel
theorem dL_law_191 : decode cL_law 191 = .ok (.ishr, 1) := by decide +kernel
theorem dL_law_192 : decode cL_law 192 = .ok (.iload_n 3, 1) := by decide +kernel
theorem dL_law_193 : decode cL_law 193 = .ok (.invokestatic 16, 3) := by decide +kernel
theorem dL_law_196 : decode cL_law 196 = .ok (.invokestatic 107, 3) := by decide +kernel
theorem dL_law_199 : decode cL_law 199 = .ok (.ifCond .ne 5, 3) := by decide +kernel
theorem dL_law_202 : decode cL_law 202 = .ok (.iconst 0, 1) := by decide +kernel
theorem dL_law_203 : decode cL_law 203 = .ok (.ireturn, 1) := by decide +kernel
theorem dL_law_204 : decode cL_law 204 = .ok (.iload 7, 2) := by decide +kernel
theorem dL_law_206 : decode cL_law 206 = .ok (.bipush 16, 2) := by decide +kernel
theorem dL_law_208 : decode cL_law 208 = .ok (.ishr, 1) := by decide +kernel
theorem dL_law_209 : decode cL_law 209 = .ok (.iload_n 3, 1) := by decide +kernel
theorem dL_law_210 : decode cL_law 210 = .ok (.invokestatic 16, 3) := by decide +kernel
theorem dL_law_213 : decode cL_law 213 = .ok (.istore 8, 2) := by decide +kernel
theorem dL_law_215 : decode cL_law 215 = .ok (.iload_n 3, 1) := by decide +kernel
theorem dL_law_216 : decode cL_law 216 = .ok (.iconst 1, 1) := by decide +kernel
theorem dL_law_217 : decode cL_law 217 = .ok (.if_icmp .le 32, 3) := by decide +kernel
theorem dL_law_220 : decode cL_law 220 = .ok (.aload_n 1, 1) := by decide +kernel
theorem dL_law_221 : decode cL_law 221 = .ok (.iload 8, 2) := by decide +kernel
theorem dL_law_223 : decode cL_law 223 = .ok (.iload 8, 2) := by decide +kernel
theorem dL_law_225 : decode cL_law 225 = .ok (.iconst 1, 1) := by decide +kernel
theorem dL_law_226 : decode cL_law 226 = .ok (.iadd, 1) := by decide +kernel
theorem dL_law_227 : decode cL_law 227 = .ok (.iload 7, 2) := by decide +kernel
theorem dL_law_229 : decode cL_law 229 = .ok (.bipush 20, 2) := by decide +kernel
theorem dL_law_231 : decode cL_law 231 = .ok (.ishr, 1) := by decide +kernel
theorem dL_law_232 : decode cL_law 232 = .ok (.iload_n 3, 1) := by decide +kernel
theorem dL_law_233 : decode cL_law 233 = .ok (.iconst 1, 1) := by decide +kernel
theorem dL_law_234 : decode cL_law 234 = .ok (.isub, 1) := by decide +kernel
theorem dL_law_235 : decode cL_law 235 = .ok (.invokestatic 16, 3) := by decide +kernel
theorem dL_law_238 : decode cL_law 238 = .ok (.iadd, 1) := by decide +kernel
theorem dL_law_239 : decode cL_law 239 = .ok (.iload_n 3, 1) := by decide +kernel
theorem dL_law_240 : decode cL_law 240 = .ok (.irem, 1) := by decide +kernel
theorem dL_law_241 : decode cL_law 241 = .ok (.invokestatic 109, 3) := by decide +kernel
theorem dL_law_244 : decode cL_law 244 = .ok (.ifCond .ne 5, 3) := by decide +kernel
theorem dL_law_247 : decode cL_law 247 = .ok (.iconst 0, 1) := by decide +kernel
theorem dL_law_248 : decode cL_law 248 = .ok (.ireturn, 1) := by decide +kernel
theorem dL_law_249 : decode cL_law 249 = .ok (.iload 7, 2) := by decide +kernel
theorem dL_law_251 : decode cL_law 251 = .ok (.bipush 24, 2) := by decide +kernel
theorem dL_law_253 : decode cL_law 253 = .ok (.ishr, 1) := by decide +kernel
theorem dL_law_254 : decode cL_law 254 = .ok (.iconst 3, 1) := by decide +kernel
theorem dL_law_255 : decode cL_law 255 = .ok (.invokestatic 16, 3) := by decide +kernel
theorem dL_law_258 : decode cL_law 258 = .ok (.ifCond .ne 44, 3) := by decide +kernel
theorem dL_law_261 : decode cL_law 261 = .ok (.aload_n 1, 1) := by decide +kernel
theorem dL_law_262 : decode cL_law 262 = .ok (.iload 8, 2) := by decide +kernel
theorem dL_law_264 : decode cL_law 264 = .ok (.iconst 0, 1) := by decide +kernel
theorem dL_law_265 : decode cL_law 265 = .ok (.invokevirtual 26, 3) := by decide +kernel
theorem dL_law_268 : decode cL_law 268 = .ok (.istore 9, 2) := by decide +kernel
theorem dL_law_270 : decode cL_law 270 = .ok (.iconst 1, 1) := by decide +kernel
theorem dL_law_271 : decode cL_law 271 = .ok (.iload 7, 2) := by decide +kernel
theorem dL_law_273 : decode cL_law 273 = .ok (.bipush 26, 2) := by decide +kernel
theorem dL_law_275 : decode cL_law 275 = .ok (.ishr, 1) := by decide +kernel
theorem dL_law_276 : decode cL_law 276 = .ok (.bipush 30, 2) := by decide +kernel
theorem dL_law_278 : decode cL_law 278 = .ok (.invokestatic 16, 3) := by decide +kernel
theorem dL_law_281 : decode cL_law 281 = .ok (.iadd, 1) := by decide +kernel
theorem dL_law_282 : decode cL_law 282 = .ok (.istore 10, 2) := by decide +kernel
theorem dL_law_284 : decode cL_law 284 = .ok (.aload_n 1, 1) := by decide +kernel
theorem dL_law_285 : decode cL_law 285 = .ok (.iload 8, 2) := by decide +kernel
theorem dL_law_287 : decode cL_law 287 = .ok (.iload 10, 2) := by decide +kernel
theorem dL_law_289 : decode cL_law 289 = .ok (.invokevirtual 111, 3) := by decide +kernel
theorem dL_law_292 : decode cL_law 292 = .ok (.iload 9, 2) := by decide +kernel
theorem dL_law_294 : decode cL_law 294 = .ok (.iload 10, 2) := by decide +kernel
theorem dL_law_296 : decode cL_law 296 = .ok (.iadd, 1) := by decide +kernel
theorem dL_law_297 : decode cL_law 297 = .ok (.if_icmp .eq 5, 3) := by decide +kernel
theorem dL_law_300 : decode cL_law 300 = .ok (.iconst 0, 1) := by decide +kernel
theorem dL_law_301 : decode cL_law 301 = .ok (.ireturn, 1) := by decide +kernel
theorem dL_law_302 : decode cL_law 302 = .ok (.aload_n 1, 1) := by decide +kernel
theorem dL_law_303 : decode cL_law 303 = .ok (.iload_n 3, 1) := by decide +kernel
theorem dL_law_304 : decode cL_law 304 = .ok (.invokestatic 92, 3) := by decide +kernel
theorem dL_law_307 : decode cL_law 307 = .ok (.ifCond .ne 5, 3) := by decide +kernel
theorem dL_law_310 : decode cL_law 310 = .ok (.iconst 0, 1) := by decide +kernel
theorem dL_law_311 : decode cL_law 311 = .ok (.ireturn, 1) := by decide +kernel
theorem dL_law_312 : decode cL_law 312 = .ok (.iinc 5 1, 3) := by decide +kernel
theorem dL_law_315 : decode cL_law 315 = .ok (.goto (-241), 3) := by decide +kernel
theorem dL_law_318 : decode cL_law 318 = .ok (.iconst 1, 1) := by decide +kernel
theorem dL_law_319 : decode cL_law 319 = .ok (.ireturn, 1) := by decide +kernel
abbrev vwCl : List vw_C := [(RX0, TX0, 3), (RX1, TX1, 3), (RX2, TX2, 2), (RX3, TX3, 17), (RX4, TX4, 3), (RX5, TX5, 8)]
