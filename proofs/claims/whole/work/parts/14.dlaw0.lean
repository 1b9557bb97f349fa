theorem d_Law_law_0 : decode code 0 = .ok (.new 8, 3) := by decide +kernel
theorem d_Law_law_3 : decode code 3 = .ok (.dup, 1) := by decide +kernel
theorem d_Law_law_4 : decode code 4 = .ok (.invokespecial 56, 3) := by decide +kernel
theorem d_Law_law_7 : decode code 7 = .ok (.astore_n 1, 1) := by decide +kernel
theorem d_Law_law_8 : decode code 8 = .ok (.new 57, 3) := by decide +kernel
theorem d_Law_law_11 : decode code 11 = .ok (.dup, 1) := by decide +kernel
theorem d_Law_law_12 : decode code 12 = .ok (.invokespecial 59, 3) := by decide +kernel
theorem d_Law_law_15 : decode code 15 = .ok (.astore_n 2, 1) := by decide +kernel
theorem d_Law_law_16 : decode code 16 = .ok (.iconst 1, 1) := by decide +kernel
theorem d_Law_law_17 : decode code 17 = .ok (.newarray .long, 2) := by decide +kernel
theorem d_Law_law_19 : decode code 19 = .ok (.astore_n 3, 1) := by decide +kernel
theorem d_Law_law_20 : decode code 20 = .ok (.iconst 0, 1) := by decide +kernel
theorem d_Law_law_21 : decode code 21 = .ok (.istore 4, 2) := by decide +kernel
theorem d_Law_law_23 : decode code 23 = .ok (.iload 4, 2) := by decide +kernel
theorem d_Law_law_25 : decode code 25 = .ok (.aload_n 0, 1) := by decide +kernel
theorem d_Law_law_26 : decode code 26 = .ok (.arraylength, 1) := by decide +kernel
theorem d_Law_law_27 : decode code 27 = .ok (.bipush 7, 2) := by decide +kernel
theorem d_Law_law_29 : decode code 29 = .ok (.isub, 1) := by decide +kernel
theorem d_Law_law_30 : decode code 30 = .ok (.if_icmp .gt 973, 3) := by decide +kernel
theorem d_Law_law_33 : decode code 33 = .ok (.aload_n 0, 1) := by decide +kernel
theorem d_Law_law_34 : decode code 34 = .ok (.iload 4, 2) := by decide +kernel
theorem d_Law_law_36 : decode code 36 = .ok (.iaload, 1) := by decide +kernel
theorem d_Law_law_37 : decode code 37 = .ok (.bipush 15, 2) := by decide +kernel
theorem d_Law_law_39 : decode code 39 = .ok (.iand, 1) := by decide +kernel
theorem d_Law_law_40 : decode code 40 = .ok (.tableswitch 957 0 12 #[68, 187, 254, 321, 486, 570, 626, 682, 738, 752, 765, 833, 901], 68) := by decide +kernel
theorem d_Law_law_108 : decode code 108 = .ok (.aload_n 1, 1) := by decide +kernel
theorem d_Law_law_109 : decode code 109 = .ok (.aload_n 0, 1) := by decide +kernel
theorem d_Law_law_110 : decode code 110 = .ok (.iload 4, 2) := by decide +kernel
theorem d_Law_law_112 : decode code 112 = .ok (.iconst 1, 1) := by decide +kernel
theorem d_Law_law_113 : decode code 113 = .ok (.iadd, 1) := by decide +kernel
theorem d_Law_law_114 : decode code 114 = .ok (.iaload, 1) := by decide +kernel
theorem d_Law_law_115 : decode code 115 = .ok (.aload_n 0, 1) := by decide +kernel
theorem d_Law_law_116 : decode code 116 = .ok (.iload 4, 2) := by decide +kernel
theorem d_Law_law_118 : decode code 118 = .ok (.iconst 2, 1) := by decide +kernel
theorem d_Law_law_119 : decode code 119 = .ok (.iadd, 1) := by decide +kernel
theorem d_Law_law_120 : decode code 120 = .ok (.iaload, 1) := by decide +kernel
theorem d_Law_law_121 : decode code 121 = .ok (.aload_n 0, 1) := by decide +kernel
theorem d_Law_law_122 : decode code 122 = .ok (.iload 4, 2) := by decide +kernel
theorem d_Law_law_124 : decode code 124 = .ok (.iconst 3, 1) := by decide +kernel
theorem d_Law_law_125 : decode code 125 = .ok (.iadd, 1) := by decide +kernel
theorem d_Law_law_126 : decode code 126 = .ok (.iaload, 1) := by decide +kernel
theorem d_Law_law_127 : decode code 127 = .ok (.i2l, 1) := by decide +kernel
theorem d_Law_law_128 : decode code 128 = .ok (.bipush 32, 2) := by decide +kernel
theorem d_Law_law_130 : decode code 130 = .ok (.lshl, 1) := by decide +kernel
theorem d_Law_law_131 : decode code 131 = .ok (.aload_n 0, 1) := by decide +kernel
theorem d_Law_law_132 : decode code 132 = .ok (.iload 4, 2) := by decide +kernel
theorem d_Law_law_134 : decode code 134 = .ok (.iconst 4, 1) := by decide +kernel
theorem d_Law_law_135 : decode code 135 = .ok (.iadd, 1) := by decide +kernel
theorem d_Law_law_136 : decode code 136 = .ok (.iaload, 1) := by decide +kernel
theorem d_Law_law_137 : decode code 137 = .ok (.i2l, 1) := by decide +kernel
theorem d_Law_law_138 : decode code 138 = .ok (.ldc2_w 60, 3) := by decide +kernel
theorem d_Law_law_141 : decode code 141 = .ok (.land, 1) := by decide +kernel
theorem d_Law_law_142 : decode code 142 = .ok (.lor, 1) := by decide +kernel
theorem d_Law_law_143 : decode code 143 = .ok (.aload_n 3, 1) := by decide +kernel
theorem d_Law_law_144 : decode code 144 = .ok (.invokestatic 62, 3) := by decide +kernel
theorem d_Law_law_147 : decode code 147 = .ok (.istore 5, 2) := by decide +kernel
theorem d_Law_law_149 : decode code 149 = .ok (.aload_n 2, 1) := by decide +kernel
theorem d_Law_law_150 : decode code 150 = .ok (.aload_n 0, 1) := by decide +kernel
theorem d_Law_law_151 : decode code 151 = .ok (.iload 4, 2) := by decide +kernel
theorem d_Law_law_153 : decode code 153 = .ok (.iconst 1, 1) := by decide +kernel
theorem d_Law_law_154 : decode code 154 = .ok (.iadd, 1) := by decide +kernel
theorem d_Law_law_155 : decode code 155 = .ok (.iaload, 1) := by decide +kernel
theorem d_Law_law_156 : decode code 156 = .ok (.aload_n 0, 1) := by decide +kernel
theorem d_Law_law_157 : decode code 157 = .ok (.iload 4, 2) := by decide +kernel
theorem d_Law_law_159 : decode code 159 = .ok (.iconst 2, 1) := by decide +kernel
theorem d_Law_law_160 : decode code 160 = .ok (.iadd, 1) := by decide +kernel
theorem d_Law_law_161 : decode code 161 = .ok (.iaload, 1) := by decide +kernel
theorem d_Law_law_162 : decode code 162 = .ok (.aload_n 0, 1) := by decide +kernel
theorem d_Law_law_163 : decode code 163 = .ok (.iload 4, 2) := by decide +kernel
theorem d_Law_law_165 : decode code 165 = .ok (.iconst 3, 1) := by decide +kernel
theorem d_Law_law_166 : decode code 166 = .ok (.iadd, 1) := by decide +kernel
theorem d_Law_law_167 : decode code 167 = .ok (.iaload, 1) := by decide +kernel
theorem d_Law_law_168 : decode code 168 = .ok (.i2l, 1) := by decide +kernel
theorem d_Law_law_169 : decode code 169 = .ok (.bipush 32, 2) := by decide +kernel
theorem d_Law_law_171 : decode code 171 = .ok (.lshl, 1) := by decide +kernel
theorem d_Law_law_172 : decode code 172 = .ok (.aload_n 0, 1) := by decide +kernel
theorem d_Law_law_173 : decode code 173 = .ok (.iload 4, 2) := by decide +kernel
theorem d_Law_law_175 : decode code 175 = .ok (.iconst 4, 1) := by decide +kernel
theorem d_Law_law_176 : decode code 176 = .ok (.iadd, 1) := by decide +kernel
theorem d_Law_law_177 : decode code 177 = .ok (.iaload, 1) := by decide +kernel
theorem d_Law_law_178 : decode code 178 = .ok (.i2l, 1) := by decide +kernel
theorem d_Law_law_179 : decode code 179 = .ok (.ldc2_w 60, 3) := by decide +kernel
theorem d_Law_law_182 : decode code 182 = .ok (.land, 1) := by decide +kernel
theorem d_Law_law_183 : decode code 183 = .ok (.lor, 1) := by decide +kernel
theorem d_Law_law_184 : decode code 184 = .ok (.invokevirtual 67, 3) := by decide +kernel
theorem d_Law_law_187 : decode code 187 = .ok (.istore 6, 2) := by decide +kernel
theorem d_Law_law_189 : decode code 189 = .ok (.aload_n 2, 1) := by decide +kernel
theorem d_Law_law_190 : decode code 190 = .ok (.invokevirtual 68, 3) := by decide +kernel
theorem d_Law_law_193 : decode code 193 = .ok (.iload 5, 2) := by decide +kernel
theorem d_Law_law_195 : decode code 195 = .ok (.if_icmp .eq 5, 3) := by decide +kernel
theorem d_Law_law_198 : decode code 198 = .ok (.iconst 0, 1) := by decide +kernel
theorem d_Law_law_199 : decode code 199 = .ok (.ireturn, 1) := by decide +kernel
theorem d_Law_law_200 : decode code 200 = .ok (.iload 5, 2) := by decide +kernel
theorem d_Law_law_202 : decode code 202 = .ok (.ifCond .ne 22, 3) := by decide +kernel
theorem d_Law_law_205 : decode code 205 = .ok (.aload_n 3, 1) := by decide +kernel
theorem d_Law_law_206 : decode code 206 = .ok (.iconst 0, 1) := by decide +kernel
theorem d_Law_law_207 : decode code 207 = .ok (.laload, 1) := by decide +kernel
theorem d_Law_law_208 : decode code 208 = .ok (.iload 6, 2) := by decide +kernel
theorem d_Law_law_210 : decode code 210 = .ok (.ifCond .eq 7, 3) := by decide +kernel
theorem d_Law_law_213 : decode code 213 = .ok (.lconst 1, 1) := by decide +kernel
theorem d_Law_law_214 : decode code 214 = .ok (.goto 4, 3) := by decide +kernel
theorem d_Law_law_217 : decode code 217 = .ok (.lconst 0, 1) := by decide +kernel
theorem d_Law_law_218 : decode code 218 = .ok (.lcmp, 1) := by decide +kernel
theorem d_Law_law_219 : decode code 219 = .ok (.ifCond .eq 5, 3) := by decide +kernel
theorem d_Law_law_222 : decode code 222 = .ok (.iconst 0, 1) := by decide +kernel
theorem d_Law_law_223 : decode code 223 = .ok (.ireturn, 1) := by decide +kernel
theorem d_Law_law_224 : decode code 224 = .ok (.goto 773, 3) := by decide +kernel
theorem d_Law_law_227 : decode code 227 = .ok (.aload_n 1, 1) := by decide +kernel
theorem d_Law_law_228 : decode code 228 = .ok (.aload_n 0, 1) := by decide +kernel
theorem d_Law_law_229 : decode code 229 = .ok (.iload 4, 2) := by decide +kernel
theorem d_Law_law_231 : decode code 231 = .ok (.iconst 1, 1) := by decide +kernel
theorem d_Law_law_232 : decode code 232 = .ok (.iadd, 1) := by decide +kernel
theorem d_Law_law_233 : decode code 233 = .ok (.iaload, 1) := by decide +kernel
theorem d_Law_law_234 : decode code 234 = .ok (.aload_n 0, 1) := by decide +kernel
theorem d_Law_law_235 : decode code 235 = .ok (.iload 4, 2) := by decide +kernel
theorem d_Law_law_237 : decode code 237 = .ok (.iconst 2, 1) := by decide +kernel
theorem d_Law_law_238 : decode code 238 = .ok (.iadd, 1) := by decide +kernel
theorem d_Law_law_239 : decode code 239 = .ok (.iaload, 1) := by decide +kernel
theorem d_Law_law_240 : decode code 240 = .ok (.aload_n 3, 1) := by decide +kernel
theorem d_Law_law_241 : decode code 241 = .ok (.invokestatic 72, 3) := by decide +kernel
theorem d_Law_law_244 : decode code 244 = .ok (.istore 5, 2) := by decide +kernel
theorem d_Law_law_246 : decode code 246 = .ok (.aload_n 2, 1) := by decide +kernel
theorem d_Law_law_247 : decode code 247 = .ok (.aload_n 0, 1) := by decide +kernel
theorem d_Law_law_248 : decode code 248 = .ok (.iload 4, 2) := by decide +kernel
theorem d_Law_law_250 : decode code 250 = .ok (.iconst 1, 1) := by decide +kernel
theorem d_Law_law_251 : decode code 251 = .ok (.iadd, 1) := by decide +kernel
theorem d_Law_law_252 : decode code 252 = .ok (.iaload, 1) := by decide +kernel
theorem d_Law_law_253 : decode code 253 = .ok (.aload_n 0, 1) := by decide +kernel
theorem d_Law_law_254 : decode code 254 = .ok (.iload 4, 2) := by decide +kernel
theorem d_Law_law_256 : decode code 256 = .ok (.iconst 2, 1) := by decide +kernel
theorem d_Law_law_257 : decode code 257 = .ok (.iadd, 1) := by decide +kernel
theorem d_Law_law_258 : decode code 258 = .ok (.iaload, 1) := by decide +kernel
theorem d_Law_law_259 : decode code 259 = .ok (.invokevirtual 75, 3) := by decide +kernel
theorem d_Law_law_262 : decode code 262 = .ok (.lstore 6, 2) := by decide +kernel
theorem d_Law_law_264 : decode code 264 = .ok (.aload_n 2, 1) := by decide +kernel
theorem d_Law_law_265 : decode code 265 = .ok (.invokevirtual 68, 3) := by decide +kernel
theorem d_Law_law_268 : decode code 268 = .ok (.iload 5, 2) := by decide +kernel
theorem d_Law_law_270 : decode code 270 = .ok (.if_icmp .eq 5, 3) := by decide +kernel
theorem d_Law_law_273 : decode code 273 = .ok (.iconst 0, 1) := by decide +kernel
theorem d_Law_law_274 : decode code 274 = .ok (.ireturn, 1) := by decide +kernel
theorem d_Law_law_275 : decode code 275 = .ok (.iload 5, 2) := by decide +kernel
theorem d_Law_law_277 : decode code 277 = .ok (.ifCond .ne 14, 3) := by decide +kernel
theorem d_Law_law_280 : decode code 280 = .ok (.aload_n 3, 1) := by decide +kernel
theorem d_Law_law_281 : decode code 281 = .ok (.iconst 0, 1) := by decide +kernel
theorem d_Law_law_282 : decode code 282 = .ok (.laload, 1) := by decide +kernel
theorem d_Law_law_283 : decode code 283 = .ok (.lload 6, 2) := by decide +kernel
theorem d_Law_law_285 : decode code 285 = .ok (.lcmp, 1) := by decide +kernel
theorem d_Law_law_286 : decode code 286 = .ok (.ifCond .eq 5, 3) := by decide +kernel
theorem d_Law_law_289 : decode code 289 = .ok (.iconst 0, 1) := by decide +kernel
theorem d_Law_law_290 : decode code 290 = .ok (.ireturn, 1) := by decide +kernel
theorem d_Law_law_291 : decode code 291 = .ok (.goto 706, 3) := by decide +kernel
theorem d_Law_law_294 : decode code 294 = .ok (.aload_n 1, 1) := by decide +kernel
theorem d_Law_law_295 : decode code 295 = .ok (.aload_n 0, 1) := by decide +kernel
theorem d_Law_law_296 : decode code 296 = .ok (.iload 4, 2) := by decide +kernel
