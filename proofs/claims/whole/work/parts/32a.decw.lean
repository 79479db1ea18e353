theorem kL_law_0 : decode mL_law.2.1 0 = .ok (.new 8, 3) := by decide +kernel
theorem kL_law_3 : decode mL_law.2.1 3 = .ok (.dup, 1) := by decide +kernel
theorem kL_law_4 : decode mL_law.2.1 4 = .ok (.invokespecial 66, 3) := by decide +kernel
theorem kL_law_7 : decode mL_law.2.1 7 = .ok (.astore_n 1, 1) := by decide +kernel
theorem kL_law_8 : decode mL_law.2.1 8 = .ok (.new 67, 3) := by decide +kernel
theorem kL_law_11 : decode mL_law.2.1 11 = .ok (.dup, 1) := by decide +kernel
theorem kL_law_12 : decode mL_law.2.1 12 = .ok (.invokespecial 69, 3) := by decide +kernel
theorem kL_law_15 : decode mL_law.2.1 15 = .ok (.astore_n 2, 1) := by decide +kernel
theorem kL_law_16 : decode mL_law.2.1 16 = .ok (.iconst 1, 1) := by decide +kernel
theorem kL_law_17 : decode mL_law.2.1 17 = .ok (.newarray .long, 2) := by decide +kernel
theorem kL_law_19 : decode mL_law.2.1 19 = .ok (.astore_n 3, 1) := by decide +kernel
theorem kL_law_20 : decode mL_law.2.1 20 = .ok (.iconst 0, 1) := by decide +kernel
theorem kL_law_21 : decode mL_law.2.1 21 = .ok (.istore 4, 2) := by decide +kernel
theorem kL_law_23 : decode mL_law.2.1 23 = .ok (.iload 4, 2) := by decide +kernel
theorem kL_law_25 : decode mL_law.2.1 25 = .ok (.aload_n 0, 1) := by decide +kernel
theorem kL_law_26 : decode mL_law.2.1 26 = .ok (.arraylength, 1) := by decide +kernel
theorem kL_law_27 : decode mL_law.2.1 27 = .ok (.iconst 5, 1) := by decide +kernel
theorem kL_law_28 : decode mL_law.2.1 28 = .ok (.isub, 1) := by decide +kernel
theorem kL_law_29 : decode mL_law.2.1 29 = .ok (.if_icmp .gt 954, 3) := by decide +kernel
theorem kL_law_32 : decode mL_law.2.1 32 = .ok (.aload_n 0, 1) := by decide +kernel
theorem kL_law_33 : decode mL_law.2.1 33 = .ok (.iload 4, 2) := by decide +kernel
theorem kL_law_35 : decode mL_law.2.1 35 = .ok (.iaload, 1) := by decide +kernel
theorem kL_law_36 : decode mL_law.2.1 36 = .ok (.bipush 31, 2) := by decide +kernel
theorem kL_law_38 : decode mL_law.2.1 38 = .ok (.iand, 1) := by decide +kernel
theorem kL_law_120 : decode mL_law.2.1 120 = .ok (.aload_n 1, 1) := by decide +kernel
theorem kL_law_121 : decode mL_law.2.1 121 = .ok (.aload_n 3, 1) := by decide +kernel
theorem kL_law_122 : decode mL_law.2.1 122 = .ok (.invokestatic 70, 3) := by decide +kernel
theorem kL_law_125 : decode mL_law.2.1 125 = .ok (.istore 5, 2) := by decide +kernel
theorem kL_law_127 : decode mL_law.2.1 127 = .ok (.aload_n 2, 1) := by decide +kernel
theorem kL_law_128 : decode mL_law.2.1 128 = .ok (.invokevirtual 75, 3) := by decide +kernel
theorem kL_law_131 : decode mL_law.2.1 131 = .ok (.istore 6, 2) := by decide +kernel
theorem kL_law_133 : decode mL_law.2.1 133 = .ok (.aload_n 2, 1) := by decide +kernel
theorem kL_law_134 : decode mL_law.2.1 134 = .ok (.invokevirtual 76, 3) := by decide +kernel
theorem kL_law_137 : decode mL_law.2.1 137 = .ok (.iload 5, 2) := by decide +kernel
theorem kL_law_139 : decode mL_law.2.1 139 = .ok (.if_icmp .eq 5, 3) := by decide +kernel
theorem kL_law_142 : decode mL_law.2.1 142 = .ok (.iconst 0, 1) := by decide +kernel
theorem kL_law_143 : decode mL_law.2.1 143 = .ok (.ireturn, 1) := by decide +kernel
theorem kL_law_144 : decode mL_law.2.1 144 = .ok (.iload 5, 2) := by decide +kernel
theorem kL_law_146 : decode mL_law.2.1 146 = .ok (.ifCond .ne 15, 3) := by decide +kernel
theorem kL_law_149 : decode mL_law.2.1 149 = .ok (.aload_n 3, 1) := by decide +kernel
theorem kL_law_150 : decode mL_law.2.1 150 = .ok (.iconst 0, 1) := by decide +kernel
theorem kL_law_151 : decode mL_law.2.1 151 = .ok (.laload, 1) := by decide +kernel
theorem kL_law_152 : decode mL_law.2.1 152 = .ok (.iload 6, 2) := by decide +kernel
theorem kL_law_154 : decode mL_law.2.1 154 = .ok (.i2l, 1) := by decide +kernel
theorem kL_law_155 : decode mL_law.2.1 155 = .ok (.lcmp, 1) := by decide +kernel
theorem kL_law_156 : decode mL_law.2.1 156 = .ok (.ifCond .eq 5, 3) := by decide +kernel
theorem kL_law_159 : decode mL_law.2.1 159 = .ok (.iconst 0, 1) := by decide +kernel
theorem kL_law_160 : decode mL_law.2.1 160 = .ok (.ireturn, 1) := by decide +kernel
theorem kL_law_161 : decode mL_law.2.1 161 = .ok (.goto 816, 3) := by decide +kernel
theorem kL_law_164 : decode mL_law.2.1 164 = .ok (.aload_n 1, 1) := by decide +kernel
theorem kL_law_165 : decode mL_law.2.1 165 = .ok (.aload_n 0, 1) := by decide +kernel
theorem kL_law_166 : decode mL_law.2.1 166 = .ok (.iload 4, 2) := by decide +kernel
theorem kL_law_168 : decode mL_law.2.1 168 = .ok (.iconst 1, 1) := by decide +kernel
theorem kL_law_169 : decode mL_law.2.1 169 = .ok (.iadd, 1) := by decide +kernel
theorem kL_law_170 : decode mL_law.2.1 170 = .ok (.iaload, 1) := by decide +kernel
theorem kL_law_171 : decode mL_law.2.1 171 = .ok (.aload_n 3, 1) := by decide +kernel
theorem kL_law_172 : decode mL_law.2.1 172 = .ok (.invokestatic 79, 3) := by decide +kernel
theorem kL_law_175 : decode mL_law.2.1 175 = .ok (.istore 5, 2) := by decide +kernel
theorem kL_law_177 : decode mL_law.2.1 177 = .ok (.aload_n 2, 1) := by decide +kernel
theorem kL_law_178 : decode mL_law.2.1 178 = .ok (.aload_n 0, 1) := by decide +kernel
theorem kL_law_179 : decode mL_law.2.1 179 = .ok (.iload 4, 2) := by decide +kernel
theorem kL_law_181 : decode mL_law.2.1 181 = .ok (.iconst 1, 1) := by decide +kernel
theorem kL_law_182 : decode mL_law.2.1 182 = .ok (.iadd, 1) := by decide +kernel
theorem kL_law_183 : decode mL_law.2.1 183 = .ok (.iaload, 1) := by decide +kernel
theorem kL_law_184 : decode mL_law.2.1 184 = .ok (.invokevirtual 82, 3) := by decide +kernel
theorem kL_law_187 : decode mL_law.2.1 187 = .ok (.istore 6, 2) := by decide +kernel
theorem kL_law_189 : decode mL_law.2.1 189 = .ok (.aload_n 2, 1) := by decide +kernel
theorem kL_law_190 : decode mL_law.2.1 190 = .ok (.invokevirtual 76, 3) := by decide +kernel
theorem kL_law_193 : decode mL_law.2.1 193 = .ok (.iload 5, 2) := by decide +kernel
theorem kL_law_195 : decode mL_law.2.1 195 = .ok (.if_icmp .eq 5, 3) := by decide +kernel
theorem kL_law_198 : decode mL_law.2.1 198 = .ok (.iconst 0, 1) := by decide +kernel
theorem kL_law_199 : decode mL_law.2.1 199 = .ok (.ireturn, 1) := by decide +kernel
theorem kL_law_200 : decode mL_law.2.1 200 = .ok (.iload 5, 2) := by decide +kernel
theorem kL_law_202 : decode mL_law.2.1 202 = .ok (.ifCond .ne 15, 3) := by decide +kernel
theorem kL_law_205 : decode mL_law.2.1 205 = .ok (.aload_n 3, 1) := by decide +kernel
theorem kL_law_206 : decode mL_law.2.1 206 = .ok (.iconst 0, 1) := by decide +kernel
theorem kL_law_207 : decode mL_law.2.1 207 = .ok (.laload, 1) := by decide +kernel
theorem kL_law_208 : decode mL_law.2.1 208 = .ok (.iload 6, 2) := by decide +kernel
theorem kL_law_210 : decode mL_law.2.1 210 = .ok (.i2l, 1) := by decide +kernel
theorem kL_law_211 : decode mL_law.2.1 211 = .ok (.lcmp, 1) := by decide +kernel
theorem kL_law_212 : decode mL_law.2.1 212 = .ok (.ifCond .eq 5, 3) := by decide +kernel
theorem kL_law_215 : decode mL_law.2.1 215 = .ok (.iconst 0, 1) := by decide +kernel
theorem kL_law_216 : decode mL_law.2.1 216 = .ok (.ireturn, 1) := by decide +kernel
theorem kL_law_217 : decode mL_law.2.1 217 = .ok (.goto 760, 3) := by decide +kernel
theorem kL_law_220 : decode mL_law.2.1 220 = .ok (.aload_n 1, 1) := by decide +kernel
theorem kL_law_221 : decode mL_law.2.1 221 = .ok (.aload_n 0, 1) := by decide +kernel
theorem kL_law_222 : decode mL_law.2.1 222 = .ok (.iload 4, 2) := by decide +kernel
theorem kL_law_224 : decode mL_law.2.1 224 = .ok (.iconst 1, 1) := by decide +kernel
theorem kL_law_225 : decode mL_law.2.1 225 = .ok (.iadd, 1) := by decide +kernel
theorem kL_law_226 : decode mL_law.2.1 226 = .ok (.iaload, 1) := by decide +kernel
theorem kL_law_227 : decode mL_law.2.1 227 = .ok (.aload_n 0, 1) := by decide +kernel
theorem kL_law_228 : decode mL_law.2.1 228 = .ok (.iload 4, 2) := by decide +kernel
theorem kL_law_230 : decode mL_law.2.1 230 = .ok (.iconst 2, 1) := by decide +kernel
theorem kL_law_231 : decode mL_law.2.1 231 = .ok (.iadd, 1) := by decide +kernel
theorem kL_law_232 : decode mL_law.2.1 232 = .ok (.iaload, 1) := by decide +kernel
theorem kL_law_233 : decode mL_law.2.1 233 = .ok (.aload_n 3, 1) := by decide +kernel
theorem kL_law_234 : decode mL_law.2.1 234 = .ok (.invokestatic 83, 3) := by decide +kernel
theorem kL_law_237 : decode mL_law.2.1 237 = .ok (.istore 5, 2) := by decide +kernel
theorem kL_law_239 : decode mL_law.2.1 239 = .ok (.aload_n 2, 1) := by decide +kernel
theorem kL_law_240 : decode mL_law.2.1 240 = .ok (.aload_n 0, 1) := by decide +kernel
theorem kL_law_241 : decode mL_law.2.1 241 = .ok (.iload 4, 2) := by decide +kernel
theorem kL_law_243 : decode mL_law.2.1 243 = .ok (.iconst 1, 1) := by decide +kernel
theorem kL_law_244 : decode mL_law.2.1 244 = .ok (.iadd, 1) := by decide +kernel
theorem kL_law_245 : decode mL_law.2.1 245 = .ok (.iaload, 1) := by decide +kernel
theorem kL_law_246 : decode mL_law.2.1 246 = .ok (.aload_n 0, 1) := by decide +kernel
theorem kL_law_247 : decode mL_law.2.1 247 = .ok (.iload 4, 2) := by decide +kernel
theorem kL_law_249 : decode mL_law.2.1 249 = .ok (.iconst 2, 1) := by decide +kernel
theorem kL_law_250 : decode mL_law.2.1 250 = .ok (.iadd, 1) := by decide +kernel
theorem kL_law_251 : decode mL_law.2.1 251 = .ok (.iaload, 1) := by decide +kernel
theorem kL_law_252 : decode mL_law.2.1 252 = .ok (.invokevirtual 86, 3) := by decide +kernel
theorem kL_law_255 : decode mL_law.2.1 255 = .ok (.lstore 6, 2) := by decide +kernel
theorem kL_law_257 : decode mL_law.2.1 257 = .ok (.aload_n 2, 1) := by decide +kernel
theorem kL_law_258 : decode mL_law.2.1 258 = .ok (.invokevirtual 76, 3) := by decide +kernel
theorem kL_law_261 : decode mL_law.2.1 261 = .ok (.iload 5, 2) := by decide +kernel
theorem kL_law_263 : decode mL_law.2.1 263 = .ok (.if_icmp .eq 5, 3) := by decide +kernel
theorem kL_law_266 : decode mL_law.2.1 266 = .ok (.iconst 0, 1) := by decide +kernel
theorem kL_law_267 : decode mL_law.2.1 267 = .ok (.ireturn, 1) := by decide +kernel
theorem kL_law_268 : decode mL_law.2.1 268 = .ok (.iload 5, 2) := by decide +kernel
theorem kL_law_270 : decode mL_law.2.1 270 = .ok (.ifCond .ne 14, 3) := by decide +kernel
theorem kL_law_273 : decode mL_law.2.1 273 = .ok (.aload_n 3, 1) := by decide +kernel
theorem kL_law_274 : decode mL_law.2.1 274 = .ok (.iconst 0, 1) := by decide +kernel
theorem kL_law_275 : decode mL_law.2.1 275 = .ok (.laload, 1) := by decide +kernel
theorem kL_law_276 : decode mL_law.2.1 276 = .ok (.lload 6, 2) := by decide +kernel
theorem kL_law_278 : decode mL_law.2.1 278 = .ok (.lcmp, 1) := by decide +kernel
theorem kL_law_279 : decode mL_law.2.1 279 = .ok (.ifCond .eq 5, 3) := by decide +kernel
theorem kL_law_282 : decode mL_law.2.1 282 = .ok (.iconst 0, 1) := by decide +kernel
theorem kL_law_283 : decode mL_law.2.1 283 = .ok (.ireturn, 1) := by decide +kernel
theorem kL_law_284 : decode mL_law.2.1 284 = .ok (.goto 693, 3) := by decide +kernel
theorem kL_law_287 : decode mL_law.2.1 287 = .ok (.aload_n 1, 1) := by decide +kernel
theorem kL_law_288 : decode mL_law.2.1 288 = .ok (.aload_n 0, 1) := by decide +kernel
theorem kL_law_289 : decode mL_law.2.1 289 = .ok (.iload 4, 2) := by decide +kernel
theorem kL_law_291 : decode mL_law.2.1 291 = .ok (.iconst 1, 1) := by decide +kernel
theorem kL_law_292 : decode mL_law.2.1 292 = .ok (.iadd, 1) := by decide +kernel
theorem kL_law_293 : decode mL_law.2.1 293 = .ok (.iaload, 1) := by decide +kernel
theorem kL_law_294 : decode mL_law.2.1 294 = .ok (.aload_n 0, 1) := by decide +kernel
theorem kL_law_295 : decode mL_law.2.1 295 = .ok (.iload 4, 2) := by decide +kernel
theorem kL_law_297 : decode mL_law.2.1 297 = .ok (.iconst 2, 1) := by decide +kernel
theorem kL_law_298 : decode mL_law.2.1 298 = .ok (.iadd, 1) := by decide +kernel
theorem kL_law_299 : decode mL_law.2.1 299 = .ok (.iaload, 1) := by decide +kernel
theorem kL_law_300 : decode mL_law.2.1 300 = .ok (.aload_n 0, 1) := by decide +kernel
theorem kL_law_301 : decode mL_law.2.1 301 = .ok (.iload 4, 2) := by decide +kernel
theorem kL_law_303 : decode mL_law.2.1 303 = .ok (.iconst 3, 1) := by decide +kernel
theorem kL_law_304 : decode mL_law.2.1 304 = .ok (.iadd, 1) := by decide +kernel
theorem kL_law_305 : decode mL_law.2.1 305 = .ok (.iaload, 1) := by decide +kernel
theorem kL_law_306 : decode mL_law.2.1 306 = .ok (.i2l, 1) := by decide +kernel
