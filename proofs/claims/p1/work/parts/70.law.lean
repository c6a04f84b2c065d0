/-! methods, their instructions, by program (wip/whole/methods.py) -/
/-- MonitorBoardLaw.law([I)Z -/
abbrev m_law : fwM := (⟨"MonitorBoardLaw", "law", "([I)Z"⟩, code, 4, (some FieldType.boolean))
theorem d_law_0 : decode m_law.2.1 0 = .ok (.new 7, 3) := by decide +kernel
def k_law_3 : List fwO := [(.dup, 0, 0, .null)]
theorem k_law_3_ok : fwChain m_law.1.cls m_law.2.1 3 k_law_3 4 = true := by decide +kernel
theorem d_law_4 : decode m_law.2.1 4 = .ok (.invokespecial 9, 3) := by decide +kernel
def k_law_7 : List fwO := [(.astore_n 1, 0, 0, .null)]
theorem k_law_7_ok : fwChain m_law.1.cls m_law.2.1 7 k_law_7 8 = true := by decide +kernel
theorem d_law_8 : decode m_law.2.1 8 = .ok (.new 10, 3) := by decide +kernel
def k_law_11 : List fwO := [(.dup, 0, 0, .null)]
theorem k_law_11_ok : fwChain m_law.1.cls m_law.2.1 11 k_law_11 12 = true := by decide +kernel
theorem d_law_12 : decode m_law.2.1 12 = .ok (.invokespecial 12, 3) := by decide +kernel
def k_law_15 : List fwO := [(.astore_n 2, 0, 0, .null), (.iconst 0, 0, 0, .int 0), (.istore_n 3, 0, 0, .null)]
theorem k_law_15_ok : fwChain m_law.1.cls m_law.2.1 15 k_law_15 18 = true := by decide +kernel
def k_law_18 : List fwO := [(.iload_n 3, 0, 0, .null), (.aload_n 0, 0, 0, .null)]
theorem k_law_18_ok : fwChain m_law.1.cls m_law.2.1 18 k_law_18 20 = true := by decide +kernel
theorem d_law_20 : decode m_law.2.1 20 = .ok (.arraylength, 1) := by decide +kernel
def k_law_21 : List fwO := [(.bipush 6, 0, 0, .int 6), (.isub, 0, 0, .null)]
theorem k_law_21_ok : fwChain m_law.1.cls m_law.2.1 21 k_law_21 24 = true := by decide +kernel
theorem d_law_24 : decode m_law.2.1 24 = .ok (.if_icmp .gt 494, 3) := by decide +kernel
def k_law_27 : List fwO := [(.aload_n 0, 0, 0, .null), (.iload_n 3, 0, 0, .null)]
theorem k_law_27_ok : fwChain m_law.1.cls m_law.2.1 27 k_law_27 29 = true := by decide +kernel
theorem d_law_29 : decode m_law.2.1 29 = .ok (.iaload, 1) := by decide +kernel
def k_law_30 : List fwO := [(.bipush 31, 0, 0, .int 31), (.iand, 0, 0, .null)]
theorem k_law_30_ok : fwChain m_law.1.cls m_law.2.1 30 k_law_30 33 = true := by decide +kernel
theorem d_law_33 : decode m_law.2.1 33 = .ok (.tableswitch 479 0 16 #[83, 146, 169, 182, 193, 216, 230, 253, 276, 297, 318, 331, 354, 367, 380, 443, 466], 83) := by decide +kernel
def k_law_116 : List fwO := [(.aload_n 1, 0, 0, .null), (.aload_n 0, 0, 0, .null), (.iload_n 3, 0, 0, .null), (.iconst 1, 0, 0, .int 1), (.iadd, 0, 0, .null)]
theorem k_law_116_ok : fwChain m_law.1.cls m_law.2.1 116 k_law_116 121 = true := by decide +kernel
theorem d_law_121 : decode m_law.2.1 121 = .ok (.iaload, 1) := by decide +kernel
def k_law_122 : List fwO := [(.aload_n 0, 0, 0, .null), (.iload_n 3, 0, 0, .null), (.iconst 2, 0, 0, .int 2), (.iadd, 0, 0, .null)]
theorem k_law_122_ok : fwChain m_law.1.cls m_law.2.1 122 k_law_122 126 = true := by decide +kernel
theorem d_law_126 : decode m_law.2.1 126 = .ok (.iaload, 1) := by decide +kernel
def k_law_127 : List fwO := [(.aload_n 0, 0, 0, .null), (.iload_n 3, 0, 0, .null), (.iconst 3, 0, 0, .int 3), (.iadd, 0, 0, .null)]
theorem k_law_127_ok : fwChain m_law.1.cls m_law.2.1 127 k_law_127 131 = true := by decide +kernel
theorem d_law_131 : decode m_law.2.1 131 = .ok (.iaload, 1) := by decide +kernel
def k_law_132 : List fwO := [(.aload_n 0, 0, 0, .null), (.iload_n 3, 0, 0, .null), (.iconst 4, 0, 0, .int 4), (.iadd, 0, 0, .null)]
theorem k_law_132_ok : fwChain m_law.1.cls m_law.2.1 132 k_law_132 136 = true := by decide +kernel
theorem d_law_136 : decode m_law.2.1 136 = .ok (.iaload, 1) := by decide +kernel
def k_law_137 : List fwO := [(.aload_n 0, 0, 0, .null), (.iload_n 3, 0, 0, .null), (.iconst 5, 0, 0, .int 5), (.iadd, 0, 0, .null)]
theorem k_law_137_ok : fwChain m_law.1.cls m_law.2.1 137 k_law_137 141 = true := by decide +kernel
theorem d_law_141 : decode m_law.2.1 141 = .ok (.iaload, 1) := by decide +kernel
theorem d_law_142 : decode m_law.2.1 142 = .ok (.invokevirtual 13, 3) := by decide +kernel
def k_law_145 : List fwO := [(.aload_n 2, 0, 0, .null), (.aload_n 0, 0, 0, .null), (.iload_n 3, 0, 0, .null), (.iconst 1, 0, 0, .int 1), (.iadd, 0, 0, .null)]
theorem k_law_145_ok : fwChain m_law.1.cls m_law.2.1 145 k_law_145 150 = true := by decide +kernel
theorem d_law_150 : decode m_law.2.1 150 = .ok (.iaload, 1) := by decide +kernel
def k_law_151 : List fwO := [(.aload_n 0, 0, 0, .null), (.iload_n 3, 0, 0, .null), (.iconst 2, 0, 0, .int 2), (.iadd, 0, 0, .null)]
theorem k_law_151_ok : fwChain m_law.1.cls m_law.2.1 151 k_law_151 155 = true := by decide +kernel
theorem d_law_155 : decode m_law.2.1 155 = .ok (.iaload, 1) := by decide +kernel
def k_law_156 : List fwO := [(.aload_n 0, 0, 0, .null), (.iload_n 3, 0, 0, .null), (.iconst 3, 0, 0, .int 3), (.iadd, 0, 0, .null)]
theorem k_law_156_ok : fwChain m_law.1.cls m_law.2.1 156 k_law_156 160 = true := by decide +kernel
theorem d_law_160 : decode m_law.2.1 160 = .ok (.iaload, 1) := by decide +kernel
def k_law_161 : List fwO := [(.aload_n 0, 0, 0, .null), (.iload_n 3, 0, 0, .null), (.iconst 4, 0, 0, .int 4), (.iadd, 0, 0, .null)]
theorem k_law_161_ok : fwChain m_law.1.cls m_law.2.1 161 k_law_161 165 = true := by decide +kernel
theorem d_law_165 : decode m_law.2.1 165 = .ok (.iaload, 1) := by decide +kernel
def k_law_166 : List fwO := [(.aload_n 0, 0, 0, .null), (.iload_n 3, 0, 0, .null), (.iconst 5, 0, 0, .int 5), (.iadd, 0, 0, .null)]
theorem k_law_166_ok : fwChain m_law.1.cls m_law.2.1 166 k_law_166 170 = true := by decide +kernel
theorem d_law_170 : decode m_law.2.1 170 = .ok (.iaload, 1) := by decide +kernel
theorem d_law_171 : decode m_law.2.1 171 = .ok (.invokevirtual 17, 3) := by decide +kernel
theorem d_law_174 : decode m_law.2.1 174 = .ok (.if_icmp .eq 338, 3) := by decide +kernel
def k_law_177 : List fwO := [(.iconst 0, 0, 0, .int 0)]
theorem k_law_177_ok : fwChain m_law.1.cls m_law.2.1 177 k_law_177 178 = true := by decide +kernel
theorem d_law_178 : decode m_law.2.1 178 = .ok (.ireturn, 1) := by decide +kernel
def k_law_179 : List fwO := [(.aload_n 1, 0, 0, .null), (.aload_n 0, 0, 0, .null), (.iload_n 3, 0, 0, .null), (.iconst 1, 0, 0, .int 1), (.iadd, 0, 0, .null)]
theorem k_law_179_ok : fwChain m_law.1.cls m_law.2.1 179 k_law_179 184 = true := by decide +kernel
theorem d_law_184 : decode m_law.2.1 184 = .ok (.iaload, 1) := by decide +kernel
theorem d_law_185 : decode m_law.2.1 185 = .ok (.invokevirtual 18, 3) := by decide +kernel
def k_law_188 : List fwO := [(.aload_n 2, 0, 0, .null), (.aload_n 0, 0, 0, .null), (.iload_n 3, 0, 0, .null), (.iconst 1, 0, 0, .int 1), (.iadd, 0, 0, .null)]
theorem k_law_188_ok : fwChain m_law.1.cls m_law.2.1 188 k_law_188 193 = true := by decide +kernel
theorem d_law_193 : decode m_law.2.1 193 = .ok (.iaload, 1) := by decide +kernel
theorem d_law_194 : decode m_law.2.1 194 = .ok (.invokevirtual 22, 3) := by decide +kernel
theorem d_law_197 : decode m_law.2.1 197 = .ok (.if_icmp .eq 315, 3) := by decide +kernel
def k_law_200 : List fwO := [(.iconst 0, 0, 0, .int 0)]
theorem k_law_200_ok : fwChain m_law.1.cls m_law.2.1 200 k_law_200 201 = true := by decide +kernel
theorem d_law_201 : decode m_law.2.1 201 = .ok (.ireturn, 1) := by decide +kernel
def k_law_202 : List fwO := [(.aload_n 1, 0, 0, .null)]
theorem k_law_202_ok : fwChain m_law.1.cls m_law.2.1 202 k_law_202 203 = true := by decide +kernel
theorem d_law_203 : decode m_law.2.1 203 = .ok (.invokevirtual 23, 3) := by decide +kernel
def k_law_206 : List fwO := [(.aload_n 2, 0, 0, .null)]
theorem k_law_206_ok : fwChain m_law.1.cls m_law.2.1 206 k_law_206 207 = true := by decide +kernel
theorem d_law_207 : decode m_law.2.1 207 = .ok (.invokevirtual 27, 3) := by decide +kernel
theorem d_law_210 : decode m_law.2.1 210 = .ok (.if_icmp .eq 302, 3) := by decide +kernel
def k_law_213 : List fwO := [(.iconst 0, 0, 0, .int 0)]
theorem k_law_213_ok : fwChain m_law.1.cls m_law.2.1 213 k_law_213 214 = true := by decide +kernel
theorem d_law_214 : decode m_law.2.1 214 = .ok (.ireturn, 1) := by decide +kernel
def k_law_215 : List fwO := [(.aload_n 1, 0, 0, .null)]
theorem k_law_215_ok : fwChain m_law.1.cls m_law.2.1 215 k_law_215 216 = true := by decide +kernel
theorem d_law_216 : decode m_law.2.1 216 = .ok (.invokevirtual 28, 3) := by decide +kernel
def k_law_219 : List fwO := [(.aload_n 2, 0, 0, .null)]
theorem k_law_219_ok : fwChain m_law.1.cls m_law.2.1 219 k_law_219 220 = true := by decide +kernel
theorem d_law_220 : decode m_law.2.1 220 = .ok (.invokevirtual 31, 3) := by decide +kernel
theorem d_law_223 : decode m_law.2.1 223 = .ok (.goto 289, 3) := by decide +kernel
def k_law_226 : List fwO := [(.aload_n 1, 0, 0, .null), (.aload_n 0, 0, 0, .null), (.iload_n 3, 0, 0, .null), (.iconst 1, 0, 0, .int 1), (.iadd, 0, 0, .null)]
theorem k_law_226_ok : fwChain m_law.1.cls m_law.2.1 226 k_law_226 231 = true := by decide +kernel
theorem d_law_231 : decode m_law.2.1 231 = .ok (.iaload, 1) := by decide +kernel
theorem d_law_232 : decode m_law.2.1 232 = .ok (.invokevirtual 32, 3) := by decide +kernel
def k_law_235 : List fwO := [(.aload_n 2, 0, 0, .null), (.aload_n 0, 0, 0, .null), (.iload_n 3, 0, 0, .null), (.iconst 1, 0, 0, .int 1), (.iadd, 0, 0, .null)]
theorem k_law_235_ok : fwChain m_law.1.cls m_law.2.1 235 k_law_235 240 = true := by decide +kernel
theorem d_law_240 : decode m_law.2.1 240 = .ok (.iaload, 1) := by decide +kernel
theorem d_law_241 : decode m_law.2.1 241 = .ok (.invokevirtual 36, 3) := by decide +kernel
theorem d_law_244 : decode m_law.2.1 244 = .ok (.if_icmp .eq 268, 3) := by decide +kernel
def k_law_247 : List fwO := [(.iconst 0, 0, 0, .int 0)]
theorem k_law_247_ok : fwChain m_law.1.cls m_law.2.1 247 k_law_247 248 = true := by decide +kernel
theorem d_law_248 : decode m_law.2.1 248 = .ok (.ireturn, 1) := by decide +kernel
def k_law_249 : List fwO := [(.aload_n 1, 0, 0, .null)]
theorem k_law_249_ok : fwChain m_law.1.cls m_law.2.1 249 k_law_249 250 = true := by decide +kernel
theorem d_law_250 : decode m_law.2.1 250 = .ok (.invokevirtual 37, 3) := by decide +kernel
def k_law_253 : List fwO := [(.aload_n 2, 0, 0, .null)]
theorem k_law_253_ok : fwChain m_law.1.cls m_law.2.1 253 k_law_253 254 = true := by decide +kernel
theorem d_law_254 : decode m_law.2.1 254 = .ok (.invokevirtual 41, 3) := by decide +kernel
def k_law_257 : List fwO := [(.lcmp, 0, 0, .null)]
theorem k_law_257_ok : fwChain m_law.1.cls m_law.2.1 257 k_law_257 258 = true := by decide +kernel
theorem d_law_258 : decode m_law.2.1 258 = .ok (.ifCond .eq 254, 3) := by decide +kernel
def k_law_261 : List fwO := [(.iconst 0, 0, 0, .int 0)]
theorem k_law_261_ok : fwChain m_law.1.cls m_law.2.1 261 k_law_261 262 = true := by decide +kernel
theorem d_law_262 : decode m_law.2.1 262 = .ok (.ireturn, 1) := by decide +kernel
def k_law_263 : List fwO := [(.aload_n 1, 0, 0, .null), (.aload_n 0, 0, 0, .null), (.iload_n 3, 0, 0, .null), (.iconst 1, 0, 0, .int 1), (.iadd, 0, 0, .null)]
theorem k_law_263_ok : fwChain m_law.1.cls m_law.2.1 263 k_law_263 268 = true := by decide +kernel
theorem d_law_268 : decode m_law.2.1 268 = .ok (.iaload, 1) := by decide +kernel
theorem d_law_269 : decode m_law.2.1 269 = .ok (.invokevirtual 42, 3) := by decide +kernel
def k_law_272 : List fwO := [(.aload_n 2, 0, 0, .null), (.aload_n 0, 0, 0, .null), (.iload_n 3, 0, 0, .null), (.iconst 1, 0, 0, .int 1), (.iadd, 0, 0, .null)]
theorem k_law_272_ok : fwChain m_law.1.cls m_law.2.1 272 k_law_272 277 = true := by decide +kernel
theorem d_law_277 : decode m_law.2.1 277 = .ok (.iaload, 1) := by decide +kernel
theorem d_law_278 : decode m_law.2.1 278 = .ok (.invokevirtual 45, 3) := by decide +kernel
theorem d_law_281 : decode m_law.2.1 281 = .ok (.if_icmp .eq 231, 3) := by decide +kernel
def k_law_284 : List fwO := [(.iconst 0, 0, 0, .int 0)]
theorem k_law_284_ok : fwChain m_law.1.cls m_law.2.1 284 k_law_284 285 = true := by decide +kernel
theorem d_law_285 : decode m_law.2.1 285 = .ok (.ireturn, 1) := by decide +kernel
def k_law_286 : List fwO := [(.aload_n 1, 0, 0, .null), (.aload_n 0, 0, 0, .null), (.iload_n 3, 0, 0, .null), (.iconst 1, 0, 0, .int 1), (.iadd, 0, 0, .null)]
theorem k_law_286_ok : fwChain m_law.1.cls m_law.2.1 286 k_law_286 291 = true := by decide +kernel
theorem d_law_291 : decode m_law.2.1 291 = .ok (.iaload, 1) := by decide +kernel
theorem d_law_292 : decode m_law.2.1 292 = .ok (.invokevirtual 46, 3) := by decide +kernel
def k_law_295 : List fwO := [(.aload_n 2, 0, 0, .null), (.aload_n 0, 0, 0, .null), (.iload_n 3, 0, 0, .null), (.iconst 1, 0, 0, .int 1), (.iadd, 0, 0, .null)]
theorem k_law_295_ok : fwChain m_law.1.cls m_law.2.1 295 k_law_295 300 = true := by decide +kernel
theorem d_law_300 : decode m_law.2.1 300 = .ok (.iaload, 1) := by decide +kernel
theorem d_law_301 : decode m_law.2.1 301 = .ok (.invokevirtual 49, 3) := by decide +kernel
theorem d_law_304 : decode m_law.2.1 304 = .ok (.if_icmp .eq 208, 3) := by decide +kernel
def k_law_307 : List fwO := [(.iconst 0, 0, 0, .int 0)]
theorem k_law_307_ok : fwChain m_law.1.cls m_law.2.1 307 k_law_307 308 = true := by decide +kernel
theorem d_law_308 : decode m_law.2.1 308 = .ok (.ireturn, 1) := by decide +kernel
def k_law_309 : List fwO := [(.aload_n 1, 0, 0, .null), (.aload_n 0, 0, 0, .null), (.iload_n 3, 0, 0, .null), (.iconst 1, 0, 0, .int 1), (.iadd, 0, 0, .null)]
theorem k_law_309_ok : fwChain m_law.1.cls m_law.2.1 309 k_law_309 314 = true := by decide +kernel
theorem d_law_314 : decode m_law.2.1 314 = .ok (.iaload, 1) := by decide +kernel
theorem d_law_315 : decode m_law.2.1 315 = .ok (.invokevirtual 50, 3) := by decide +kernel
def k_law_318 : List fwO := [(.aload_n 2, 0, 0, .null), (.aload_n 0, 0, 0, .null), (.iload_n 3, 0, 0, .null), (.iconst 1, 0, 0, .int 1), (.iadd, 0, 0, .null)]
theorem k_law_318_ok : fwChain m_law.1.cls m_law.2.1 318 k_law_318 323 = true := by decide +kernel
theorem d_law_323 : decode m_law.2.1 323 = .ok (.iaload, 1) := by decide +kernel
theorem d_law_324 : decode m_law.2.1 324 = .ok (.invokevirtual 54, 3) := by decide +kernel
theorem d_law_327 : decode m_law.2.1 327 = .ok (.goto 185, 3) := by decide +kernel
def k_law_330 : List fwO := [(.aload_n 1, 0, 0, .null), (.aload_n 0, 0, 0, .null), (.iload_n 3, 0, 0, .null), (.iconst 1, 0, 0, .int 1), (.iadd, 0, 0, .null)]
theorem k_law_330_ok : fwChain m_law.1.cls m_law.2.1 330 k_law_330 335 = true := by decide +kernel
theorem d_law_335 : decode m_law.2.1 335 = .ok (.iaload, 1) := by decide +kernel
theorem d_law_336 : decode m_law.2.1 336 = .ok (.invokevirtual 55, 3) := by decide +kernel
def k_law_339 : List fwO := [(.aload_n 2, 0, 0, .null), (.aload_n 0, 0, 0, .null), (.iload_n 3, 0, 0, .null), (.iconst 1, 0, 0, .int 1), (.iadd, 0, 0, .null)]
theorem k_law_339_ok : fwChain m_law.1.cls m_law.2.1 339 k_law_339 344 = true := by decide +kernel
theorem d_law_344 : decode m_law.2.1 344 = .ok (.iaload, 1) := by decide +kernel
theorem d_law_345 : decode m_law.2.1 345 = .ok (.invokevirtual 58, 3) := by decide +kernel
theorem d_law_348 : decode m_law.2.1 348 = .ok (.goto 164, 3) := by decide +kernel
def k_law_351 : List fwO := [(.aload_n 1, 0, 0, .null)]
theorem k_law_351_ok : fwChain m_law.1.cls m_law.2.1 351 k_law_351 352 = true := by decide +kernel
theorem d_law_352 : decode m_law.2.1 352 = .ok (.invokevirtual 59, 3) := by decide +kernel
def k_law_355 : List fwO := [(.aload_n 2, 0, 0, .null)]
theorem k_law_355_ok : fwChain m_law.1.cls m_law.2.1 355 k_law_355 356 = true := by decide +kernel
theorem d_law_356 : decode m_law.2.1 356 = .ok (.invokevirtual 62, 3) := by decide +kernel
theorem d_law_359 : decode m_law.2.1 359 = .ok (.if_icmp .eq 153, 3) := by decide +kernel
def k_law_362 : List fwO := [(.iconst 0, 0, 0, .int 0)]
theorem k_law_362_ok : fwChain m_law.1.cls m_law.2.1 362 k_law_362 363 = true := by decide +kernel
theorem d_law_363 : decode m_law.2.1 363 = .ok (.ireturn, 1) := by decide +kernel
def k_law_364 : List fwO := [(.aload_n 1, 0, 0, .null), (.aload_n 0, 0, 0, .null), (.iload_n 3, 0, 0, .null), (.iconst 1, 0, 0, .int 1), (.iadd, 0, 0, .null)]
theorem k_law_364_ok : fwChain m_law.1.cls m_law.2.1 364 k_law_364 369 = true := by decide +kernel
theorem d_law_369 : decode m_law.2.1 369 = .ok (.iaload, 1) := by decide +kernel
theorem d_law_370 : decode m_law.2.1 370 = .ok (.invokevirtual 63, 3) := by decide +kernel
def k_law_373 : List fwO := [(.aload_n 2, 0, 0, .null), (.aload_n 0, 0, 0, .null), (.iload_n 3, 0, 0, .null), (.iconst 1, 0, 0, .int 1), (.iadd, 0, 0, .null)]
theorem k_law_373_ok : fwChain m_law.1.cls m_law.2.1 373 k_law_373 378 = true := by decide +kernel
theorem d_law_378 : decode m_law.2.1 378 = .ok (.iaload, 1) := by decide +kernel
theorem d_law_379 : decode m_law.2.1 379 = .ok (.invokevirtual 66, 3) := by decide +kernel
theorem d_law_382 : decode m_law.2.1 382 = .ok (.if_icmp .eq 130, 3) := by decide +kernel
def k_law_385 : List fwO := [(.iconst 0, 0, 0, .int 0)]
theorem k_law_385_ok : fwChain m_law.1.cls m_law.2.1 385 k_law_385 386 = true := by decide +kernel
theorem d_law_386 : decode m_law.2.1 386 = .ok (.ireturn, 1) := by decide +kernel
def k_law_387 : List fwO := [(.aload_n 1, 0, 0, .null)]
theorem k_law_387_ok : fwChain m_law.1.cls m_law.2.1 387 k_law_387 388 = true := by decide +kernel
theorem d_law_388 : decode m_law.2.1 388 = .ok (.invokevirtual 67, 3) := by decide +kernel
def k_law_391 : List fwO := [(.aload_n 2, 0, 0, .null)]
theorem k_law_391_ok : fwChain m_law.1.cls m_law.2.1 391 k_law_391 392 = true := by decide +kernel
theorem d_law_392 : decode m_law.2.1 392 = .ok (.invokevirtual 70, 3) := by decide +kernel
theorem d_law_395 : decode m_law.2.1 395 = .ok (.if_icmp .eq 117, 3) := by decide +kernel
def k_law_398 : List fwO := [(.iconst 0, 0, 0, .int 0)]
theorem k_law_398_ok : fwChain m_law.1.cls m_law.2.1 398 k_law_398 399 = true := by decide +kernel
theorem d_law_399 : decode m_law.2.1 399 = .ok (.ireturn, 1) := by decide +kernel
def k_law_400 : List fwO := [(.aload_n 1, 0, 0, .null)]
theorem k_law_400_ok : fwChain m_law.1.cls m_law.2.1 400 k_law_400 401 = true := by decide +kernel
theorem d_law_401 : decode m_law.2.1 401 = .ok (.invokevirtual 71, 3) := by decide +kernel
def k_law_404 : List fwO := [(.aload_n 2, 0, 0, .null)]
theorem k_law_404_ok : fwChain m_law.1.cls m_law.2.1 404 k_law_404 405 = true := by decide +kernel
theorem d_law_405 : decode m_law.2.1 405 = .ok (.invokevirtual 74, 3) := by decide +kernel
theorem d_law_408 : decode m_law.2.1 408 = .ok (.if_icmp .eq 104, 3) := by decide +kernel
def k_law_411 : List fwO := [(.iconst 0, 0, 0, .int 0)]
theorem k_law_411_ok : fwChain m_law.1.cls m_law.2.1 411 k_law_411 412 = true := by decide +kernel
theorem d_law_412 : decode m_law.2.1 412 = .ok (.ireturn, 1) := by decide +kernel
def k_law_413 : List fwO := [(.aload_n 1, 0, 0, .null), (.aload_n 0, 0, 0, .null), (.iload_n 3, 0, 0, .null), (.iconst 1, 0, 0, .int 1), (.iadd, 0, 0, .null)]
theorem k_law_413_ok : fwChain m_law.1.cls m_law.2.1 413 k_law_413 418 = true := by decide +kernel
theorem d_law_418 : decode m_law.2.1 418 = .ok (.iaload, 1) := by decide +kernel
def k_law_419 : List fwO := [(.aload_n 0, 0, 0, .null), (.iload_n 3, 0, 0, .null), (.iconst 2, 0, 0, .int 2), (.iadd, 0, 0, .null)]
theorem k_law_419_ok : fwChain m_law.1.cls m_law.2.1 419 k_law_419 423 = true := by decide +kernel
theorem d_law_423 : decode m_law.2.1 423 = .ok (.iaload, 1) := by decide +kernel
def k_law_424 : List fwO := [(.aload_n 0, 0, 0, .null), (.iload_n 3, 0, 0, .null), (.iconst 3, 0, 0, .int 3), (.iadd, 0, 0, .null)]
theorem k_law_424_ok : fwChain m_law.1.cls m_law.2.1 424 k_law_424 428 = true := by decide +kernel
theorem d_law_428 : decode m_law.2.1 428 = .ok (.iaload, 1) := by decide +kernel
def k_law_429 : List fwO := [(.aload_n 0, 0, 0, .null), (.iload_n 3, 0, 0, .null), (.iconst 4, 0, 0, .int 4), (.iadd, 0, 0, .null)]
theorem k_law_429_ok : fwChain m_law.1.cls m_law.2.1 429 k_law_429 433 = true := by decide +kernel
theorem d_law_433 : decode m_law.2.1 433 = .ok (.iaload, 1) := by decide +kernel
def k_law_434 : List fwO := [(.aload_n 0, 0, 0, .null), (.iload_n 3, 0, 0, .null), (.iconst 5, 0, 0, .int 5), (.iadd, 0, 0, .null)]
theorem k_law_434_ok : fwChain m_law.1.cls m_law.2.1 434 k_law_434 438 = true := by decide +kernel
theorem d_law_438 : decode m_law.2.1 438 = .ok (.iaload, 1) := by decide +kernel
theorem d_law_439 : decode m_law.2.1 439 = .ok (.invokevirtual 75, 3) := by decide +kernel
def k_law_442 : List fwO := [(.aload_n 2, 0, 0, .null), (.aload_n 0, 0, 0, .null), (.iload_n 3, 0, 0, .null), (.iconst 1, 0, 0, .int 1), (.iadd, 0, 0, .null)]
theorem k_law_442_ok : fwChain m_law.1.cls m_law.2.1 442 k_law_442 447 = true := by decide +kernel
theorem d_law_447 : decode m_law.2.1 447 = .ok (.iaload, 1) := by decide +kernel
def k_law_448 : List fwO := [(.aload_n 0, 0, 0, .null), (.iload_n 3, 0, 0, .null), (.iconst 2, 0, 0, .int 2), (.iadd, 0, 0, .null)]
theorem k_law_448_ok : fwChain m_law.1.cls m_law.2.1 448 k_law_448 452 = true := by decide +kernel
theorem d_law_452 : decode m_law.2.1 452 = .ok (.iaload, 1) := by decide +kernel
def k_law_453 : List fwO := [(.aload_n 0, 0, 0, .null), (.iload_n 3, 0, 0, .null), (.iconst 3, 0, 0, .int 3), (.iadd, 0, 0, .null)]
theorem k_law_453_ok : fwChain m_law.1.cls m_law.2.1 453 k_law_453 457 = true := by decide +kernel
theorem d_law_457 : decode m_law.2.1 457 = .ok (.iaload, 1) := by decide +kernel
def k_law_458 : List fwO := [(.aload_n 0, 0, 0, .null), (.iload_n 3, 0, 0, .null), (.iconst 4, 0, 0, .int 4), (.iadd, 0, 0, .null)]
theorem k_law_458_ok : fwChain m_law.1.cls m_law.2.1 458 k_law_458 462 = true := by decide +kernel
theorem d_law_462 : decode m_law.2.1 462 = .ok (.iaload, 1) := by decide +kernel
def k_law_463 : List fwO := [(.aload_n 0, 0, 0, .null), (.iload_n 3, 0, 0, .null), (.iconst 5, 0, 0, .int 5), (.iadd, 0, 0, .null)]
theorem k_law_463_ok : fwChain m_law.1.cls m_law.2.1 463 k_law_463 467 = true := by decide +kernel
theorem d_law_467 : decode m_law.2.1 467 = .ok (.iaload, 1) := by decide +kernel
theorem d_law_468 : decode m_law.2.1 468 = .ok (.invokevirtual 79, 3) := by decide +kernel
theorem d_law_471 : decode m_law.2.1 471 = .ok (.if_icmp .eq 41, 3) := by decide +kernel
def k_law_474 : List fwO := [(.iconst 0, 0, 0, .int 0)]
theorem k_law_474_ok : fwChain m_law.1.cls m_law.2.1 474 k_law_474 475 = true := by decide +kernel
theorem d_law_475 : decode m_law.2.1 475 = .ok (.ireturn, 1) := by decide +kernel
def k_law_476 : List fwO := [(.aload_n 1, 0, 0, .null), (.aload_n 0, 0, 0, .null), (.iload_n 3, 0, 0, .null), (.iconst 1, 0, 0, .int 1), (.iadd, 0, 0, .null)]
theorem k_law_476_ok : fwChain m_law.1.cls m_law.2.1 476 k_law_476 481 = true := by decide +kernel
theorem d_law_481 : decode m_law.2.1 481 = .ok (.iaload, 1) := by decide +kernel
theorem d_law_482 : decode m_law.2.1 482 = .ok (.invokevirtual 80, 3) := by decide +kernel
def k_law_485 : List fwO := [(.aload_n 2, 0, 0, .null), (.aload_n 0, 0, 0, .null), (.iload_n 3, 0, 0, .null), (.iconst 1, 0, 0, .int 1), (.iadd, 0, 0, .null)]
theorem k_law_485_ok : fwChain m_law.1.cls m_law.2.1 485 k_law_485 490 = true := by decide +kernel
theorem d_law_490 : decode m_law.2.1 490 = .ok (.iaload, 1) := by decide +kernel
theorem d_law_491 : decode m_law.2.1 491 = .ok (.invokevirtual 83, 3) := by decide +kernel
theorem d_law_494 : decode m_law.2.1 494 = .ok (.if_icmp .eq 18, 3) := by decide +kernel
def k_law_497 : List fwO := [(.iconst 0, 0, 0, .int 0)]
theorem k_law_497_ok : fwChain m_law.1.cls m_law.2.1 497 k_law_497 498 = true := by decide +kernel
theorem d_law_498 : decode m_law.2.1 498 = .ok (.ireturn, 1) := by decide +kernel
def k_law_499 : List fwO := [(.aload_n 1, 0, 0, .null)]
theorem k_law_499_ok : fwChain m_law.1.cls m_law.2.1 499 k_law_499 500 = true := by decide +kernel
theorem d_law_500 : decode m_law.2.1 500 = .ok (.invokevirtual 84, 3) := by decide +kernel
def k_law_503 : List fwO := [(.aload_n 2, 0, 0, .null)]
theorem k_law_503_ok : fwChain m_law.1.cls m_law.2.1 503 k_law_503 504 = true := by decide +kernel
theorem d_law_504 : decode m_law.2.1 504 = .ok (.invokevirtual 87, 3) := by decide +kernel
theorem d_law_507 : decode m_law.2.1 507 = .ok (.if_icmp .eq 5, 3) := by decide +kernel
def k_law_510 : List fwO := [(.iconst 0, 0, 0, .int 0)]
theorem k_law_510_ok : fwChain m_law.1.cls m_law.2.1 510 k_law_510 511 = true := by decide +kernel
theorem d_law_511 : decode m_law.2.1 511 = .ok (.ireturn, 1) := by decide +kernel
def k_law_512 : List fwO := [(.iinc 3 6, 0, 0, .int 6)]
theorem k_law_512_ok : fwChain m_law.1.cls m_law.2.1 512 k_law_512 515 = true := by decide +kernel
theorem d_law_515 : decode m_law.2.1 515 = .ok (.goto (-497), 3) := by decide +kernel
def k_law_518 : List fwO := [(.iconst 1, 0, 0, .int 1)]
theorem k_law_518_ok : fwChain m_law.1.cls m_law.2.1 518 k_law_518 519 = true := by decide +kernel
theorem d_law_519 : decode m_law.2.1 519 = .ok (.ireturn, 1) := by decide +kernel
theorem c_law_0 : ∀ w ∈ ([(Cond.classLink "MonitorBoardLaw" (7 : Nat) "MonitorBoard"), (Cond.instantiable "MonitorBoard" (12 : Nat)), (Cond.initialized "MonitorBoard")] : List Cond), w ∈ fwT := fwT_all [303, 304, 282] (by decide +kernel) (by decide +kernel)
theorem c_law_4 : ∀ w ∈ ([(Cond.methodLink "MonitorBoardLaw" (9 : Nat) ({ cls := "MonitorBoard", name := "<init>", desc := "()V" } : MethodName)), (Cond.instanceMethod ({ cls := "MonitorBoard", name := "<init>", desc := "()V" } : MethodName)), (Cond.initialized "MonitorBoard")] : List Cond), w ∈ fwT := fwT_all [305, 306, 282] (by decide +kernel) (by decide +kernel)
theorem c_law_8 : ∀ w ∈ ([(Cond.classLink "MonitorBoardLaw" (10 : Nat) "MonitorBoardModel"), (Cond.instantiable "MonitorBoardModel" (79 : Nat)), (Cond.initialized "MonitorBoardModel")] : List Cond), w ∈ fwT := fwT_all [1937, 1938, 298] (by decide +kernel) (by decide +kernel)
theorem c_law_12 : ∀ w ∈ ([(Cond.methodLink "MonitorBoardLaw" (12 : Nat) ({ cls := "MonitorBoardModel", name := "<init>", desc := "()V" } : MethodName)), (Cond.instanceMethod ({ cls := "MonitorBoardModel", name := "<init>", desc := "()V" } : MethodName)), (Cond.initialized "MonitorBoardModel")] : List Cond), w ∈ fwT := fwT_all [1939, 1940, 298] (by decide +kernel) (by decide +kernel)
theorem c_law_142 : ∀ w ∈ ([(Cond.methodLink "MonitorBoardLaw" (13 : Nat) ({ cls := "MonitorBoard", name := "feed", desc := "(IIIII)Z" } : MethodName)), (Cond.instanceMethod ({ cls := "MonitorBoard", name := "feed", desc := "(IIIII)Z" } : MethodName)), (Cond.selects "MonitorBoard" ({ cls := "MonitorBoard", name := "feed", desc := "(IIIII)Z" } : MethodName) ({ cls := "MonitorBoard", name := "feed", desc := "(IIIII)Z" } : MethodName)), (Cond.initialized "MonitorBoard")] : List Cond), w ∈ fwT := fwT_all [912, 913, 914, 282] (by decide +kernel) (by decide +kernel)
theorem c_law_171 : ∀ w ∈ ([(Cond.methodLink "MonitorBoardLaw" (17 : Nat) ({ cls := "MonitorBoardModel", name := "feed", desc := "(IIIII)Z" } : MethodName)), (Cond.instanceMethod ({ cls := "MonitorBoardModel", name := "feed", desc := "(IIIII)Z" } : MethodName)), (Cond.selects "MonitorBoardModel" ({ cls := "MonitorBoardModel", name := "feed", desc := "(IIIII)Z" } : MethodName) ({ cls := "MonitorBoardModel", name := "feed", desc := "(IIIII)Z" } : MethodName)), (Cond.initialized "MonitorBoardModel")] : List Cond), w ∈ fwT := fwT_all [2252, 2253, 2254, 298] (by decide +kernel) (by decide +kernel)
theorem c_law_185 : ∀ w ∈ ([(Cond.methodLink "MonitorBoardLaw" (18 : Nat) ({ cls := "MonitorBoard", name := "end", desc := "(I)Z" } : MethodName)), (Cond.instanceMethod ({ cls := "MonitorBoard", name := "end", desc := "(I)Z" } : MethodName)), (Cond.selects "MonitorBoard" ({ cls := "MonitorBoard", name := "end", desc := "(I)Z" } : MethodName) ({ cls := "MonitorBoard", name := "end", desc := "(I)Z" } : MethodName)), (Cond.initialized "MonitorBoard")] : List Cond), w ∈ fwT := fwT_all [920, 921, 922, 282] (by decide +kernel) (by decide +kernel)
theorem c_law_194 : ∀ w ∈ ([(Cond.methodLink "MonitorBoardLaw" (22 : Nat) ({ cls := "MonitorBoardModel", name := "end", desc := "(I)Z" } : MethodName)), (Cond.instanceMethod ({ cls := "MonitorBoardModel", name := "end", desc := "(I)Z" } : MethodName)), (Cond.selects "MonitorBoardModel" ({ cls := "MonitorBoardModel", name := "end", desc := "(I)Z" } : MethodName) ({ cls := "MonitorBoardModel", name := "end", desc := "(I)Z" } : MethodName)), (Cond.initialized "MonitorBoardModel")] : List Cond), w ∈ fwT := fwT_all [2256, 2257, 2258, 298] (by decide +kernel) (by decide +kernel)
theorem c_law_203 : ∀ w ∈ ([(Cond.methodLink "MonitorBoardLaw" (23 : Nat) ({ cls := "MonitorBoard", name := "keys", desc := "()I" } : MethodName)), (Cond.instanceMethod ({ cls := "MonitorBoard", name := "keys", desc := "()I" } : MethodName)), (Cond.selects "MonitorBoard" ({ cls := "MonitorBoard", name := "keys", desc := "()I" } : MethodName) ({ cls := "MonitorBoard", name := "keys", desc := "()I" } : MethodName)), (Cond.initialized "MonitorBoard")] : List Cond), w ∈ fwT := fwT_all [924, 925, 926, 282] (by decide +kernel) (by decide +kernel)
theorem c_law_207 : ∀ w ∈ ([(Cond.methodLink "MonitorBoardLaw" (27 : Nat) ({ cls := "MonitorBoardModel", name := "keys", desc := "()I" } : MethodName)), (Cond.instanceMethod ({ cls := "MonitorBoardModel", name := "keys", desc := "()I" } : MethodName)), (Cond.selects "MonitorBoardModel" ({ cls := "MonitorBoardModel", name := "keys", desc := "()I" } : MethodName) ({ cls := "MonitorBoardModel", name := "keys", desc := "()I" } : MethodName)), (Cond.initialized "MonitorBoardModel")] : List Cond), w ∈ fwT := fwT_all [2260, 2261, 2262, 298] (by decide +kernel) (by decide +kernel)
theorem c_law_216 : ∀ w ∈ ([(Cond.methodLink "MonitorBoardLaw" (28 : Nat) ({ cls := "MonitorBoard", name := "boot", desc := "()V" } : MethodName)), (Cond.instanceMethod ({ cls := "MonitorBoard", name := "boot", desc := "()V" } : MethodName)), (Cond.selects "MonitorBoard" ({ cls := "MonitorBoard", name := "boot", desc := "()V" } : MethodName) ({ cls := "MonitorBoard", name := "boot", desc := "()V" } : MethodName)), (Cond.initialized "MonitorBoard")] : List Cond), w ∈ fwT := fwT_all [932, 933, 934, 282] (by decide +kernel) (by decide +kernel)
theorem c_law_220 : ∀ w ∈ ([(Cond.methodLink "MonitorBoardLaw" (31 : Nat) ({ cls := "MonitorBoardModel", name := "boot", desc := "()V" } : MethodName)), (Cond.instanceMethod ({ cls := "MonitorBoardModel", name := "boot", desc := "()V" } : MethodName)), (Cond.selects "MonitorBoardModel" ({ cls := "MonitorBoardModel", name := "boot", desc := "()V" } : MethodName) ({ cls := "MonitorBoardModel", name := "boot", desc := "()V" } : MethodName)), (Cond.initialized "MonitorBoardModel")] : List Cond), w ∈ fwT := fwT_all [2672, 2673, 2674, 298] (by decide +kernel) (by decide +kernel)
theorem c_law_232 : ∀ w ∈ ([(Cond.methodLink "MonitorBoardLaw" (32 : Nat) ({ cls := "MonitorBoard", name := "run", desc := "(I)I" } : MethodName)), (Cond.instanceMethod ({ cls := "MonitorBoard", name := "run", desc := "(I)I" } : MethodName)), (Cond.selects "MonitorBoard" ({ cls := "MonitorBoard", name := "run", desc := "(I)I" } : MethodName) ({ cls := "MonitorBoard", name := "run", desc := "(I)I" } : MethodName)), (Cond.initialized "MonitorBoard")] : List Cond), w ∈ fwT := fwT_all [936, 937, 938, 282] (by decide +kernel) (by decide +kernel)
theorem c_law_241 : ∀ w ∈ ([(Cond.methodLink "MonitorBoardLaw" (36 : Nat) ({ cls := "MonitorBoardModel", name := "run", desc := "(I)I" } : MethodName)), (Cond.instanceMethod ({ cls := "MonitorBoardModel", name := "run", desc := "(I)I" } : MethodName)), (Cond.selects "MonitorBoardModel" ({ cls := "MonitorBoardModel", name := "run", desc := "(I)I" } : MethodName) ({ cls := "MonitorBoardModel", name := "run", desc := "(I)I" } : MethodName)), (Cond.initialized "MonitorBoardModel")] : List Cond), w ∈ fwT := fwT_all [2296, 2297, 2298, 298] (by decide +kernel) (by decide +kernel)
theorem c_law_250 : ∀ w ∈ ([(Cond.methodLink "MonitorBoardLaw" (37 : Nat) ({ cls := "MonitorBoard", name := "states", desc := "()J" } : MethodName)), (Cond.instanceMethod ({ cls := "MonitorBoard", name := "states", desc := "()J" } : MethodName)), (Cond.selects "MonitorBoard" ({ cls := "MonitorBoard", name := "states", desc := "()J" } : MethodName) ({ cls := "MonitorBoard", name := "states", desc := "()J" } : MethodName)), (Cond.initialized "MonitorBoard")] : List Cond), w ∈ fwT := fwT_all [1657, 1658, 1659, 282] (by decide +kernel) (by decide +kernel)
theorem c_law_254 : ∀ w ∈ ([(Cond.methodLink "MonitorBoardLaw" (41 : Nat) ({ cls := "MonitorBoardModel", name := "states", desc := "()J" } : MethodName)), (Cond.instanceMethod ({ cls := "MonitorBoardModel", name := "states", desc := "()J" } : MethodName)), (Cond.selects "MonitorBoardModel" ({ cls := "MonitorBoardModel", name := "states", desc := "()J" } : MethodName) ({ cls := "MonitorBoardModel", name := "states", desc := "()J" } : MethodName)), (Cond.initialized "MonitorBoardModel")] : List Cond), w ∈ fwT := fwT_all [2264, 2265, 2266, 298] (by decide +kernel) (by decide +kernel)
theorem c_law_269 : ∀ w ∈ ([(Cond.methodLink "MonitorBoardLaw" (42 : Nat) ({ cls := "MonitorBoard", name := "register", desc := "(I)I" } : MethodName)), (Cond.instanceMethod ({ cls := "MonitorBoard", name := "register", desc := "(I)I" } : MethodName)), (Cond.selects "MonitorBoard" ({ cls := "MonitorBoard", name := "register", desc := "(I)I" } : MethodName) ({ cls := "MonitorBoard", name := "register", desc := "(I)I" } : MethodName)), (Cond.initialized "MonitorBoard")] : List Cond), w ∈ fwT := fwT_all [1661, 1662, 1663, 282] (by decide +kernel) (by decide +kernel)
theorem c_law_278 : ∀ w ∈ ([(Cond.methodLink "MonitorBoardLaw" (45 : Nat) ({ cls := "MonitorBoardModel", name := "register", desc := "(I)I" } : MethodName)), (Cond.instanceMethod ({ cls := "MonitorBoardModel", name := "register", desc := "(I)I" } : MethodName)), (Cond.selects "MonitorBoardModel" ({ cls := "MonitorBoardModel", name := "register", desc := "(I)I" } : MethodName) ({ cls := "MonitorBoardModel", name := "register", desc := "(I)I" } : MethodName)), (Cond.initialized "MonitorBoardModel")] : List Cond), w ∈ fwT := fwT_all [2268, 2269, 2270, 298] (by decide +kernel) (by decide +kernel)
theorem c_law_292 : ∀ w ∈ ([(Cond.methodLink "MonitorBoardLaw" (46 : Nat) ({ cls := "MonitorBoard", name := "memory", desc := "(I)I" } : MethodName)), (Cond.instanceMethod ({ cls := "MonitorBoard", name := "memory", desc := "(I)I" } : MethodName)), (Cond.selects "MonitorBoard" ({ cls := "MonitorBoard", name := "memory", desc := "(I)I" } : MethodName) ({ cls := "MonitorBoard", name := "memory", desc := "(I)I" } : MethodName)), (Cond.initialized "MonitorBoard")] : List Cond), w ∈ fwT := fwT_all [1665, 1666, 1667, 282] (by decide +kernel) (by decide +kernel)
theorem c_law_301 : ∀ w ∈ ([(Cond.methodLink "MonitorBoardLaw" (49 : Nat) ({ cls := "MonitorBoardModel", name := "memory", desc := "(I)I" } : MethodName)), (Cond.instanceMethod ({ cls := "MonitorBoardModel", name := "memory", desc := "(I)I" } : MethodName)), (Cond.selects "MonitorBoardModel" ({ cls := "MonitorBoardModel", name := "memory", desc := "(I)I" } : MethodName) ({ cls := "MonitorBoardModel", name := "memory", desc := "(I)I" } : MethodName)), (Cond.initialized "MonitorBoardModel")] : List Cond), w ∈ fwT := fwT_all [2272, 2273, 2274, 298] (by decide +kernel) (by decide +kernel)
theorem c_law_315 : ∀ w ∈ ([(Cond.methodLink "MonitorBoardLaw" (50 : Nat) ({ cls := "MonitorBoard", name := "load", desc := "(I)V" } : MethodName)), (Cond.instanceMethod ({ cls := "MonitorBoard", name := "load", desc := "(I)V" } : MethodName)), (Cond.selects "MonitorBoard" ({ cls := "MonitorBoard", name := "load", desc := "(I)V" } : MethodName) ({ cls := "MonitorBoard", name := "load", desc := "(I)V" } : MethodName)), (Cond.initialized "MonitorBoard")] : List Cond), w ∈ fwT := fwT_all [1671, 1672, 1673, 282] (by decide +kernel) (by decide +kernel)
theorem c_law_324 : ∀ w ∈ ([(Cond.methodLink "MonitorBoardLaw" (54 : Nat) ({ cls := "MonitorBoardModel", name := "load", desc := "(I)V" } : MethodName)), (Cond.instanceMethod ({ cls := "MonitorBoardModel", name := "load", desc := "(I)V" } : MethodName)), (Cond.selects "MonitorBoardModel" ({ cls := "MonitorBoardModel", name := "load", desc := "(I)V" } : MethodName) ({ cls := "MonitorBoardModel", name := "load", desc := "(I)V" } : MethodName)), (Cond.initialized "MonitorBoardModel")] : List Cond), w ∈ fwT := fwT_all [2276, 2277, 2278, 298] (by decide +kernel) (by decide +kernel)
theorem c_law_336 : ∀ w ∈ ([(Cond.methodLink "MonitorBoardLaw" (55 : Nat) ({ cls := "MonitorBoard", name := "jump", desc := "(I)V" } : MethodName)), (Cond.instanceMethod ({ cls := "MonitorBoard", name := "jump", desc := "(I)V" } : MethodName)), (Cond.selects "MonitorBoard" ({ cls := "MonitorBoard", name := "jump", desc := "(I)V" } : MethodName) ({ cls := "MonitorBoard", name := "jump", desc := "(I)V" } : MethodName)), (Cond.initialized "MonitorBoard")] : List Cond), w ∈ fwT := fwT_all [1676, 1677, 1678, 282] (by decide +kernel) (by decide +kernel)
theorem c_law_345 : ∀ w ∈ ([(Cond.methodLink "MonitorBoardLaw" (58 : Nat) ({ cls := "MonitorBoardModel", name := "jump", desc := "(I)V" } : MethodName)), (Cond.instanceMethod ({ cls := "MonitorBoardModel", name := "jump", desc := "(I)V" } : MethodName)), (Cond.selects "MonitorBoardModel" ({ cls := "MonitorBoardModel", name := "jump", desc := "(I)V" } : MethodName) ({ cls := "MonitorBoardModel", name := "jump", desc := "(I)V" } : MethodName)), (Cond.initialized "MonitorBoardModel")] : List Cond), w ∈ fwT := fwT_all [2280, 2281, 2282, 298] (by decide +kernel) (by decide +kernel)
theorem c_law_352 : ∀ w ∈ ([(Cond.methodLink "MonitorBoardLaw" (59 : Nat) ({ cls := "MonitorBoard", name := "console", desc := "()I" } : MethodName)), (Cond.instanceMethod ({ cls := "MonitorBoard", name := "console", desc := "()I" } : MethodName)), (Cond.selects "MonitorBoard" ({ cls := "MonitorBoard", name := "console", desc := "()I" } : MethodName) ({ cls := "MonitorBoard", name := "console", desc := "()I" } : MethodName)), (Cond.initialized "MonitorBoard")] : List Cond), w ∈ fwT := fwT_all [1681, 1682, 1683, 282] (by decide +kernel) (by decide +kernel)
theorem c_law_356 : ∀ w ∈ ([(Cond.methodLink "MonitorBoardLaw" (62 : Nat) ({ cls := "MonitorBoardModel", name := "console", desc := "()I" } : MethodName)), (Cond.instanceMethod ({ cls := "MonitorBoardModel", name := "console", desc := "()I" } : MethodName)), (Cond.selects "MonitorBoardModel" ({ cls := "MonitorBoardModel", name := "console", desc := "()I" } : MethodName) ({ cls := "MonitorBoardModel", name := "console", desc := "()I" } : MethodName)), (Cond.initialized "MonitorBoardModel")] : List Cond), w ∈ fwT := fwT_all [2284, 2285, 2286, 298] (by decide +kernel) (by decide +kernel)
theorem c_law_370 : ∀ w ∈ ([(Cond.methodLink "MonitorBoardLaw" (63 : Nat) ({ cls := "MonitorBoard", name := "out", desc := "(I)I" } : MethodName)), (Cond.instanceMethod ({ cls := "MonitorBoard", name := "out", desc := "(I)I" } : MethodName)), (Cond.selects "MonitorBoard" ({ cls := "MonitorBoard", name := "out", desc := "(I)I" } : MethodName) ({ cls := "MonitorBoard", name := "out", desc := "(I)I" } : MethodName)), (Cond.initialized "MonitorBoard")] : List Cond), w ∈ fwT := fwT_all [1689, 1690, 1691, 282] (by decide +kernel) (by decide +kernel)
theorem c_law_379 : ∀ w ∈ ([(Cond.methodLink "MonitorBoardLaw" (66 : Nat) ({ cls := "MonitorBoardModel", name := "out", desc := "(I)I" } : MethodName)), (Cond.instanceMethod ({ cls := "MonitorBoardModel", name := "out", desc := "(I)I" } : MethodName)), (Cond.selects "MonitorBoardModel" ({ cls := "MonitorBoardModel", name := "out", desc := "(I)I" } : MethodName) ({ cls := "MonitorBoardModel", name := "out", desc := "(I)I" } : MethodName)), (Cond.initialized "MonitorBoardModel")] : List Cond), w ∈ fwT := fwT_all [2288, 2289, 2290, 298] (by decide +kernel) (by decide +kernel)
theorem c_law_388 : ∀ w ∈ ([(Cond.methodLink "MonitorBoardLaw" (67 : Nat) ({ cls := "MonitorBoard", name := "assemble", desc := "()I" } : MethodName)), (Cond.instanceMethod ({ cls := "MonitorBoard", name := "assemble", desc := "()I" } : MethodName)), (Cond.selects "MonitorBoard" ({ cls := "MonitorBoard", name := "assemble", desc := "()I" } : MethodName) ({ cls := "MonitorBoard", name := "assemble", desc := "()I" } : MethodName)), (Cond.initialized "MonitorBoard")] : List Cond), w ∈ fwT := fwT_all [1693, 1694, 1695, 282] (by decide +kernel) (by decide +kernel)
theorem c_law_392 : ∀ w ∈ ([(Cond.methodLink "MonitorBoardLaw" (70 : Nat) ({ cls := "MonitorBoardModel", name := "assemble", desc := "()I" } : MethodName)), (Cond.instanceMethod ({ cls := "MonitorBoardModel", name := "assemble", desc := "()I" } : MethodName)), (Cond.selects "MonitorBoardModel" ({ cls := "MonitorBoardModel", name := "assemble", desc := "()I" } : MethodName) ({ cls := "MonitorBoardModel", name := "assemble", desc := "()I" } : MethodName)), (Cond.initialized "MonitorBoardModel")] : List Cond), w ∈ fwT := fwT_all [2680, 2681, 2682, 298] (by decide +kernel) (by decide +kernel)
theorem c_law_401 : ∀ w ∈ ([(Cond.methodLink "MonitorBoardLaw" (71 : Nat) ({ cls := "MonitorBoard", name := "back", desc := "()I" } : MethodName)), (Cond.instanceMethod ({ cls := "MonitorBoard", name := "back", desc := "()I" } : MethodName)), (Cond.selects "MonitorBoard" ({ cls := "MonitorBoard", name := "back", desc := "()I" } : MethodName) ({ cls := "MonitorBoard", name := "back", desc := "()I" } : MethodName)), (Cond.initialized "MonitorBoard")] : List Cond), w ∈ fwT := fwT_all [1839, 1840, 1841, 282] (by decide +kernel) (by decide +kernel)
theorem c_law_405 : ∀ w ∈ ([(Cond.methodLink "MonitorBoardLaw" (74 : Nat) ({ cls := "MonitorBoardModel", name := "back", desc := "()I" } : MethodName)), (Cond.instanceMethod ({ cls := "MonitorBoardModel", name := "back", desc := "()I" } : MethodName)), (Cond.selects "MonitorBoardModel" ({ cls := "MonitorBoardModel", name := "back", desc := "()I" } : MethodName) ({ cls := "MonitorBoardModel", name := "back", desc := "()I" } : MethodName)), (Cond.initialized "MonitorBoardModel")] : List Cond), w ∈ fwT := fwT_all [2292, 2293, 2294, 298] (by decide +kernel) (by decide +kernel)
theorem c_law_439 : ∀ w ∈ ([(Cond.methodLink "MonitorBoardLaw" (75 : Nat) ({ cls := "MonitorBoard", name := "disk", desc := "(IIIII)I" } : MethodName)), (Cond.instanceMethod ({ cls := "MonitorBoard", name := "disk", desc := "(IIIII)I" } : MethodName)), (Cond.selects "MonitorBoard" ({ cls := "MonitorBoard", name := "disk", desc := "(IIIII)I" } : MethodName) ({ cls := "MonitorBoard", name := "disk", desc := "(IIIII)I" } : MethodName)), (Cond.initialized "MonitorBoard")] : List Cond), w ∈ fwT := fwT_all [1845, 1846, 1847, 282] (by decide +kernel) (by decide +kernel)
theorem c_law_468 : ∀ w ∈ ([(Cond.methodLink "MonitorBoardLaw" (79 : Nat) ({ cls := "MonitorBoardModel", name := "disk", desc := "(IIIII)I" } : MethodName)), (Cond.instanceMethod ({ cls := "MonitorBoardModel", name := "disk", desc := "(IIIII)I" } : MethodName)), (Cond.selects "MonitorBoardModel" ({ cls := "MonitorBoardModel", name := "disk", desc := "(IIIII)I" } : MethodName) ({ cls := "MonitorBoardModel", name := "disk", desc := "(IIIII)I" } : MethodName)), (Cond.initialized "MonitorBoardModel")] : List Cond), w ∈ fwT := fwT_all [2676, 2677, 2678, 298] (by decide +kernel) (by decide +kernel)
theorem c_law_482 : ∀ w ∈ ([(Cond.methodLink "MonitorBoardLaw" (80 : Nat) ({ cls := "MonitorBoard", name := "list", desc := "(I)I" } : MethodName)), (Cond.instanceMethod ({ cls := "MonitorBoard", name := "list", desc := "(I)I" } : MethodName)), (Cond.selects "MonitorBoard" ({ cls := "MonitorBoard", name := "list", desc := "(I)I" } : MethodName) ({ cls := "MonitorBoard", name := "list", desc := "(I)I" } : MethodName)), (Cond.initialized "MonitorBoard")] : List Cond), w ∈ fwT := fwT_all [1851, 1852, 1853, 282] (by decide +kernel) (by decide +kernel)
theorem c_law_491 : ∀ w ∈ ([(Cond.methodLink "MonitorBoardLaw" (83 : Nat) ({ cls := "MonitorBoardModel", name := "list", desc := "(I)I" } : MethodName)), (Cond.instanceMethod ({ cls := "MonitorBoardModel", name := "list", desc := "(I)I" } : MethodName)), (Cond.selects "MonitorBoardModel" ({ cls := "MonitorBoardModel", name := "list", desc := "(I)I" } : MethodName) ({ cls := "MonitorBoardModel", name := "list", desc := "(I)I" } : MethodName)), (Cond.initialized "MonitorBoardModel")] : List Cond), w ∈ fwT := fwT_all [2826, 2827, 2828, 298] (by decide +kernel) (by decide +kernel)
theorem c_law_500 : ∀ w ∈ ([(Cond.methodLink "MonitorBoardLaw" (84 : Nat) ({ cls := "MonitorBoard", name := "hex", desc := "()I" } : MethodName)), (Cond.instanceMethod ({ cls := "MonitorBoard", name := "hex", desc := "()I" } : MethodName)), (Cond.selects "MonitorBoard" ({ cls := "MonitorBoard", name := "hex", desc := "()I" } : MethodName) ({ cls := "MonitorBoard", name := "hex", desc := "()I" } : MethodName)), (Cond.initialized "MonitorBoard")] : List Cond), w ∈ fwT := fwT_all [1913, 1914, 1915, 282] (by decide +kernel) (by decide +kernel)
theorem c_law_504 : ∀ w ∈ ([(Cond.methodLink "MonitorBoardLaw" (87 : Nat) ({ cls := "MonitorBoardModel", name := "hex", desc := "()I" } : MethodName)), (Cond.instanceMethod ({ cls := "MonitorBoardModel", name := "hex", desc := "()I" } : MethodName)), (Cond.selects "MonitorBoardModel" ({ cls := "MonitorBoardModel", name := "hex", desc := "()I" } : MethodName) ({ cls := "MonitorBoardModel", name := "hex", desc := "()I" } : MethodName)), (Cond.initialized "MonitorBoardModel")] : List Cond), w ∈ fwT := fwT_all [2859, 2860, 2861, 298] (by decide +kernel) (by decide +kernel)
/-! the law's walk (laid by wip/whole/t23.py) -/
theorem Fre_up {σ σ' : fwS} (h : Fre σ) (e : ∀ a, a < 37 → σ'.1 a = σ.1 a ∧ σ'.2 a = σ.2 a) : Fre σ' := by
  unfold Fre FilOk at *
  rw [(e 0 (by decide)).1, (e 4 (by decide)).1, (e 8 (by decide)).1, (e 8 (by decide)).2, (e 9 (by decide)).1, (e 10 (by decide)).1, (e 11 (by decide)).1, (e 17 (by decide)).1, (e 12 (by decide)).1, (e 13 (by decide)).1]
  exact h
theorem FreM_up {σ σ' : fwS} (h : FreM σ) (u : Up σ σ') : FreM σ' := by
  unfold FreM at *
  rw [(u 37 (by decide)).1, (u 37 (by decide)).2, (u 38 (by decide)).1, (u 44 (by decide)).1, (u 39 (by decide)).1]
  exact h
section LAW
variable {l : Launch} {Z : fwZ} {σ : fwS}
theorem law_in {k : Nat} {j : Int32} (hn : Z.2.2.2.2 6001 = 6) (hj : j = nI k) (hk : k < 6) : vp_in j (Z.2.2.2.2 6001) := by
  rw [hn, hj]
  exact vp_in_nI hk (by decide)
theorem law_512 {sh : List fwE} {nc ns : Nat} (hn : Z.2.2.2.2 6001 = 6) (h1 : nc ≤ 57) (h2 : ns ≤ 1436945) : fwG l Z m_law 10 57 1436945 (fun v _ _ => v = some (.int 1)) nc ns 512 [some (.retAddr 6000), some (.ref 0), some (.ref 37), some (.int 0)] [] sh σ := by
  refine fwRun_ok k_law_512_ok rfl trivial ?_
  refine fwg_goto 18 d_law_515 (by decide) ?_
  refine fwRun_ok k_law_18_ok rfl trivial ?_
  refine fwg_scrLen d_law_20 ?_
  rw [hn]
  refine fwRun_ok k_law_21_ok rfl trivial ?_
  refine fwg_cmp 518 d_law_24 (by decide) (fun _ => ?_) (fun q => absurd (show nI 6 - 6 < (0 : Int32) + 6 by decide) q)
  refine fwRun_ok k_law_518_ok rfl trivial ?_
  exact fwg_zret rfl rfl h1 h2 rfl d_law_519
theorem law_feed (hn : Z.2.2.2.2 6001 = 6) (hF : Fre σ) (hM : FreM σ) : fwG l Z m_law 10 57 1436945 (fun v _ _ => v = some (.int 1)) 57 1436945 116 [some (.retAddr 6000), some (.ref 0), some (.ref 37), some (.int 0)] [] (shMd []) σ := by
  refine fwRun_ok k_law_116_ok rfl trivial ?_
  refine fwg_scrGet (law_in hn (k := 1) (by decide) (by decide)) d_law_121 ?_
  refine fwRun_ok k_law_122_ok rfl trivial ?_
  refine fwg_scrGet (law_in hn (k := 2) (by decide) (by decide)) d_law_126 ?_
  refine fwRun_ok k_law_127_ok rfl trivial ?_
  refine fwg_scrGet (law_in hn (k := 3) (by decide) (by decide)) d_law_131 ?_
  refine fwRun_ok k_law_132_ok rfl trivial ?_
  refine fwg_scrGet (law_in hn (k := 4) (by decide) (by decide)) d_law_136 ?_
  refine fwRun_ok k_law_137_ok rfl trivial ?_
  refine fwg_scrGet (law_in hn (k := 5) (by decide) (by decide)) d_law_141 ?_
  refine fwg_callV (n := 5) (i := 0) (as := [.int (fwSc Z ((0 : Int32) + 1).toNatClampNeg), .int (fwSc Z ((0 : Int32) + 2).toNatClampNeg), .int (fwSc Z ((0 : Int32) + 3).toNatClampNeg), .int (fwSc Z ((0 : Int32) + 4).toNatClampNeg), .int (fwSc Z ((0 : Int32) + 5).toNatClampNeg)]) (r := []) (ct_feed hF) ⟨by decide, by decide, by decide +kernel⟩ m_feed_in c_law_142 rfl rfl rfl rfl (Nat.le_of_ble_eq_true rfl) d_law_142 ⟨Nat.le_of_ble_eq_true rfl, Nat.le_of_ble_eq_true rfl⟩ ⟨Nat.le_refl _, Nat.le_refl _⟩ (fun v sh' σ1 hq => ?_)
  obtain ⟨rfl, rfl, u1⟩ := hq
  refine fwRun_ok k_law_145_ok rfl trivial ?_
  refine fwg_scrGet (law_in hn (k := 1) (by decide) (by decide)) d_law_150 ?_
  refine fwRun_ok k_law_151_ok rfl trivial ?_
  refine fwg_scrGet (law_in hn (k := 2) (by decide) (by decide)) d_law_155 ?_
  refine fwRun_ok k_law_156_ok rfl trivial ?_
  refine fwg_scrGet (law_in hn (k := 3) (by decide) (by decide)) d_law_160 ?_
  refine fwRun_ok k_law_161_ok rfl trivial ?_
  refine fwg_scrGet (law_in hn (k := 4) (by decide) (by decide)) d_law_165 ?_
  refine fwRun_ok k_law_166_ok rfl trivial ?_
  refine fwg_scrGet (law_in hn (k := 5) (by decide) (by decide)) d_law_170 ?_
  refine fwg_callV (n := 5) (i := 37) (as := [.int (fwSc Z ((0 : Int32) + 1).toNatClampNeg), .int (fwSc Z ((0 : Int32) + 2).toNatClampNeg), .int (fwSc Z ((0 : Int32) + 3).toNatClampNeg), .int (fwSc Z ((0 : Int32) + 4).toNatClampNeg), .int (fwSc Z ((0 : Int32) + 5).toNatClampNeg)]) (r := [.int 1]) (ct_rFeed (FreM_up hM u1)) ⟨by decide, by decide, by decide +kernel⟩ m_rFeed_in c_law_171 rfl rfl rfl rfl (Nat.le_of_ble_eq_true rfl) d_law_171 ⟨Nat.le_of_ble_eq_true rfl, Nat.le_of_ble_eq_true rfl⟩ ⟨Nat.le_refl _, Nat.le_refl _⟩ (fun v sh' σ2 hq => ?_)
  obtain ⟨rfl, rfl⟩ := hq
  exact fwg_cmp 512 d_law_174 (by decide) (fun _ => law_512 hn (Nat.le_refl _) (Nat.le_refl _)) (fun q => absurd rfl q)
theorem law_end (hn : Z.2.2.2.2 6001 = 6) (hF : Fre σ) (hM : FreM σ) : fwG l Z m_law 10 57 1436945 (fun v _ _ => v = some (.int 1)) 57 1436945 179 [some (.retAddr 6000), some (.ref 0), some (.ref 37), some (.int 0)] [] (shMd []) σ := by
  refine fwRun_ok k_law_179_ok rfl trivial ?_
  refine fwg_scrGet (law_in hn (k := 1) (by decide) (by decide)) d_law_184 ?_
  refine fwg_callV (n := 1) (i := 0) (as := [.int (fwSc Z ((0 : Int32) + 1).toNatClampNeg)]) (r := []) (ct_end hF) ⟨by decide, by decide, by decide +kernel⟩ m_end_in c_law_185 rfl rfl rfl rfl (Nat.le_of_ble_eq_true rfl) d_law_185 ⟨Nat.le_of_ble_eq_true rfl, Nat.le_of_ble_eq_true rfl⟩ ⟨Nat.le_refl _, Nat.le_refl _⟩ (fun v sh' σ1 hq => ?_)
  obtain ⟨rfl, rfl, u1⟩ := hq
  refine fwRun_ok k_law_188_ok rfl trivial ?_
  refine fwg_scrGet (law_in hn (k := 1) (by decide) (by decide)) d_law_193 ?_
  refine fwg_callV (n := 1) (i := 37) (as := [.int (fwSc Z ((0 : Int32) + 1).toNatClampNeg)]) (r := [.int (aEnd (fwSc Z ((0 : Int32) + 1).toNatClampNeg))]) (ct_rEnd (FreM_up hM u1)) ⟨by decide, by decide, by decide +kernel⟩ m_rEnd_in c_law_194 rfl rfl rfl rfl (Nat.le_of_ble_eq_true rfl) d_law_194 ⟨Nat.le_of_ble_eq_true rfl, Nat.le_of_ble_eq_true rfl⟩ ⟨Nat.le_refl _, Nat.le_refl _⟩ (fun v sh' σ2 hq => ?_)
  obtain ⟨rfl, rfl⟩ := hq
  exact fwg_cmp 512 d_law_197 (by decide) (fun _ => law_512 hn (Nat.le_refl _) (Nat.le_refl _)) (fun q => absurd rfl q)
theorem law_keys (hn : Z.2.2.2.2 6001 = 6) (hF : Fre σ) (hM : FreM σ) : fwG l Z m_law 10 57 1436945 (fun v _ _ => v = some (.int 1)) 57 1436945 202 [some (.retAddr 6000), some (.ref 0), some (.ref 37), some (.int 0)] [] (shMd []) σ := by
  refine fwRun_ok k_law_202_ok rfl trivial ?_
  refine fwg_callV (n := 0) (i := 0) (as := []) (r := []) (ct_keys hF) ⟨by decide, by decide, by decide +kernel⟩ m_keys_in c_law_203 rfl rfl rfl rfl (Nat.le_of_ble_eq_true rfl) d_law_203 ⟨Nat.le_of_ble_eq_true rfl, Nat.le_of_ble_eq_true rfl⟩ ⟨Nat.le_refl _, Nat.le_refl _⟩ (fun v sh' σ1 hq => ?_)
  obtain ⟨rfl, rfl, u1⟩ := hq
  refine fwRun_ok k_law_206_ok rfl trivial ?_
  refine fwg_callV (n := 0) (i := 37) (as := []) (r := [.int 0]) (ct_rKeys (FreM_up hM u1)) ⟨by decide, by decide, by decide +kernel⟩ m_rKeys_in c_law_207 rfl rfl rfl rfl (Nat.le_of_ble_eq_true rfl) d_law_207 ⟨Nat.le_of_ble_eq_true rfl, Nat.le_of_ble_eq_true rfl⟩ ⟨Nat.le_refl _, Nat.le_refl _⟩ (fun v sh' σ2 hq => ?_)
  obtain ⟨rfl, rfl⟩ := hq
  exact fwg_cmp 512 d_law_210 (by decide) (fun _ => law_512 hn (Nat.le_refl _) (Nat.le_refl _)) (fun q => absurd rfl q)
theorem law_boot (hn : Z.2.2.2.2 6001 = 6) (hF : Fre σ) (hM : FreM σ) : fwG l Z m_law 10 57 1436945 (fun v _ _ => v = some (.int 1)) 57 1436945 215 [some (.retAddr 6000), some (.ref 0), some (.ref 37), some (.int 0)] [] (shMd []) σ := by
  refine fwRun_ok k_law_215_ok rfl trivial ?_
  refine fwg_callV (n := 0) (i := 0) (as := []) (r := []) (ct_boot hF) ⟨by decide, by decide, by decide +kernel⟩ m_boot_in c_law_216 rfl rfl rfl rfl (Nat.le_of_ble_eq_true rfl) d_law_216 ⟨Nat.le_of_ble_eq_true rfl, Nat.le_of_ble_eq_true rfl⟩ ⟨Nat.le_refl _, Nat.le_refl _⟩ (fun v sh' σ1 hq => ?_)
  obtain ⟨rfl, rfl, u1⟩ := hq
  refine fwRun_ok k_law_219_ok rfl trivial ?_
  refine fwg_callV (n := 0) (i := 37) (as := []) (r := []) (ct_rBoot (FreM_up hM u1)) ⟨by decide, by decide, by decide +kernel⟩ m_rBoot_in c_law_220 rfl rfl rfl rfl (Nat.le_of_ble_eq_true rfl) d_law_220 ⟨Nat.le_of_ble_eq_true rfl, Nat.le_of_ble_eq_true rfl⟩ ⟨Nat.le_refl _, Nat.le_refl _⟩ (fun v sh' σ2 hq => ?_)
  obtain ⟨rfl, rfl⟩ := hq
  refine fwg_goto 512 d_law_223 (by decide) ?_
  exact law_512 hn (Nat.le_refl _) (Nat.le_refl _)
theorem law_run (hn : Z.2.2.2.2 6001 = 6) (hF : Fre σ) (hM : FreM σ) : fwG l Z m_law 10 57 1436945 (fun v _ _ => v = some (.int 1)) 57 1436945 226 [some (.retAddr 6000), some (.ref 0), some (.ref 37), some (.int 0)] [] (shMd []) σ := by
  refine fwRun_ok k_law_226_ok rfl trivial ?_
  refine fwg_scrGet (law_in hn (k := 1) (by decide) (by decide)) d_law_231 ?_
  refine fwg_callV (n := 1) (i := 0) (as := [.int (fwSc Z ((0 : Int32) + 1).toNatClampNeg)]) (r := []) (ct_run hF) ⟨by decide, by decide, by decide +kernel⟩ m_run_in c_law_232 rfl rfl rfl rfl (Nat.le_of_ble_eq_true rfl) d_law_232 ⟨Nat.le_of_ble_eq_true rfl, Nat.le_of_ble_eq_true rfl⟩ ⟨Nat.le_refl _, Nat.le_refl _⟩ (fun v sh' σ1 hq => ?_)
  obtain ⟨rfl, rfl, u1⟩ := hq
  refine fwRun_ok k_law_235_ok rfl trivial ?_
  refine fwg_scrGet (law_in hn (k := 1) (by decide) (by decide)) d_law_240 ?_
  refine fwg_callV (n := 1) (i := 37) (as := [.int (fwSc Z ((0 : Int32) + 1).toNatClampNeg)]) (r := [.int (aRun (fwSc Z ((0 : Int32) + 1).toNatClampNeg))]) (ct_rRun (FreM_up hM u1)) ⟨by decide, by decide, by decide +kernel⟩ m_rRun_in c_law_241 rfl rfl rfl rfl (Nat.le_of_ble_eq_true rfl) d_law_241 ⟨Nat.le_of_ble_eq_true rfl, Nat.le_of_ble_eq_true rfl⟩ ⟨Nat.le_refl _, Nat.le_refl _⟩ (fun v sh' σ2 hq => ?_)
  obtain ⟨rfl, rfl⟩ := hq
  exact fwg_cmp 512 d_law_244 (by decide) (fun _ => law_512 hn (Nat.le_refl _) (Nat.le_refl _)) (fun q => absurd rfl q)
theorem law_states (hn : Z.2.2.2.2 6001 = 6) (hF : Fre σ) (hM : FreM σ) : fwG l Z m_law 10 57 1436945 (fun v _ _ => v = some (.int 1)) 57 1436945 249 [some (.retAddr 6000), some (.ref 0), some (.ref 37), some (.int 0)] [] (shMd []) σ := by
  refine fwRun_ok k_law_249_ok rfl trivial ?_
  refine fwg_callV (n := 0) (i := 0) (as := []) (r := []) (ct_states hF) ⟨by decide, by decide, by decide +kernel⟩ m_states_in c_law_250 rfl rfl rfl rfl (Nat.le_of_ble_eq_true rfl) d_law_250 ⟨Nat.le_of_ble_eq_true rfl, Nat.le_of_ble_eq_true rfl⟩ ⟨Nat.le_refl _, Nat.le_refl _⟩ (fun v sh' σ1 hq => ?_)
  obtain ⟨rfl, rfl, u1⟩ := hq
  refine fwRun_ok k_law_253_ok rfl trivial ?_
  refine fwg_callV (n := 0) (i := 37) (as := []) (r := [.long 0]) (ct_rStates (FreM_up hM u1)) ⟨by decide, by decide, by decide +kernel⟩ m_rStates_in c_law_254 rfl rfl rfl rfl (Nat.le_of_ble_eq_true rfl) d_law_254 ⟨Nat.le_of_ble_eq_true rfl, Nat.le_of_ble_eq_true rfl⟩ ⟨Nat.le_refl _, Nat.le_refl _⟩ (fun v sh' σ2 hq => ?_)
  obtain ⟨rfl, rfl⟩ := hq
  refine fwRun_ok k_law_257_ok rfl trivial ?_
  exact fwg_if 512 d_law_258 (by decide) (fun _ => law_512 hn (Nat.le_refl _) (Nat.le_refl _)) (fun q => absurd (show lg_cmp 0 0 = 0 by decide) q)
theorem law_register (hn : Z.2.2.2.2 6001 = 6) (hF : Fre σ) (hM : FreM σ) : fwG l Z m_law 10 57 1436945 (fun v _ _ => v = some (.int 1)) 57 1436945 263 [some (.retAddr 6000), some (.ref 0), some (.ref 37), some (.int 0)] [] (shMd []) σ := by
  refine fwRun_ok k_law_263_ok rfl trivial ?_
  refine fwg_scrGet (law_in hn (k := 1) (by decide) (by decide)) d_law_268 ?_
  refine fwg_callV (n := 1) (i := 0) (as := [.int (fwSc Z ((0 : Int32) + 1).toNatClampNeg)]) (r := []) (ct_register hF) ⟨by decide, by decide, by decide +kernel⟩ m_register_in c_law_269 rfl rfl rfl rfl (Nat.le_of_ble_eq_true rfl) d_law_269 ⟨Nat.le_of_ble_eq_true rfl, Nat.le_of_ble_eq_true rfl⟩ ⟨Nat.le_refl _, Nat.le_refl _⟩ (fun v sh' σ1 hq => ?_)
  obtain ⟨rfl, rfl, u1⟩ := hq
  refine fwRun_ok k_law_272_ok rfl trivial ?_
  refine fwg_scrGet (law_in hn (k := 1) (by decide) (by decide)) d_law_277 ?_
  refine fwg_callV (n := 1) (i := 37) (as := [.int (fwSc Z ((0 : Int32) + 1).toNatClampNeg)]) (r := [.int (aReg (fwSc Z ((0 : Int32) + 1).toNatClampNeg))]) (ct_rRegister (FreM_up hM u1)) ⟨by decide, by decide, by decide +kernel⟩ m_rRegister_in c_law_278 rfl rfl rfl rfl (Nat.le_of_ble_eq_true rfl) d_law_278 ⟨Nat.le_of_ble_eq_true rfl, Nat.le_of_ble_eq_true rfl⟩ ⟨Nat.le_refl _, Nat.le_refl _⟩ (fun v sh' σ2 hq => ?_)
  obtain ⟨rfl, rfl⟩ := hq
  exact fwg_cmp 512 d_law_281 (by decide) (fun _ => law_512 hn (Nat.le_refl _) (Nat.le_refl _)) (fun q => absurd rfl q)
theorem law_memory (hn : Z.2.2.2.2 6001 = 6) (hF : Fre σ) (hM : FreM σ) : fwG l Z m_law 10 57 1436945 (fun v _ _ => v = some (.int 1)) 57 1436945 286 [some (.retAddr 6000), some (.ref 0), some (.ref 37), some (.int 0)] [] (shMd []) σ := by
  refine fwRun_ok k_law_286_ok rfl trivial ?_
  refine fwg_scrGet (law_in hn (k := 1) (by decide) (by decide)) d_law_291 ?_
  refine fwg_callV (n := 1) (i := 0) (as := [.int (fwSc Z ((0 : Int32) + 1).toNatClampNeg)]) (r := []) (ct_memory hF) ⟨by decide, by decide, by decide +kernel⟩ m_memory_in c_law_292 rfl rfl rfl rfl (Nat.le_of_ble_eq_true rfl) d_law_292 ⟨Nat.le_of_ble_eq_true rfl, Nat.le_of_ble_eq_true rfl⟩ ⟨Nat.le_refl _, Nat.le_refl _⟩ (fun v sh' σ1 hq => ?_)
  obtain ⟨rfl, rfl, u1⟩ := hq
  refine fwRun_ok k_law_295_ok rfl trivial ?_
  refine fwg_scrGet (law_in hn (k := 1) (by decide) (by decide)) d_law_300 ?_
  refine fwg_callV (n := 1) (i := 37) (as := [.int (fwSc Z ((0 : Int32) + 1).toNatClampNeg)]) (r := [.int (aMem (fwSc Z ((0 : Int32) + 1).toNatClampNeg))]) (ct_rMemory (FreM_up hM u1)) ⟨by decide, by decide, by decide +kernel⟩ m_rMemory_in c_law_301 rfl rfl rfl rfl (Nat.le_of_ble_eq_true rfl) d_law_301 ⟨Nat.le_of_ble_eq_true rfl, Nat.le_of_ble_eq_true rfl⟩ ⟨Nat.le_refl _, Nat.le_refl _⟩ (fun v sh' σ2 hq => ?_)
  obtain ⟨rfl, rfl⟩ := hq
  exact fwg_cmp 512 d_law_304 (by decide) (fun _ => law_512 hn (Nat.le_refl _) (Nat.le_refl _)) (fun q => absurd rfl q)
theorem law_load (hn : Z.2.2.2.2 6001 = 6) (hF : Fre σ) (hM : FreM σ) : fwG l Z m_law 10 57 1436945 (fun v _ _ => v = some (.int 1)) 57 1436945 309 [some (.retAddr 6000), some (.ref 0), some (.ref 37), some (.int 0)] [] (shMd []) σ := by
  refine fwRun_ok k_law_309_ok rfl trivial ?_
  refine fwg_scrGet (law_in hn (k := 1) (by decide) (by decide)) d_law_314 ?_
  refine fwg_callV (n := 1) (i := 0) (as := [.int (fwSc Z ((0 : Int32) + 1).toNatClampNeg)]) (r := []) (ct_load hF) ⟨by decide, by decide, by decide +kernel⟩ m_load_in c_law_315 rfl rfl rfl rfl (Nat.le_of_ble_eq_true rfl) d_law_315 ⟨Nat.le_of_ble_eq_true rfl, Nat.le_of_ble_eq_true rfl⟩ ⟨Nat.le_refl _, Nat.le_refl _⟩ (fun v sh' σ1 hq => ?_)
  obtain ⟨rfl, rfl, u1⟩ := hq
  refine fwRun_ok k_law_318_ok rfl trivial ?_
  refine fwg_scrGet (law_in hn (k := 1) (by decide) (by decide)) d_law_323 ?_
  refine fwg_callV (n := 1) (i := 37) (as := [.int (fwSc Z ((0 : Int32) + 1).toNatClampNeg)]) (r := []) (ct_rLoad (FreM_up hM u1)) ⟨by decide, by decide, by decide +kernel⟩ m_rLoad_in c_law_324 rfl rfl rfl rfl (Nat.le_of_ble_eq_true rfl) d_law_324 ⟨Nat.le_of_ble_eq_true rfl, Nat.le_of_ble_eq_true rfl⟩ ⟨Nat.le_refl _, Nat.le_refl _⟩ (fun v sh' σ2 hq => ?_)
  obtain ⟨rfl, rfl⟩ := hq
  refine fwg_goto 512 d_law_327 (by decide) ?_
  exact law_512 hn (Nat.le_refl _) (Nat.le_refl _)
theorem law_jump (hn : Z.2.2.2.2 6001 = 6) (hF : Fre σ) (hM : FreM σ) : fwG l Z m_law 10 57 1436945 (fun v _ _ => v = some (.int 1)) 57 1436945 330 [some (.retAddr 6000), some (.ref 0), some (.ref 37), some (.int 0)] [] (shMd []) σ := by
  refine fwRun_ok k_law_330_ok rfl trivial ?_
  refine fwg_scrGet (law_in hn (k := 1) (by decide) (by decide)) d_law_335 ?_
  refine fwg_callV (n := 1) (i := 0) (as := [.int (fwSc Z ((0 : Int32) + 1).toNatClampNeg)]) (r := []) (ct_jump) ⟨by decide, by decide, by decide +kernel⟩ m_jump_in c_law_336 rfl rfl rfl rfl (Nat.le_of_ble_eq_true rfl) d_law_336 ⟨Nat.le_of_ble_eq_true rfl, Nat.le_of_ble_eq_true rfl⟩ ⟨Nat.le_refl _, Nat.le_refl _⟩ (fun v sh' σ1 hq => ?_)
  obtain ⟨rfl, rfl, u1⟩ := hq
  refine fwRun_ok k_law_339_ok rfl trivial ?_
  refine fwg_scrGet (law_in hn (k := 1) (by decide) (by decide)) d_law_344 ?_
  refine fwg_callV (n := 1) (i := 37) (as := [.int (fwSc Z ((0 : Int32) + 1).toNatClampNeg)]) (r := []) (ct_rJump) ⟨by decide, by decide, by decide +kernel⟩ m_rJump_in c_law_345 rfl rfl rfl rfl (Nat.le_of_ble_eq_true rfl) d_law_345 ⟨Nat.le_of_ble_eq_true rfl, Nat.le_of_ble_eq_true rfl⟩ ⟨Nat.le_refl _, Nat.le_refl _⟩ (fun v sh' σ2 hq => ?_)
  obtain ⟨rfl, rfl⟩ := hq
  refine fwg_goto 512 d_law_348 (by decide) ?_
  exact law_512 hn (Nat.le_refl _) (Nat.le_refl _)
theorem law_console (hn : Z.2.2.2.2 6001 = 6) (hF : Fre σ) (hM : FreM σ) : fwG l Z m_law 10 57 1436945 (fun v _ _ => v = some (.int 1)) 57 1436945 351 [some (.retAddr 6000), some (.ref 0), some (.ref 37), some (.int 0)] [] (shMd []) σ := by
  refine fwRun_ok k_law_351_ok rfl trivial ?_
  refine fwg_callV (n := 0) (i := 0) (as := []) (r := []) (ct_console hF) ⟨by decide, by decide, by decide +kernel⟩ m_console_in c_law_352 rfl rfl rfl rfl (Nat.le_of_ble_eq_true rfl) d_law_352 ⟨Nat.le_of_ble_eq_true rfl, Nat.le_of_ble_eq_true rfl⟩ ⟨Nat.le_refl _, Nat.le_refl _⟩ (fun v sh' σ1 hq => ?_)
  obtain ⟨rfl, rfl, u1⟩ := hq
  refine fwRun_ok k_law_355_ok rfl trivial ?_
  refine fwg_callV (n := 0) (i := 37) (as := []) (r := [.int (nI 9)]) (ct_rConsole (FreM_up hM u1)) ⟨by decide, by decide, by decide +kernel⟩ m_rConsole_in c_law_356 rfl rfl rfl rfl (Nat.le_of_ble_eq_true rfl) d_law_356 ⟨Nat.le_of_ble_eq_true rfl, Nat.le_of_ble_eq_true rfl⟩ ⟨Nat.le_refl _, Nat.le_refl _⟩ (fun v sh' σ2 hq => ?_)
  obtain ⟨rfl, rfl⟩ := hq
  exact fwg_cmp 512 d_law_359 (by decide) (fun _ => law_512 hn (Nat.le_refl _) (Nat.le_refl _)) (fun q => absurd rfl q)
theorem law_out (hn : Z.2.2.2.2 6001 = 6) (hF : Fre σ) (hM : FreM σ) : fwG l Z m_law 10 57 1436945 (fun v _ _ => v = some (.int 1)) 57 1436945 364 [some (.retAddr 6000), some (.ref 0), some (.ref 37), some (.int 0)] [] (shMd []) σ := by
  refine fwRun_ok k_law_364_ok rfl trivial ?_
  refine fwg_scrGet (law_in hn (k := 1) (by decide) (by decide)) d_law_369 ?_
  refine fwg_callV (n := 1) (i := 0) (as := [.int (fwSc Z ((0 : Int32) + 1).toNatClampNeg)]) (r := []) (ct_out hF) ⟨by decide, by decide, by decide +kernel⟩ m_out_in c_law_370 rfl rfl rfl rfl (Nat.le_of_ble_eq_true rfl) d_law_370 ⟨Nat.le_of_ble_eq_true rfl, Nat.le_of_ble_eq_true rfl⟩ ⟨Nat.le_refl _, Nat.le_refl _⟩ (fun v sh' σ1 hq => ?_)
  obtain ⟨rfl, rfl, u1⟩ := hq
  refine fwRun_ok k_law_373_ok rfl trivial ?_
  refine fwg_scrGet (law_in hn (k := 1) (by decide) (by decide)) d_law_378 ?_
  refine fwg_callV (n := 1) (i := 37) (as := [.int (fwSc Z ((0 : Int32) + 1).toNatClampNeg)]) (r := [.int (-1)]) (ct_rOut (FreM_up hM u1)) ⟨by decide, by decide, by decide +kernel⟩ m_rOut_in c_law_379 rfl rfl rfl rfl (Nat.le_of_ble_eq_true rfl) d_law_379 ⟨Nat.le_of_ble_eq_true rfl, Nat.le_of_ble_eq_true rfl⟩ ⟨Nat.le_refl _, Nat.le_refl _⟩ (fun v sh' σ2 hq => ?_)
  obtain ⟨rfl, rfl⟩ := hq
  exact fwg_cmp 512 d_law_382 (by decide) (fun _ => law_512 hn (Nat.le_refl _) (Nat.le_refl _)) (fun q => absurd rfl q)
theorem law_assemble (hn : Z.2.2.2.2 6001 = 6) (hF : Fre σ) (hM : FreM σ) : fwG l Z m_law 10 57 1436945 (fun v _ _ => v = some (.int 1)) 57 1436945 387 [some (.retAddr 6000), some (.ref 0), some (.ref 37), some (.int 0)] [] (shMd []) σ := by
  refine fwRun_ok k_law_387_ok rfl trivial ?_
  refine fwg_callV (n := 0) (i := 0) (as := []) (r := []) (ct_assemble hF) ⟨by decide, by decide, by decide +kernel⟩ m_assemble_in c_law_388 rfl rfl rfl rfl (Nat.le_of_ble_eq_true rfl) d_law_388 ⟨Nat.le_of_ble_eq_true rfl, Nat.le_of_ble_eq_true rfl⟩ ⟨Nat.le_refl _, Nat.le_refl _⟩ (fun v sh' σ1 hq => ?_)
  obtain ⟨rfl, rfl, u1⟩ := hq
  refine fwRun_ok k_law_391_ok rfl trivial ?_
  refine fwg_callV (n := 0) (i := 37) (as := []) (r := [.int 0]) (ct_rAssemble (FreM_up hM u1)) ⟨by decide, by decide, by decide +kernel⟩ m_rAssemble_in c_law_392 rfl rfl rfl rfl (Nat.le_of_ble_eq_true rfl) d_law_392 ⟨Nat.le_of_ble_eq_true rfl, Nat.le_of_ble_eq_true rfl⟩ ⟨Nat.le_refl _, Nat.le_refl _⟩ (fun v sh' σ2 hq => ?_)
  obtain ⟨rfl, rfl⟩ := hq
  exact fwg_cmp 512 d_law_395 (by decide) (fun _ => law_512 hn (Nat.le_refl _) (Nat.le_refl _)) (fun q => absurd rfl q)
theorem law_back (hn : Z.2.2.2.2 6001 = 6) (hF : Fre σ) (hM : FreM σ) : fwG l Z m_law 10 57 1436945 (fun v _ _ => v = some (.int 1)) 57 1436945 400 [some (.retAddr 6000), some (.ref 0), some (.ref 37), some (.int 0)] [] (shMd []) σ := by
  refine fwRun_ok k_law_400_ok rfl trivial ?_
  refine fwg_callV (n := 0) (i := 0) (as := []) (r := []) (ct_back hF) ⟨by decide, by decide, by decide +kernel⟩ m_back_in c_law_401 rfl rfl rfl rfl (Nat.le_of_ble_eq_true rfl) d_law_401 ⟨Nat.le_of_ble_eq_true rfl, Nat.le_of_ble_eq_true rfl⟩ ⟨Nat.le_refl _, Nat.le_refl _⟩ (fun v sh' σ1 hq => ?_)
  obtain ⟨rfl, rfl, u1⟩ := hq
  refine fwRun_ok k_law_404_ok rfl trivial ?_
  refine fwg_callV (n := 0) (i := 37) (as := []) (r := [.int 0]) (ct_rBack (FreM_up hM u1)) ⟨by decide, by decide, by decide +kernel⟩ m_rBack_in c_law_405 rfl rfl rfl rfl (Nat.le_of_ble_eq_true rfl) d_law_405 ⟨Nat.le_of_ble_eq_true rfl, Nat.le_of_ble_eq_true rfl⟩ ⟨Nat.le_refl _, Nat.le_refl _⟩ (fun v sh' σ2 hq => ?_)
  obtain ⟨rfl, rfl⟩ := hq
  exact fwg_cmp 512 d_law_408 (by decide) (fun _ => law_512 hn (Nat.le_refl _) (Nat.le_refl _)) (fun q => absurd rfl q)
theorem law_disk (hn : Z.2.2.2.2 6001 = 6) (hF : Fre σ) (hM : FreM σ) : fwG l Z m_law 10 57 1436945 (fun v _ _ => v = some (.int 1)) 57 1436945 413 [some (.retAddr 6000), some (.ref 0), some (.ref 37), some (.int 0)] [] (shMd []) σ := by
  refine fwRun_ok k_law_413_ok rfl trivial ?_
  refine fwg_scrGet (law_in hn (k := 1) (by decide) (by decide)) d_law_418 ?_
  refine fwRun_ok k_law_419_ok rfl trivial ?_
  refine fwg_scrGet (law_in hn (k := 2) (by decide) (by decide)) d_law_423 ?_
  refine fwRun_ok k_law_424_ok rfl trivial ?_
  refine fwg_scrGet (law_in hn (k := 3) (by decide) (by decide)) d_law_428 ?_
  refine fwRun_ok k_law_429_ok rfl trivial ?_
  refine fwg_scrGet (law_in hn (k := 4) (by decide) (by decide)) d_law_433 ?_
  refine fwRun_ok k_law_434_ok rfl trivial ?_
  refine fwg_scrGet (law_in hn (k := 5) (by decide) (by decide)) d_law_438 ?_
  refine fwg_callV (n := 5) (i := 0) (as := [.int (fwSc Z ((0 : Int32) + 1).toNatClampNeg), .int (fwSc Z ((0 : Int32) + 2).toNatClampNeg), .int (fwSc Z ((0 : Int32) + 3).toNatClampNeg), .int (fwSc Z ((0 : Int32) + 4).toNatClampNeg), .int (fwSc Z ((0 : Int32) + 5).toNatClampNeg)]) (r := []) (ct_disk hF) ⟨by decide, by decide, by decide +kernel⟩ m_disk_in c_law_439 rfl rfl rfl rfl (Nat.le_of_ble_eq_true rfl) d_law_439 ⟨Nat.le_of_ble_eq_true rfl, Nat.le_of_ble_eq_true rfl⟩ ⟨Nat.le_refl _, Nat.le_refl _⟩ (fun v sh' σ1 hq => ?_)
  obtain ⟨rfl, rfl, u1⟩ := hq
  refine fwRun_ok k_law_442_ok rfl trivial ?_
  refine fwg_scrGet (law_in hn (k := 1) (by decide) (by decide)) d_law_447 ?_
  refine fwRun_ok k_law_448_ok rfl trivial ?_
  refine fwg_scrGet (law_in hn (k := 2) (by decide) (by decide)) d_law_452 ?_
  refine fwRun_ok k_law_453_ok rfl trivial ?_
  refine fwg_scrGet (law_in hn (k := 3) (by decide) (by decide)) d_law_457 ?_
  refine fwRun_ok k_law_458_ok rfl trivial ?_
  refine fwg_scrGet (law_in hn (k := 4) (by decide) (by decide)) d_law_462 ?_
  refine fwRun_ok k_law_463_ok rfl trivial ?_
  refine fwg_scrGet (law_in hn (k := 5) (by decide) (by decide)) d_law_467 ?_
  refine fwg_callV (n := 5) (i := 37) (as := [.int (fwSc Z ((0 : Int32) + 1).toNatClampNeg), .int (fwSc Z ((0 : Int32) + 2).toNatClampNeg), .int (fwSc Z ((0 : Int32) + 3).toNatClampNeg), .int (fwSc Z ((0 : Int32) + 4).toNatClampNeg), .int (fwSc Z ((0 : Int32) + 5).toNatClampNeg)]) (r := [.int (aDisk (fwSc Z ((0 : Int32) + 1).toNatClampNeg) (fwSc Z ((0 : Int32) + 2).toNatClampNeg) (fwSc Z ((0 : Int32) + 3).toNatClampNeg) (fwSc Z ((0 : Int32) + 4).toNatClampNeg) (fwSc Z ((0 : Int32) + 5).toNatClampNeg))]) (ct_rDisk (FreM_up hM u1)) ⟨by decide, by decide, by decide +kernel⟩ m_rDisk_in c_law_468 rfl rfl rfl rfl (Nat.le_of_ble_eq_true rfl) d_law_468 ⟨Nat.le_of_ble_eq_true rfl, Nat.le_of_ble_eq_true rfl⟩ ⟨Nat.le_refl _, Nat.le_refl _⟩ (fun v sh' σ2 hq => ?_)
  obtain ⟨rfl, rfl⟩ := hq
  exact fwg_cmp 512 d_law_471 (by decide) (fun _ => law_512 hn (Nat.le_refl _) (Nat.le_refl _)) (fun q => absurd rfl q)
theorem law_list (hn : Z.2.2.2.2 6001 = 6) (hF : Fre σ) (hM : FreM σ) : fwG l Z m_law 10 57 1436945 (fun v _ _ => v = some (.int 1)) 57 1436945 476 [some (.retAddr 6000), some (.ref 0), some (.ref 37), some (.int 0)] [] (shMd []) σ := by
  refine fwRun_ok k_law_476_ok rfl trivial ?_
  refine fwg_scrGet (law_in hn (k := 1) (by decide) (by decide)) d_law_481 ?_
  refine fwg_callV (n := 1) (i := 0) (as := [.int (fwSc Z ((0 : Int32) + 1).toNatClampNeg)]) (r := []) (ct_list hF) ⟨by decide, by decide, by decide +kernel⟩ m_list_in c_law_482 rfl rfl rfl rfl (Nat.le_of_ble_eq_true rfl) d_law_482 ⟨Nat.le_of_ble_eq_true rfl, Nat.le_of_ble_eq_true rfl⟩ ⟨Nat.le_refl _, Nat.le_refl _⟩ (fun v sh' σ1 hq => ?_)
  obtain ⟨rfl, rfl, u1⟩ := hq
  refine fwRun_ok k_law_485_ok rfl trivial ?_
  refine fwg_scrGet (law_in hn (k := 1) (by decide) (by decide)) d_law_490 ?_
  refine fwg_callV (n := 1) (i := 37) (as := [.int (fwSc Z ((0 : Int32) + 1).toNatClampNeg)]) (r := [.int (aLst (fwSc Z ((0 : Int32) + 1).toNatClampNeg))]) (ct_rList (FreM_up hM u1)) ⟨by decide, by decide, by decide +kernel⟩ m_rList_in c_law_491 rfl rfl rfl rfl (Nat.le_of_ble_eq_true rfl) d_law_491 ⟨Nat.le_of_ble_eq_true rfl, Nat.le_of_ble_eq_true rfl⟩ ⟨Nat.le_refl _, Nat.le_refl _⟩ (fun v sh' σ2 hq => ?_)
  obtain ⟨rfl, rfl⟩ := hq
  exact fwg_cmp 512 d_law_494 (by decide) (fun _ => law_512 hn (Nat.le_refl _) (Nat.le_refl _)) (fun q => absurd rfl q)
theorem law_hex (hn : Z.2.2.2.2 6001 = 6) (hF : Fre σ) (hM : FreM σ) : fwG l Z m_law 10 57 1436945 (fun v _ _ => v = some (.int 1)) 57 1436945 499 [some (.retAddr 6000), some (.ref 0), some (.ref 37), some (.int 0)] [] (shMd []) σ := by
  refine fwRun_ok k_law_499_ok rfl trivial ?_
  refine fwg_callV (n := 0) (i := 0) (as := []) (r := []) (ct_hex hF) ⟨by decide, by decide, by decide +kernel⟩ m_hex_in c_law_500 rfl rfl rfl rfl (Nat.le_of_ble_eq_true rfl) d_law_500 ⟨Nat.le_of_ble_eq_true rfl, Nat.le_of_ble_eq_true rfl⟩ ⟨Nat.le_refl _, Nat.le_refl _⟩ (fun v sh' σ1 hq => ?_)
  obtain ⟨rfl, rfl, u1⟩ := hq
  refine fwRun_ok k_law_503_ok rfl trivial ?_
  refine fwg_callV (n := 0) (i := 37) (as := []) (r := [.int (nI 13)]) (ct_rHex (FreM_up hM u1)) ⟨by decide, by decide, by decide +kernel⟩ m_rHex_in c_law_504 rfl rfl rfl rfl (Nat.le_of_ble_eq_true rfl) d_law_504 ⟨Nat.le_of_ble_eq_true rfl, Nat.le_of_ble_eq_true rfl⟩ ⟨Nat.le_refl _, Nat.le_refl _⟩ (fun v sh' σ2 hq => ?_)
  obtain ⟨rfl, rfl⟩ := hq
  exact fwg_cmp 512 d_law_507 (by decide) (fun _ => law_512 hn (Nat.le_refl _) (Nat.le_refl _)) (fun q => absurd rfl q)
theorem law_18 (hn : Z.2.2.2.2 6001 ≤ 6) (hF : Fre σ) (hM : FreM σ) : fwG l Z m_law 10 57 1436945 (fun v _ _ => v = some (.int 1)) 57 1436945 18 [some (.retAddr 6000), some (.ref 0), some (.ref 37), some (.int 0)] [] (shMd []) σ := by
  refine fwRun_ok k_law_18_ok rfl trivial ?_
  refine fwg_scrLen d_law_20 ?_
  refine fwRun_ok k_law_21_ok rfl trivial ?_
  refine fwg_cmp 518 d_law_24 (by decide) (fun _ => ?_) (fun q => ?_)
  · refine fwRun_ok k_law_518_ok rfl trivial ?_
    exact fwg_zret rfl rfl (Nat.le_refl _) (Nat.le_refl _) rfl d_law_519
  · have h6 : Z.2.2.2.2 6001 = 6 := by
      rcases Nat.lt_or_ge (Z.2.2.2.2 6001) 6 with h | h
      · exact absurd (show nI (Z.2.2.2.2 6001) - nI 6 < 0 from pk_sneg (by decide) h) q
      · omega
    refine fwRun_ok k_law_27_ok rfl trivial ?_
    refine fwg_scrGet (law_in h6 (k := 0) (by decide) (by decide)) d_law_29 ?_
    refine fwRun_ok k_law_30_ok rfl trivial ?_
    obtain ⟨x, hx, ex⟩ := pk_andE (fwSc Z (0 : Int32).toNatClampNeg) (m := 31) 5 (by decide)
    show fwG l Z m_law 10 57 1436945 (fun v _ _ => v = some (.int 1)) 57 1436945 33 [some (.retAddr 6000), some (.ref 0), some (.ref 37), some (.int 0)] [.int (fwSc Z (0 : Int32).toNatClampNeg &&& 31)] (shMd []) σ
    rw [ex]
    by_cases h17 : x < 17
    · have : x = 0 ∨ x = 1 ∨ x = 2 ∨ x = 3 ∨ x = 4 ∨ x = 5 ∨ x = 6 ∨ x = 7 ∨ x = 8 ∨ x = 9 ∨ x = 10 ∨ x = 11 ∨ x = 12 ∨ x = 13 ∨ x = 14 ∨ x = 15 ∨ x = 16 := by omega
      rcases this with rfl | rfl | rfl | rfl | rfl | rfl | rfl | rfl | rfl | rfl | rfl | rfl | rfl | rfl | rfl | rfl | rfl
      · exact fwg_tabIn (off := 83) 116 d_law_33 (by decide) (by decide) (by decide) (by decide) (law_feed h6 hF hM)
      · exact fwg_tabIn (off := 146) 179 d_law_33 (by decide) (by decide) (by decide) (by decide) (law_end h6 hF hM)
      · exact fwg_tabIn (off := 169) 202 d_law_33 (by decide) (by decide) (by decide) (by decide) (law_keys h6 hF hM)
      · exact fwg_tabIn (off := 182) 215 d_law_33 (by decide) (by decide) (by decide) (by decide) (law_boot h6 hF hM)
      · exact fwg_tabIn (off := 193) 226 d_law_33 (by decide) (by decide) (by decide) (by decide) (law_run h6 hF hM)
      · exact fwg_tabIn (off := 216) 249 d_law_33 (by decide) (by decide) (by decide) (by decide) (law_states h6 hF hM)
      · exact fwg_tabIn (off := 230) 263 d_law_33 (by decide) (by decide) (by decide) (by decide) (law_register h6 hF hM)
      · exact fwg_tabIn (off := 253) 286 d_law_33 (by decide) (by decide) (by decide) (by decide) (law_memory h6 hF hM)
      · exact fwg_tabIn (off := 276) 309 d_law_33 (by decide) (by decide) (by decide) (by decide) (law_load h6 hF hM)
      · exact fwg_tabIn (off := 297) 330 d_law_33 (by decide) (by decide) (by decide) (by decide) (law_jump h6 hF hM)
      · exact fwg_tabIn (off := 318) 351 d_law_33 (by decide) (by decide) (by decide) (by decide) (law_console h6 hF hM)
      · exact fwg_tabIn (off := 331) 364 d_law_33 (by decide) (by decide) (by decide) (by decide) (law_out h6 hF hM)
      · exact fwg_tabIn (off := 354) 387 d_law_33 (by decide) (by decide) (by decide) (by decide) (law_assemble h6 hF hM)
      · exact fwg_tabIn (off := 367) 400 d_law_33 (by decide) (by decide) (by decide) (by decide) (law_back h6 hF hM)
      · exact fwg_tabIn (off := 380) 413 d_law_33 (by decide) (by decide) (by decide) (by decide) (law_disk h6 hF hM)
      · exact fwg_tabIn (off := 443) 476 d_law_33 (by decide) (by decide) (by decide) (by decide) (law_list h6 hF hM)
      · exact fwg_tabIn (off := 466) 499 d_law_33 (by decide) (by decide) (by decide) (by decide) (law_hex h6 hF hM)
    · refine fwg_tabOut 512 d_law_33 (Or.inr (by rw [nI_toInt (by omega)]; omega)) (by decide) ?_
      exact law_512 h6 (Nat.le_refl _) (Nat.le_refl _)
theorem law_0 (hn : Z.2.2.2.2 6001 ≤ 6) : fwG l Z m_law 10 57 1436945 (fun v _ _ => v = some (.int 1)) 0 0 0 [some (.retAddr 6000), none, none, none] [] [] σ := by
  refine fwg_new' 0 0 [.inr (0, fwTmpl 0)] rfl c_law_0 d_law_0 (Nat.le_of_ble_eq_true rfl) (Nat.le_of_ble_eq_true rfl) rfl rfl ?_
  refine fwRun_ok k_law_3_ok rfl trivial ?_
  refine fwg_callI (n := 0) (i := 0) (as := []) (r := [.ref 0]) (ct_iMB fwZero_1 fwZero_1) ⟨by decide, by decide, by decide +kernel⟩ rfl rfl m_iMB_in c_law_4 rfl rfl (Nat.le_of_ble_eq_true rfl) d_law_4 ⟨Nat.le_of_ble_eq_true rfl, Nat.le_of_ble_eq_true rfl⟩ ⟨Nat.le_of_ble_eq_true rfl, Nat.le_of_ble_eq_true rfl⟩ (fun v sh' σ1 hq => ?_)
  obtain ⟨rfl, rfl, hF1, -⟩ := hq
  refine fwRun_ok k_law_7_ok rfl trivial ?_
  refine fwg_new' 1 37 (shMB [.inr (1, fwTmpl 1)]) rfl c_law_8 d_law_8 (Nat.le_of_ble_eq_true rfl) (Nat.le_of_ble_eq_true rfl) rfl rfl ?_
  refine fwRun_ok k_law_11_ok rfl trivial ?_
  refine fwg_callI (n := 0) (i := 37) (as := []) (r := [.ref 37]) (ct_rInit (fun b => fwZero_1) fwZero_2) ⟨by decide, by decide, by decide +kernel⟩ rfl rfl m_rInit_in c_law_12 rfl rfl (Nat.le_of_ble_eq_true rfl) d_law_12 ⟨Nat.le_of_ble_eq_true rfl, Nat.le_of_ble_eq_true rfl⟩ ⟨Nat.le_of_ble_eq_true rfl, Nat.le_of_ble_eq_true rfl⟩ (fun v sh' σ2 hq => ?_)
  obtain ⟨rfl, rfl, hM2, s2⟩ := hq
  have hF2 : Fre σ2 := Fre_up hF1 (fun a ha => by
    have h1 := s2 a (by intro q; have := List.mem_of_elem_eq_true (List.elem_eq_true_of_mem q); simp at q; omega)
    exact ⟨h1.1.trans (funext fun b => if_neg (by omega)), h1.2.trans (funext fun b => if_neg (by omega))⟩)
  refine fwRun_ok k_law_15_ok rfl trivial ?_
  exact law_18 hn hF2 hM2
end LAW
