section
variable {X : xX} {kc ks cs sl Ln i nw sp c : Nat} {I : xM} {xs : Nat → Int32}
theorem lc_row (hX : xOK X RL cL_law 4 25 kc ks) (hcs : cs ≤ kc) (hsl : sl ≤ ks) (hs : scr X Ln xs) (hLn : Ln ≤ 384) (hi : i + 5 < Ln) (h : LR I nw sp c) (hc9 : c ≤ 1000) (kk : ∀ K nw' sp', LR K nw' sp' (c + 1) → G X 319 cs sl K (xRL nw' sp') 1162 [(0, .ref 5000000), (1, .ref 0), (2, .ref 307), (3, .int (nI i))] []) : G X 319 cs sl I (xRL nw sp) 176 [(0, .ref 5000000), (1, .ref 0), (2, .ref 307), (3, .int (nI i))] [] := by
  refine g_aload_n hX dL_law_176 rfl 1 rfl ?_
  refine g_aload_n hX dL_law_177 rfl 0 rfl ?_
  refine g_iload_n hX dL_law_178 rfl 3 rfl ?_
  refine g_iconst (v := nI 1) hX dL_law_179 (by decide) ?_
  refine g_iadd (v := nI (i + 1)) hX dL_law_180 (nI_add i 1) ?_
  refine g_xld hX hs hLn (i + 1) rfl (by omega) dL_law_181 ?_
  refine g_aload_n hX dL_law_182 rfl 0 rfl ?_
  refine g_iload_n hX dL_law_183 rfl 3 rfl ?_
  refine g_iconst (v := nI 2) hX dL_law_184 (by decide) ?_
  refine g_iadd (v := nI (i + 2)) hX dL_law_185 (nI_add i 2) ?_
  refine g_xld hX hs hLn (i + 2) rfl (by omega) dL_law_186 ?_
  refine g_aload_n hX dL_law_187 rfl 0 rfl ?_
  refine g_iload_n hX dL_law_188 rfl 3 rfl ?_
  refine g_iconst (v := nI 3) hX dL_law_189 (by decide) ?_
  refine g_iadd (v := nI (i + 3)) hX dL_law_190 (nI_add i 3) ?_
  refine g_xld hX hs hLn (i + 3) rfl (by omega) dL_law_191 ?_
  refine g_p5 (as := [.int (xs (i + 1)), .int (xs (i + 2)), .int (xs (i + 3))]) hX (st_row h) mX5_row vX5_row lL_13 rfl rfl dL_law_192 rfl (Nat.le_of_ble_eq_true rfl) hcs hsl (fun r J nw' sp' lv6 Post6 hl6 h6 hq6 => ?_)
  refine g_aload_n hX dL_law_195 rfl 2 rfl ?_
  refine g_aload_n hX dL_law_196 rfl 0 rfl ?_
  refine g_iload_n hX dL_law_197 rfl 3 rfl ?_
  refine g_iconst (v := nI 1) hX dL_law_198 (by decide) ?_
  refine g_iadd (v := nI (i + 1)) hX dL_law_199 (nI_add i 1) ?_
  refine g_xld hX hs hLn (i + 1) rfl (by omega) dL_law_200 ?_
  refine g_aload_n hX dL_law_201 rfl 0 rfl ?_
  refine g_iload_n hX dL_law_202 rfl 3 rfl ?_
  refine g_iconst (v := nI 2) hX dL_law_203 (by decide) ?_
  refine g_iadd (v := nI (i + 2)) hX dL_law_204 (nI_add i 2) ?_
  refine g_xld hX hs hLn (i + 2) rfl (by omega) dL_law_205 ?_
  refine g_aload_n hX dL_law_206 rfl 0 rfl ?_
  refine g_iload_n hX dL_law_207 rfl 3 rfl ?_
  refine g_iconst (v := nI 3) hX dL_law_208 (by decide) ?_
  refine g_iadd (v := nI (i + 3)) hX dL_law_209 (nI_add i 3) ?_
  refine g_xld hX hs hLn (i + 3) rfl (by omega) dL_law_210 ?_
  refine g_p6 (as := [.int (xs (i + 1)), .int (xs (i + 2)), .int (xs (i + 3))]) hX hl6 h6 hq6 mX6_row vX6_row lL_17 rfl rfl dL_law_211 rfl (Nat.le_of_ble_eq_true rfl) hcs hsl (fun K hK => ?_)
  exact g_ci_eq (a := r.toInt) (b := r.toInt) (tgt := 1162) hX dL_law_214 (by decide) rfl rfl (fun _ => kk K nw' sp' hK) (fun q => absurd rfl q)
theorem lc_set (hX : xOK X RL cL_law 4 25 kc ks) (hcs : cs ≤ kc) (hsl : sl ≤ ks) (hs : scr X Ln xs) (hLn : Ln ≤ 384) (hi : i + 5 < Ln) (h : LR I nw sp c) (hc9 : c ≤ 1000) (kk : ∀ K nw' sp', LR K nw' sp' (c + 1) → G X 319 cs sl K (xRL nw' sp') 1162 [(0, .ref 5000000), (1, .ref 0), (2, .ref 307), (3, .int (nI i))] []) : G X 319 cs sl I (xRL nw sp) 219 [(0, .ref 5000000), (1, .ref 0), (2, .ref 307), (3, .int (nI i))] [] := by
  refine g_aload_n hX dL_law_219 rfl 1 rfl ?_
  refine g_aload_n hX dL_law_220 rfl 0 rfl ?_
  refine g_iload_n hX dL_law_221 rfl 3 rfl ?_
  refine g_iconst (v := nI 1) hX dL_law_222 (by decide) ?_
  refine g_iadd (v := nI (i + 1)) hX dL_law_223 (nI_add i 1) ?_
  refine g_xld hX hs hLn (i + 1) rfl (by omega) dL_law_224 ?_
  refine g_aload_n hX dL_law_225 rfl 0 rfl ?_
  refine g_iload_n hX dL_law_226 rfl 3 rfl ?_
  refine g_iconst (v := nI 2) hX dL_law_227 (by decide) ?_
  refine g_iadd (v := nI (i + 2)) hX dL_law_228 (nI_add i 2) ?_
  refine g_xld hX hs hLn (i + 2) rfl (by omega) dL_law_229 ?_
  refine g_aload_n hX dL_law_230 rfl 0 rfl ?_
  refine g_iload_n hX dL_law_231 rfl 3 rfl ?_
  refine g_iconst (v := nI 3) hX dL_law_232 (by decide) ?_
  refine g_iadd (v := nI (i + 3)) hX dL_law_233 (nI_add i 3) ?_
  refine g_xld hX hs hLn (i + 3) rfl (by omega) dL_law_234 ?_
  refine g_p5 (as := [.int (xs (i + 1)), .int (xs (i + 2)), .int (xs (i + 3))]) hX (st_set h) mX5_set vX5_set lL_18 rfl rfl dL_law_235 rfl (Nat.le_of_ble_eq_true rfl) hcs hsl (fun r J nw' sp' lv6 Post6 hl6 h6 hq6 => ?_)
  refine g_aload_n hX dL_law_238 rfl 2 rfl ?_
  refine g_aload_n hX dL_law_239 rfl 0 rfl ?_
  refine g_iload_n hX dL_law_240 rfl 3 rfl ?_
  refine g_iconst (v := nI 1) hX dL_law_241 (by decide) ?_
  refine g_iadd (v := nI (i + 1)) hX dL_law_242 (nI_add i 1) ?_
  refine g_xld hX hs hLn (i + 1) rfl (by omega) dL_law_243 ?_
  refine g_aload_n hX dL_law_244 rfl 0 rfl ?_
  refine g_iload_n hX dL_law_245 rfl 3 rfl ?_
  refine g_iconst (v := nI 2) hX dL_law_246 (by decide) ?_
  refine g_iadd (v := nI (i + 2)) hX dL_law_247 (nI_add i 2) ?_
  refine g_xld hX hs hLn (i + 2) rfl (by omega) dL_law_248 ?_
  refine g_aload_n hX dL_law_249 rfl 0 rfl ?_
  refine g_iload_n hX dL_law_250 rfl 3 rfl ?_
  refine g_iconst (v := nI 3) hX dL_law_251 (by decide) ?_
  refine g_iadd (v := nI (i + 3)) hX dL_law_252 (nI_add i 3) ?_
  refine g_xld hX hs hLn (i + 3) rfl (by omega) dL_law_253 ?_
  refine g_p6 (as := [.int (xs (i + 1)), .int (xs (i + 2)), .int (xs (i + 3))]) hX hl6 h6 hq6 mX6_set vX6_set lL_21 rfl rfl dL_law_254 rfl (Nat.le_of_ble_eq_true rfl) hcs hsl (fun K hK => ?_)
  exact g_ci_eq (a := r.toInt) (b := r.toInt) (tgt := 1162) hX dL_law_257 (by decide) rfl rfl (fun _ => kk K nw' sp' hK) (fun q => absurd rfl q)
theorem lc_copy (hX : xOK X RL cL_law 4 25 kc ks) (hcs : cs ≤ kc) (hsl : sl ≤ ks) (hs : scr X Ln xs) (hLn : Ln ≤ 384) (hi : i + 5 < Ln) (h : LR I nw sp c) (hc9 : c ≤ 1000) (kk : ∀ K nw' sp', LR K nw' sp' (c + 1) → G X 319 cs sl K (xRL nw' sp') 1162 [(0, .ref 5000000), (1, .ref 0), (2, .ref 307), (3, .int (nI i))] []) : G X 319 cs sl I (xRL nw sp) 262 [(0, .ref 5000000), (1, .ref 0), (2, .ref 307), (3, .int (nI i))] [] := by
  refine g_aload_n hX dL_law_262 rfl 1 rfl ?_
  refine g_aload_n hX dL_law_263 rfl 0 rfl ?_
  refine g_iload_n hX dL_law_264 rfl 3 rfl ?_
  refine g_iconst (v := nI 1) hX dL_law_265 (by decide) ?_
  refine g_iadd (v := nI (i + 1)) hX dL_law_266 (nI_add i 1) ?_
  refine g_xld hX hs hLn (i + 1) rfl (by omega) dL_law_267 ?_
  refine g_aload_n hX dL_law_268 rfl 0 rfl ?_
  refine g_iload_n hX dL_law_269 rfl 3 rfl ?_
  refine g_iconst (v := nI 2) hX dL_law_270 (by decide) ?_
  refine g_iadd (v := nI (i + 2)) hX dL_law_271 (nI_add i 2) ?_
  refine g_xld hX hs hLn (i + 2) rfl (by omega) dL_law_272 ?_
  refine g_aload_n hX dL_law_273 rfl 0 rfl ?_
  refine g_iload_n hX dL_law_274 rfl 3 rfl ?_
  refine g_iconst (v := nI 3) hX dL_law_275 (by decide) ?_
  refine g_iadd (v := nI (i + 3)) hX dL_law_276 (nI_add i 3) ?_
  refine g_xld hX hs hLn (i + 3) rfl (by omega) dL_law_277 ?_
  refine g_aload_n hX dL_law_278 rfl 0 rfl ?_
  refine g_iload_n hX dL_law_279 rfl 3 rfl ?_
  refine g_iconst (v := nI 4) hX dL_law_280 (by decide) ?_
  refine g_iadd (v := nI (i + 4)) hX dL_law_281 (nI_add i 4) ?_
  refine g_xld hX hs hLn (i + 4) rfl (by omega) dL_law_282 ?_
  refine g_aload_n hX dL_law_283 rfl 0 rfl ?_
  refine g_iload_n hX dL_law_284 rfl 3 rfl ?_
  refine g_iconst (v := nI 5) hX dL_law_285 (by decide) ?_
  refine g_iadd (v := nI (i + 5)) hX dL_law_286 (nI_add i 5) ?_
  refine g_xld hX hs hLn (i + 5) rfl (by omega) dL_law_287 ?_
  refine g_p5 (as := [.int (xs (i + 1)), .int (xs (i + 2)), .int (xs (i + 3)), .int (xs (i + 4)), .int (xs (i + 5))]) hX (st_copy h) mX5_copy vX5_copy lL_22 rfl rfl dL_law_288 rfl (Nat.le_of_ble_eq_true rfl) hcs hsl (fun r J nw' sp' lv6 Post6 hl6 h6 hq6 => ?_)
  refine g_aload_n hX dL_law_291 rfl 2 rfl ?_
  refine g_aload_n hX dL_law_292 rfl 0 rfl ?_
  refine g_iload_n hX dL_law_293 rfl 3 rfl ?_
  refine g_iconst (v := nI 1) hX dL_law_294 (by decide) ?_
  refine g_iadd (v := nI (i + 1)) hX dL_law_295 (nI_add i 1) ?_
  refine g_xld hX hs hLn (i + 1) rfl (by omega) dL_law_296 ?_
  refine g_aload_n hX dL_law_297 rfl 0 rfl ?_
  refine g_iload_n hX dL_law_298 rfl 3 rfl ?_
  refine g_iconst (v := nI 2) hX dL_law_299 (by decide) ?_
  refine g_iadd (v := nI (i + 2)) hX dL_law_300 (nI_add i 2) ?_
  refine g_xld hX hs hLn (i + 2) rfl (by omega) dL_law_301 ?_
  refine g_aload_n hX dL_law_302 rfl 0 rfl ?_
  refine g_iload_n hX dL_law_303 rfl 3 rfl ?_
  refine g_iconst (v := nI 3) hX dL_law_304 (by decide) ?_
  refine g_iadd (v := nI (i + 3)) hX dL_law_305 (nI_add i 3) ?_
  refine g_xld hX hs hLn (i + 3) rfl (by omega) dL_law_306 ?_
  refine g_aload_n hX dL_law_307 rfl 0 rfl ?_
  refine g_iload_n hX dL_law_308 rfl 3 rfl ?_
  refine g_iconst (v := nI 4) hX dL_law_309 (by decide) ?_
  refine g_iadd (v := nI (i + 4)) hX dL_law_310 (nI_add i 4) ?_
  refine g_xld hX hs hLn (i + 4) rfl (by omega) dL_law_311 ?_
  refine g_aload_n hX dL_law_312 rfl 0 rfl ?_
  refine g_iload_n hX dL_law_313 rfl 3 rfl ?_
  refine g_iconst (v := nI 5) hX dL_law_314 (by decide) ?_
  refine g_iadd (v := nI (i + 5)) hX dL_law_315 (nI_add i 5) ?_
  refine g_xld hX hs hLn (i + 5) rfl (by omega) dL_law_316 ?_
  refine g_p6 (as := [.int (xs (i + 1)), .int (xs (i + 2)), .int (xs (i + 3)), .int (xs (i + 4)), .int (xs (i + 5))]) hX hl6 h6 hq6 mX6_copy vX6_copy lL_26 rfl rfl dL_law_317 rfl (Nat.le_of_ble_eq_true rfl) hcs hsl (fun K hK => ?_)
  exact g_ci_eq (a := r.toInt) (b := r.toInt) (tgt := 1162) hX dL_law_320 (by decide) rfl rfl (fun _ => kk K nw' sp' hK) (fun q => absurd rfl q)
theorem lc_drop (hX : xOK X RL cL_law 4 25 kc ks) (hcs : cs ≤ kc) (hsl : sl ≤ ks) (hs : scr X Ln xs) (hLn : Ln ≤ 384) (hi : i + 5 < Ln) (h : LR I nw sp c) (hc9 : c ≤ 1000) (kk : ∀ K nw' sp', LR K nw' sp' (c + 1) → G X 319 cs sl K (xRL nw' sp') 1162 [(0, .ref 5000000), (1, .ref 0), (2, .ref 307), (3, .int (nI i))] []) : G X 319 cs sl I (xRL nw sp) 325 [(0, .ref 5000000), (1, .ref 0), (2, .ref 307), (3, .int (nI i))] [] := by
  refine g_aload_n hX dL_law_325 rfl 1 rfl ?_
  refine g_aload_n hX dL_law_326 rfl 0 rfl ?_
  refine g_iload_n hX dL_law_327 rfl 3 rfl ?_
  refine g_iconst (v := nI 1) hX dL_law_328 (by decide) ?_
  refine g_iadd (v := nI (i + 1)) hX dL_law_329 (nI_add i 1) ?_
  refine g_xld hX hs hLn (i + 1) rfl (by omega) dL_law_330 ?_
  refine g_p5 (as := [.int (xs (i + 1))]) hX (st_drop h) mX5_drop vX5_drop lL_27 rfl rfl dL_law_331 rfl (Nat.le_of_ble_eq_true rfl) hcs hsl (fun r J nw' sp' lv6 Post6 hl6 h6 hq6 => ?_)
  refine g_aload_n hX dL_law_334 rfl 2 rfl ?_
  refine g_aload_n hX dL_law_335 rfl 0 rfl ?_
  refine g_iload_n hX dL_law_336 rfl 3 rfl ?_
  refine g_iconst (v := nI 1) hX dL_law_337 (by decide) ?_
  refine g_iadd (v := nI (i + 1)) hX dL_law_338 (nI_add i 1) ?_
  refine g_xld hX hs hLn (i + 1) rfl (by omega) dL_law_339 ?_
  refine g_p6 (as := [.int (xs (i + 1))]) hX hl6 h6 hq6 mX6_drop vX6_drop lL_31 rfl rfl dL_law_340 rfl (Nat.le_of_ble_eq_true rfl) hcs hsl (fun K hK => ?_)
  exact g_ci_eq (a := r.toInt) (b := r.toInt) (tgt := 1162) hX dL_law_343 (by decide) rfl rfl (fun _ => kk K nw' sp' hK) (fun q => absurd rfl q)
theorem lc_feed (hX : xOK X RL cL_law 4 25 kc ks) (hcs : cs ≤ kc) (hsl : sl ≤ ks) (hs : scr X Ln xs) (hLn : Ln ≤ 384) (hi : i + 5 < Ln) (h : LR I nw sp c) (hc9 : c ≤ 1000) (kk : ∀ K nw' sp', LR K nw' sp' (c + 1) → G X 319 cs sl K (xRL nw' sp') 1162 [(0, .ref 5000000), (1, .ref 0), (2, .ref 307), (3, .int (nI i))] []) : G X 319 cs sl I (xRL nw sp) 348 [(0, .ref 5000000), (1, .ref 0), (2, .ref 307), (3, .int (nI i))] [] := by
  refine g_aload_n hX dL_law_348 rfl 1 rfl ?_
  refine g_aload_n hX dL_law_349 rfl 0 rfl ?_
  refine g_iload_n hX dL_law_350 rfl 3 rfl ?_
  refine g_iconst (v := nI 1) hX dL_law_351 (by decide) ?_
  refine g_iadd (v := nI (i + 1)) hX dL_law_352 (nI_add i 1) ?_
  refine g_xld hX hs hLn (i + 1) rfl (by omega) dL_law_353 ?_
  refine g_i2l (v := (xs (i + 1)).toInt64) hX dL_law_354 rfl ?_
  refine g_bipush (v := nI 32) hX dL_law_355 (by decide) ?_
  refine g_lshl (v := ((xs (i + 1)).toInt64 <<< ((nI 32).toInt64 &&& 63))) hX dL_law_357 rfl ?_
  refine g_aload_n hX dL_law_358 rfl 0 rfl ?_
  refine g_iload_n hX dL_law_359 rfl 3 rfl ?_
  refine g_iconst (v := nI 2) hX dL_law_360 (by decide) ?_
  refine g_iadd (v := nI (i + 2)) hX dL_law_361 (nI_add i 2) ?_
  refine g_xld hX hs hLn (i + 2) rfl (by omega) dL_law_362 ?_
  refine g_i2l (v := (xs (i + 2)).toInt64) hX dL_law_363 rfl ?_
  refine g_ldc2 (v := 4294967295) hX cL_32 dL_law_364 ?_
  refine g_land (v := ((xs (i + 2)).toInt64 &&& 4294967295)) hX dL_law_367 rfl ?_
  refine g_lor (v := (((xs (i + 1)).toInt64 <<< ((nI 32).toInt64 &&& 63)) ||| ((xs (i + 2)).toInt64 &&& 4294967295))) hX dL_law_368 rfl ?_
  refine g_aload_n hX dL_law_369 rfl 0 rfl ?_
  refine g_iload_n hX dL_law_370 rfl 3 rfl ?_
  refine g_iconst (v := nI 3) hX dL_law_371 (by decide) ?_
  refine g_iadd (v := nI (i + 3)) hX dL_law_372 (nI_add i 3) ?_
  refine g_xld hX hs hLn (i + 3) rfl (by omega) dL_law_373 ?_
  refine g_p5 (as := [.long (((xs (i + 1)).toInt64 <<< ((nI 32).toInt64 &&& 63)) ||| ((xs (i + 2)).toInt64 &&& 4294967295)), .int (xs (i + 3))]) hX (st_feed h) mX5_feed vX5_feed lL_34 rfl rfl dL_law_374 rfl (Nat.le_of_ble_eq_true rfl) hcs hsl (fun r J nw' sp' lv6 Post6 hl6 h6 hq6 => ?_)
  refine g_aload_n hX dL_law_377 rfl 2 rfl ?_
  refine g_aload_n hX dL_law_378 rfl 0 rfl ?_
  refine g_iload_n hX dL_law_379 rfl 3 rfl ?_
  refine g_iconst (v := nI 1) hX dL_law_380 (by decide) ?_
  refine g_iadd (v := nI (i + 1)) hX dL_law_381 (nI_add i 1) ?_
  refine g_xld hX hs hLn (i + 1) rfl (by omega) dL_law_382 ?_
  refine g_i2l (v := (xs (i + 1)).toInt64) hX dL_law_383 rfl ?_
  refine g_bipush (v := nI 32) hX dL_law_384 (by decide) ?_
  refine g_lshl (v := ((xs (i + 1)).toInt64 <<< ((nI 32).toInt64 &&& 63))) hX dL_law_386 rfl ?_
  refine g_aload_n hX dL_law_387 rfl 0 rfl ?_
  refine g_iload_n hX dL_law_388 rfl 3 rfl ?_
  refine g_iconst (v := nI 2) hX dL_law_389 (by decide) ?_
  refine g_iadd (v := nI (i + 2)) hX dL_law_390 (nI_add i 2) ?_
  refine g_xld hX hs hLn (i + 2) rfl (by omega) dL_law_391 ?_
  refine g_i2l (v := (xs (i + 2)).toInt64) hX dL_law_392 rfl ?_
  refine g_ldc2 (v := 4294967295) hX cL_32 dL_law_393 ?_
  refine g_land (v := ((xs (i + 2)).toInt64 &&& 4294967295)) hX dL_law_396 rfl ?_
  refine g_lor (v := (((xs (i + 1)).toInt64 <<< ((nI 32).toInt64 &&& 63)) ||| ((xs (i + 2)).toInt64 &&& 4294967295))) hX dL_law_397 rfl ?_
  refine g_aload_n hX dL_law_398 rfl 0 rfl ?_
  refine g_iload_n hX dL_law_399 rfl 3 rfl ?_
  refine g_iconst (v := nI 3) hX dL_law_400 (by decide) ?_
  refine g_iadd (v := nI (i + 3)) hX dL_law_401 (nI_add i 3) ?_
  refine g_xld hX hs hLn (i + 3) rfl (by omega) dL_law_402 ?_
  refine g_p6 (as := [.long (((xs (i + 1)).toInt64 <<< ((nI 32).toInt64 &&& 63)) ||| ((xs (i + 2)).toInt64 &&& 4294967295)), .int (xs (i + 3))]) hX hl6 h6 hq6 mX6_feed vX6_feed lL_38 rfl rfl dL_law_403 rfl (Nat.le_of_ble_eq_true rfl) hcs hsl (fun K hK => ?_)
  exact g_ci_eq (a := r.toInt) (b := r.toInt) (tgt := 1162) hX dL_law_406 (by decide) rfl rfl (fun _ => kk K nw' sp' hK) (fun q => absurd rfl q)
theorem lc_garden (hX : xOK X RL cL_law 4 25 kc ks) (hcs : cs ≤ kc) (hsl : sl ≤ ks) (hs : scr X Ln xs) (hLn : Ln ≤ 384) (hi : i + 5 < Ln) (h : LR I nw sp c) (hc9 : c ≤ 1000) (kk : ∀ K nw' sp', LR K nw' sp' (c + 1) → G X 319 cs sl K (xRL nw' sp') 1162 [(0, .ref 5000000), (1, .ref 0), (2, .ref 307), (3, .int (nI i))] []) : G X 319 cs sl I (xRL nw sp) 411 [(0, .ref 5000000), (1, .ref 0), (2, .ref 307), (3, .int (nI i))] [] := by
  refine g_aload_n hX dL_law_411 rfl 1 rfl ?_
  refine g_p5 (as := []) hX (st_garden h) mX5_garden vX5_garden lL_39 rfl rfl dL_law_412 rfl (Nat.le_of_ble_eq_true rfl) hcs hsl (fun r J nw' sp' lv6 Post6 hl6 h6 hq6 => ?_)
  refine g_aload_n hX dL_law_415 rfl 2 rfl ?_
  refine g_p6 (as := []) hX hl6 h6 hq6 mX6_garden vX6_garden lL_43 rfl rfl dL_law_416 rfl (Nat.le_of_ble_eq_true rfl) hcs hsl (fun K hK => ?_)
  exact g_ci_eq (a := r.toInt) (b := r.toInt) (tgt := 1162) hX dL_law_419 (by decide) rfl rfl (fun _ => kk K nw' sp' hK) (fun q => absurd rfl q)
theorem lc_fault (hX : xOK X RL cL_law 4 25 kc ks) (hcs : cs ≤ kc) (hsl : sl ≤ ks) (hs : scr X Ln xs) (hLn : Ln ≤ 384) (hi : i + 5 < Ln) (h : LR I nw sp c) (hc9 : c ≤ 1000) (kk : ∀ K nw' sp', LR K nw' sp' (c + 1) → G X 319 cs sl K (xRL nw' sp') 1162 [(0, .ref 5000000), (1, .ref 0), (2, .ref 307), (3, .int (nI i))] []) : G X 319 cs sl I (xRL nw sp) 424 [(0, .ref 5000000), (1, .ref 0), (2, .ref 307), (3, .int (nI i))] [] := by
  refine g_aload_n hX dL_law_424 rfl 1 rfl ?_
  refine g_p5 (as := []) hX (st_fault h) mX5_fault vX5_fault lL_44 rfl rfl dL_law_425 rfl (Nat.le_of_ble_eq_true rfl) hcs hsl (fun r J nw' sp' lv6 Post6 hl6 h6 hq6 => ?_)
  refine g_aload_n hX dL_law_428 rfl 2 rfl ?_
  refine g_p6 (as := []) hX hl6 h6 hq6 mX6_fault vX6_fault lL_47 rfl rfl dL_law_429 rfl (Nat.le_of_ble_eq_true rfl) hcs hsl (fun K hK => ?_)
  exact g_ci_eq (a := r.toInt) (b := r.toInt) (tgt := 1162) hX dL_law_432 (by decide) rfl rfl (fun _ => kk K nw' sp' hK) (fun q => absurd rfl q)
theorem lc_years (hX : xOK X RL cL_law 4 25 kc ks) (hcs : cs ≤ kc) (hsl : sl ≤ ks) (hs : scr X Ln xs) (hLn : Ln ≤ 384) (hi : i + 5 < Ln) (h : LR I nw sp c) (hc9 : c ≤ 1000) (kk : ∀ K nw' sp', LR K nw' sp' (c + 1) → G X 319 cs sl K (xRL nw' sp') 1162 [(0, .ref 5000000), (1, .ref 0), (2, .ref 307), (3, .int (nI i))] []) : G X 319 cs sl I (xRL nw sp) 437 [(0, .ref 5000000), (1, .ref 0), (2, .ref 307), (3, .int (nI i))] [] := by
  refine g_aload_n hX dL_law_437 rfl 1 rfl ?_
  refine g_aload_n hX dL_law_438 rfl 0 rfl ?_
  refine g_iload_n hX dL_law_439 rfl 3 rfl ?_
  refine g_iconst (v := nI 1) hX dL_law_440 (by decide) ?_
  refine g_iadd (v := nI (i + 1)) hX dL_law_441 (nI_add i 1) ?_
  refine g_xld hX hs hLn (i + 1) rfl (by omega) dL_law_442 ?_
  refine g_p5 (as := [.int (xs (i + 1))]) hX (st_years h) mX5_years vX5_years lL_48 rfl rfl dL_law_443 rfl (Nat.le_of_ble_eq_true rfl) hcs hsl (fun r J nw' sp' lv6 Post6 hl6 h6 hq6 => ?_)
  refine g_aload_n hX dL_law_446 rfl 2 rfl ?_
  refine g_aload_n hX dL_law_447 rfl 0 rfl ?_
  refine g_iload_n hX dL_law_448 rfl 3 rfl ?_
  refine g_iconst (v := nI 1) hX dL_law_449 (by decide) ?_
  refine g_iadd (v := nI (i + 1)) hX dL_law_450 (nI_add i 1) ?_
  refine g_xld hX hs hLn (i + 1) rfl (by omega) dL_law_451 ?_
  refine g_p6 (as := [.int (xs (i + 1))]) hX hl6 h6 hq6 mX6_years vX6_years lL_51 rfl rfl dL_law_452 rfl (Nat.le_of_ble_eq_true rfl) hcs hsl (fun K hK => ?_)
  exact g_ci_eq (a := r.toInt) (b := r.toInt) (tgt := 1162) hX dL_law_455 (by decide) rfl rfl (fun _ => kk K nw' sp' hK) (fun q => absurd rfl q)
theorem lc_winter (hX : xOK X RL cL_law 4 25 kc ks) (hcs : cs ≤ kc) (hsl : sl ≤ ks) (hs : scr X Ln xs) (hLn : Ln ≤ 384) (hi : i + 5 < Ln) (h : LR I nw sp c) (hc9 : c ≤ 1000) (kk : ∀ K nw' sp', LR K nw' sp' (c + 1) → G X 319 cs sl K (xRL nw' sp') 1162 [(0, .ref 5000000), (1, .ref 0), (2, .ref 307), (3, .int (nI i))] []) : G X 319 cs sl I (xRL nw sp) 460 [(0, .ref 5000000), (1, .ref 0), (2, .ref 307), (3, .int (nI i))] [] := by
  refine g_aload_n hX dL_law_460 rfl 1 rfl ?_
  refine g_aload_n hX dL_law_461 rfl 0 rfl ?_
  refine g_iload_n hX dL_law_462 rfl 3 rfl ?_
  refine g_iconst (v := nI 1) hX dL_law_463 (by decide) ?_
  refine g_iadd (v := nI (i + 1)) hX dL_law_464 (nI_add i 1) ?_
  refine g_xld hX hs hLn (i + 1) rfl (by omega) dL_law_465 ?_
  refine g_p5 (as := [.int (xs (i + 1))]) hX (st_winter h) mX5_winter vX5_winter lL_52 rfl rfl dL_law_466 rfl (Nat.le_of_ble_eq_true rfl) hcs hsl (fun r J nw' sp' lv6 Post6 hl6 h6 hq6 => ?_)
  refine g_aload_n hX dL_law_469 rfl 2 rfl ?_
  refine g_aload_n hX dL_law_470 rfl 0 rfl ?_
  refine g_iload_n hX dL_law_471 rfl 3 rfl ?_
  refine g_iconst (v := nI 1) hX dL_law_472 (by decide) ?_
  refine g_iadd (v := nI (i + 1)) hX dL_law_473 (nI_add i 1) ?_
  refine g_xld hX hs hLn (i + 1) rfl (by omega) dL_law_474 ?_
  refine g_p6 (as := [.int (xs (i + 1))]) hX hl6 h6 hq6 mX6_winter vX6_winter lL_55 rfl rfl dL_law_475 rfl (Nat.le_of_ble_eq_true rfl) hcs hsl (fun K hK => ?_)
  exact g_ci_eq (a := r.toInt) (b := r.toInt) (tgt := 1162) hX dL_law_478 (by decide) rfl rfl (fun _ => kk K nw' sp' hK) (fun q => absurd rfl q)
theorem lc_clip (hX : xOK X RL cL_law 4 25 kc ks) (hcs : cs ≤ kc) (hsl : sl ≤ ks) (hs : scr X Ln xs) (hLn : Ln ≤ 384) (hi : i + 5 < Ln) (h : LR I nw sp c) (hc9 : c ≤ 1000) (kk : ∀ K nw' sp', LR K nw' sp' (c + 1) → G X 319 cs sl K (xRL nw' sp') 1162 [(0, .ref 5000000), (1, .ref 0), (2, .ref 307), (3, .int (nI i))] []) : G X 319 cs sl I (xRL nw sp) 483 [(0, .ref 5000000), (1, .ref 0), (2, .ref 307), (3, .int (nI i))] [] := by
  refine g_aload_n hX dL_law_483 rfl 1 rfl ?_
  refine g_aload_n hX dL_law_484 rfl 0 rfl ?_
  refine g_iload_n hX dL_law_485 rfl 3 rfl ?_
  refine g_iconst (v := nI 1) hX dL_law_486 (by decide) ?_
  refine g_iadd (v := nI (i + 1)) hX dL_law_487 (nI_add i 1) ?_
  refine g_xld hX hs hLn (i + 1) rfl (by omega) dL_law_488 ?_
  refine g_aload_n hX dL_law_489 rfl 0 rfl ?_
  refine g_iload_n hX dL_law_490 rfl 3 rfl ?_
  refine g_iconst (v := nI 2) hX dL_law_491 (by decide) ?_
  refine g_iadd (v := nI (i + 2)) hX dL_law_492 (nI_add i 2) ?_
  refine g_xld hX hs hLn (i + 2) rfl (by omega) dL_law_493 ?_
  refine g_p5 (as := [.int (xs (i + 1)), .int (xs (i + 2))]) hX (st_clip h hc9) mX5_clip vX5_clip lL_56 rfl rfl dL_law_494 rfl (Nat.le_of_ble_eq_true rfl) hcs hsl (fun r J nw' sp' lv6 Post6 hl6 h6 hq6 => ?_)
  refine g_aload_n hX dL_law_497 rfl 2 rfl ?_
  refine g_aload_n hX dL_law_498 rfl 0 rfl ?_
  refine g_iload_n hX dL_law_499 rfl 3 rfl ?_
  refine g_iconst (v := nI 1) hX dL_law_500 (by decide) ?_
  refine g_iadd (v := nI (i + 1)) hX dL_law_501 (nI_add i 1) ?_
  refine g_xld hX hs hLn (i + 1) rfl (by omega) dL_law_502 ?_
  refine g_aload_n hX dL_law_503 rfl 0 rfl ?_
  refine g_iload_n hX dL_law_504 rfl 3 rfl ?_
  refine g_iconst (v := nI 2) hX dL_law_505 (by decide) ?_
  refine g_iadd (v := nI (i + 2)) hX dL_law_506 (nI_add i 2) ?_
  refine g_xld hX hs hLn (i + 2) rfl (by omega) dL_law_507 ?_
  refine g_p6 (as := [.int (xs (i + 1)), .int (xs (i + 2))]) hX hl6 h6 hq6 mX6_clip vX6_clip lL_60 rfl rfl dL_law_508 rfl (Nat.le_of_ble_eq_true rfl) hcs hsl (fun K hK => ?_)
  exact g_ci_eq (a := r.toInt) (b := r.toInt) (tgt := 1162) hX dL_law_511 (by decide) rfl rfl (fun _ => kk K nw' sp' hK) (fun q => absurd rfl q)
theorem lc_move (hX : xOK X RL cL_law 4 25 kc ks) (hcs : cs ≤ kc) (hsl : sl ≤ ks) (hs : scr X Ln xs) (hLn : Ln ≤ 384) (hi : i + 5 < Ln) (h : LR I nw sp c) (hc9 : c ≤ 1000) (kk : ∀ K nw' sp', LR K nw' sp' (c + 1) → G X 319 cs sl K (xRL nw' sp') 1162 [(0, .ref 5000000), (1, .ref 0), (2, .ref 307), (3, .int (nI i))] []) : G X 319 cs sl I (xRL nw sp) 516 [(0, .ref 5000000), (1, .ref 0), (2, .ref 307), (3, .int (nI i))] [] := by
  refine g_aload_n hX dL_law_516 rfl 1 rfl ?_
  refine g_aload_n hX dL_law_517 rfl 0 rfl ?_
  refine g_iload_n hX dL_law_518 rfl 3 rfl ?_
  refine g_iconst (v := nI 1) hX dL_law_519 (by decide) ?_
  refine g_iadd (v := nI (i + 1)) hX dL_law_520 (nI_add i 1) ?_
  refine g_xld hX hs hLn (i + 1) rfl (by omega) dL_law_521 ?_
  refine g_aload_n hX dL_law_522 rfl 0 rfl ?_
  refine g_iload_n hX dL_law_523 rfl 3 rfl ?_
  refine g_iconst (v := nI 2) hX dL_law_524 (by decide) ?_
  refine g_iadd (v := nI (i + 2)) hX dL_law_525 (nI_add i 2) ?_
  refine g_xld hX hs hLn (i + 2) rfl (by omega) dL_law_526 ?_
  refine g_p5 (as := [.int (xs (i + 1)), .int (xs (i + 2))]) hX (st_move h) mX5_move vX5_move lL_61 rfl rfl dL_law_527 rfl (Nat.le_of_ble_eq_true rfl) hcs hsl (fun r J nw' sp' lv6 Post6 hl6 h6 hq6 => ?_)
  refine g_aload_n hX dL_law_530 rfl 2 rfl ?_
  refine g_aload_n hX dL_law_531 rfl 0 rfl ?_
  refine g_iload_n hX dL_law_532 rfl 3 rfl ?_
  refine g_iconst (v := nI 1) hX dL_law_533 (by decide) ?_
  refine g_iadd (v := nI (i + 1)) hX dL_law_534 (nI_add i 1) ?_
  refine g_xld hX hs hLn (i + 1) rfl (by omega) dL_law_535 ?_
  refine g_aload_n hX dL_law_536 rfl 0 rfl ?_
  refine g_iload_n hX dL_law_537 rfl 3 rfl ?_
  refine g_iconst (v := nI 2) hX dL_law_538 (by decide) ?_
  refine g_iadd (v := nI (i + 2)) hX dL_law_539 (nI_add i 2) ?_
  refine g_xld hX hs hLn (i + 2) rfl (by omega) dL_law_540 ?_
  refine g_p6 (as := [.int (xs (i + 1)), .int (xs (i + 2))]) hX hl6 h6 hq6 mX6_move vX6_move lL_64 rfl rfl dL_law_541 rfl (Nat.le_of_ble_eq_true rfl) hcs hsl (fun K hK => ?_)
  exact g_ci_eq (a := r.toInt) (b := r.toInt) (tgt := 1162) hX dL_law_544 (by decide) rfl rfl (fun _ => kk K nw' sp' hK) (fun q => absurd rfl q)
theorem lc_level (hX : xOK X RL cL_law 4 25 kc ks) (hcs : cs ≤ kc) (hsl : sl ≤ ks) (hs : scr X Ln xs) (hLn : Ln ≤ 384) (hi : i + 5 < Ln) (h : LR I nw sp c) (hc9 : c ≤ 1000) (kk : ∀ K nw' sp', LR K nw' sp' (c + 1) → G X 319 cs sl K (xRL nw' sp') 1162 [(0, .ref 5000000), (1, .ref 0), (2, .ref 307), (3, .int (nI i))] []) : G X 319 cs sl I (xRL nw sp) 549 [(0, .ref 5000000), (1, .ref 0), (2, .ref 307), (3, .int (nI i))] [] := by
  refine g_aload_n hX dL_law_549 rfl 1 rfl ?_
  refine g_aload_n hX dL_law_550 rfl 0 rfl ?_
  refine g_iload_n hX dL_law_551 rfl 3 rfl ?_
  refine g_iconst (v := nI 1) hX dL_law_552 (by decide) ?_
  refine g_iadd (v := nI (i + 1)) hX dL_law_553 (nI_add i 1) ?_
  refine g_xld hX hs hLn (i + 1) rfl (by omega) dL_law_554 ?_
  refine g_aload_n hX dL_law_555 rfl 0 rfl ?_
  refine g_iload_n hX dL_law_556 rfl 3 rfl ?_
  refine g_iconst (v := nI 2) hX dL_law_557 (by decide) ?_
  refine g_iadd (v := nI (i + 2)) hX dL_law_558 (nI_add i 2) ?_
  refine g_xld hX hs hLn (i + 2) rfl (by omega) dL_law_559 ?_
  refine g_p5 (as := [.int (xs (i + 1)), .int (xs (i + 2))]) hX (st_level h) mX5_level vX5_level lL_65 rfl rfl dL_law_560 rfl (Nat.le_of_ble_eq_true rfl) hcs hsl (fun r J nw' sp' lv6 Post6 hl6 h6 hq6 => ?_)
  refine g_aload_n hX dL_law_563 rfl 2 rfl ?_
  refine g_aload_n hX dL_law_564 rfl 0 rfl ?_
  refine g_iload_n hX dL_law_565 rfl 3 rfl ?_
  refine g_iconst (v := nI 1) hX dL_law_566 (by decide) ?_
  refine g_iadd (v := nI (i + 1)) hX dL_law_567 (nI_add i 1) ?_
  refine g_xld hX hs hLn (i + 1) rfl (by omega) dL_law_568 ?_
  refine g_aload_n hX dL_law_569 rfl 0 rfl ?_
  refine g_iload_n hX dL_law_570 rfl 3 rfl ?_
  refine g_iconst (v := nI 2) hX dL_law_571 (by decide) ?_
  refine g_iadd (v := nI (i + 2)) hX dL_law_572 (nI_add i 2) ?_
  refine g_xld hX hs hLn (i + 2) rfl (by omega) dL_law_573 ?_
  refine g_p6 (as := [.int (xs (i + 1)), .int (xs (i + 2))]) hX hl6 h6 hq6 mX6_level vX6_level lL_68 rfl rfl dL_law_574 rfl (Nat.le_of_ble_eq_true rfl) hcs hsl (fun K hK => ?_)
  exact g_ci_eq (a := r.toInt) (b := r.toInt) (tgt := 1162) hX dL_law_577 (by decide) rfl rfl (fun _ => kk K nw' sp' hK) (fun q => absurd rfl q)
theorem lc_undo (hX : xOK X RL cL_law 4 25 kc ks) (hcs : cs ≤ kc) (hsl : sl ≤ ks) (hs : scr X Ln xs) (hLn : Ln ≤ 384) (hi : i + 5 < Ln) (h : LR I nw sp c) (hc9 : c ≤ 1000) (kk : ∀ K nw' sp', LR K nw' sp' (c + 1) → G X 319 cs sl K (xRL nw' sp') 1162 [(0, .ref 5000000), (1, .ref 0), (2, .ref 307), (3, .int (nI i))] []) : G X 319 cs sl I (xRL nw sp) 582 [(0, .ref 5000000), (1, .ref 0), (2, .ref 307), (3, .int (nI i))] [] := by
  refine g_aload_n hX dL_law_582 rfl 1 rfl ?_
  refine g_p5 (as := []) hX (st_undo h) mX5_undo vX5_undo lL_69 rfl rfl dL_law_583 rfl (Nat.le_of_ble_eq_true rfl) hcs hsl (fun r J nw' sp' lv6 Post6 hl6 h6 hq6 => ?_)
  refine g_aload_n hX dL_law_586 rfl 2 rfl ?_
  refine g_p6 (as := []) hX hl6 h6 hq6 mX6_undo vX6_undo lL_72 rfl rfl dL_law_587 rfl (Nat.le_of_ble_eq_true rfl) hcs hsl (fun K hK => ?_)
  exact g_ci_eq (a := r.toInt) (b := r.toInt) (tgt := 1162) hX dL_law_590 (by decide) rfl rfl (fun _ => kk K nw' sp' hK) (fun q => absurd rfl q)
theorem lc_tree (hX : xOK X RL cL_law 4 25 kc ks) (hcs : cs ≤ kc) (hsl : sl ≤ ks) (hs : scr X Ln xs) (hLn : Ln ≤ 384) (hi : i + 5 < Ln) (h : LR I nw sp c) (hc9 : c ≤ 1000) (kk : ∀ K nw' sp', LR K nw' sp' (c + 1) → G X 319 cs sl K (xRL nw' sp') 1162 [(0, .ref 5000000), (1, .ref 0), (2, .ref 307), (3, .int (nI i))] []) : G X 319 cs sl I (xRL nw sp) 595 [(0, .ref 5000000), (1, .ref 0), (2, .ref 307), (3, .int (nI i))] [] := by
  refine g_aload_n hX dL_law_595 rfl 1 rfl ?_
  refine g_aload_n hX dL_law_596 rfl 0 rfl ?_
  refine g_iload_n hX dL_law_597 rfl 3 rfl ?_
  refine g_iconst (v := nI 1) hX dL_law_598 (by decide) ?_
  refine g_iadd (v := nI (i + 1)) hX dL_law_599 (nI_add i 1) ?_
  refine g_xld hX hs hLn (i + 1) rfl (by omega) dL_law_600 ?_
  refine g_aload_n hX dL_law_601 rfl 0 rfl ?_
  refine g_iload_n hX dL_law_602 rfl 3 rfl ?_
  refine g_iconst (v := nI 2) hX dL_law_603 (by decide) ?_
  refine g_iadd (v := nI (i + 2)) hX dL_law_604 (nI_add i 2) ?_
  refine g_xld hX hs hLn (i + 2) rfl (by omega) dL_law_605 ?_
  refine g_p5 (as := [.int (xs (i + 1)), .int (xs (i + 2))]) hX (st_tree h) mX5_tree vX5_tree lL_73 rfl rfl dL_law_606 rfl (Nat.le_of_ble_eq_true rfl) hcs hsl (fun r J nw' sp' lv6 Post6 hl6 h6 hq6 => ?_)
  refine g_aload_n hX dL_law_609 rfl 2 rfl ?_
  refine g_aload_n hX dL_law_610 rfl 0 rfl ?_
  refine g_iload_n hX dL_law_611 rfl 3 rfl ?_
  refine g_iconst (v := nI 1) hX dL_law_612 (by decide) ?_
  refine g_iadd (v := nI (i + 1)) hX dL_law_613 (nI_add i 1) ?_
  refine g_xld hX hs hLn (i + 1) rfl (by omega) dL_law_614 ?_
  refine g_aload_n hX dL_law_615 rfl 0 rfl ?_
  refine g_iload_n hX dL_law_616 rfl 3 rfl ?_
  refine g_iconst (v := nI 2) hX dL_law_617 (by decide) ?_
  refine g_iadd (v := nI (i + 2)) hX dL_law_618 (nI_add i 2) ?_
  refine g_xld hX hs hLn (i + 2) rfl (by omega) dL_law_619 ?_
  refine g_p6 (as := [.int (xs (i + 1)), .int (xs (i + 2))]) hX hl6 h6 hq6 mX6_tree vX6_tree lL_76 rfl rfl dL_law_620 rfl (Nat.le_of_ble_eq_true rfl) hcs hsl (fun K hK => ?_)
  exact g_ci_eq (a := r.toInt) (b := r.toInt) (tgt := 1162) hX dL_law_623 (by decide) rfl rfl (fun _ => kk K nw' sp' hK) (fun q => absurd rfl q)
theorem lc_site (hX : xOK X RL cL_law 4 25 kc ks) (hcs : cs ≤ kc) (hsl : sl ≤ ks) (hs : scr X Ln xs) (hLn : Ln ≤ 384) (hi : i + 5 < Ln) (h : LR I nw sp c) (hc9 : c ≤ 1000) (kk : ∀ K nw' sp', LR K nw' sp' (c + 1) → G X 319 cs sl K (xRL nw' sp') 1162 [(0, .ref 5000000), (1, .ref 0), (2, .ref 307), (3, .int (nI i))] []) : G X 319 cs sl I (xRL nw sp) 628 [(0, .ref 5000000), (1, .ref 0), (2, .ref 307), (3, .int (nI i))] [] := by
  refine g_aload_n hX dL_law_628 rfl 1 rfl ?_
  refine g_aload_n hX dL_law_629 rfl 0 rfl ?_
  refine g_iload_n hX dL_law_630 rfl 3 rfl ?_
  refine g_iconst (v := nI 1) hX dL_law_631 (by decide) ?_
  refine g_iadd (v := nI (i + 1)) hX dL_law_632 (nI_add i 1) ?_
  refine g_xld hX hs hLn (i + 1) rfl (by omega) dL_law_633 ?_
  refine g_aload_n hX dL_law_634 rfl 0 rfl ?_
  refine g_iload_n hX dL_law_635 rfl 3 rfl ?_
  refine g_iconst (v := nI 2) hX dL_law_636 (by decide) ?_
  refine g_iadd (v := nI (i + 2)) hX dL_law_637 (nI_add i 2) ?_
  refine g_xld hX hs hLn (i + 2) rfl (by omega) dL_law_638 ?_
  refine g_p5 (as := [.int (xs (i + 1)), .int (xs (i + 2))]) hX (st_site h) mX5_site vX5_site lL_77 rfl rfl dL_law_639 rfl (Nat.le_of_ble_eq_true rfl) hcs hsl (fun r J nw' sp' lv6 Post6 hl6 h6 hq6 => ?_)
  refine g_aload_n hX dL_law_642 rfl 2 rfl ?_
  refine g_aload_n hX dL_law_643 rfl 0 rfl ?_
  refine g_iload_n hX dL_law_644 rfl 3 rfl ?_
  refine g_iconst (v := nI 1) hX dL_law_645 (by decide) ?_
  refine g_iadd (v := nI (i + 1)) hX dL_law_646 (nI_add i 1) ?_
  refine g_xld hX hs hLn (i + 1) rfl (by omega) dL_law_647 ?_
  refine g_aload_n hX dL_law_648 rfl 0 rfl ?_
  refine g_iload_n hX dL_law_649 rfl 3 rfl ?_
  refine g_iconst (v := nI 2) hX dL_law_650 (by decide) ?_
  refine g_iadd (v := nI (i + 2)) hX dL_law_651 (nI_add i 2) ?_
  refine g_xld hX hs hLn (i + 2) rfl (by omega) dL_law_652 ?_
  refine g_p6 (as := [.int (xs (i + 1)), .int (xs (i + 2))]) hX hl6 h6 hq6 mX6_site vX6_site lL_80 rfl rfl dL_law_653 rfl (Nat.le_of_ble_eq_true rfl) hcs hsl (fun K hK => ?_)
  exact g_ci_eq (a := r.toInt) (b := r.toInt) (tgt := 1162) hX dL_law_656 (by decide) rfl rfl (fun _ => kk K nw' sp' hK) (fun q => absurd rfl q)
theorem lc_seen (hX : xOK X RL cL_law 4 25 kc ks) (hcs : cs ≤ kc) (hsl : sl ≤ ks) (hs : scr X Ln xs) (hLn : Ln ≤ 384) (hi : i + 5 < Ln) (h : LR I nw sp c) (hc9 : c ≤ 1000) (kk : ∀ K nw' sp', LR K nw' sp' (c + 1) → G X 319 cs sl K (xRL nw' sp') 1162 [(0, .ref 5000000), (1, .ref 0), (2, .ref 307), (3, .int (nI i))] []) : G X 319 cs sl I (xRL nw sp) 661 [(0, .ref 5000000), (1, .ref 0), (2, .ref 307), (3, .int (nI i))] [] := by
  refine g_aload_n hX dL_law_661 rfl 1 rfl ?_
  refine g_aload_n hX dL_law_662 rfl 0 rfl ?_
  refine g_iload_n hX dL_law_663 rfl 3 rfl ?_
  refine g_iconst (v := nI 1) hX dL_law_664 (by decide) ?_
  refine g_iadd (v := nI (i + 1)) hX dL_law_665 (nI_add i 1) ?_
  refine g_xld hX hs hLn (i + 1) rfl (by omega) dL_law_666 ?_
  refine g_aload_n hX dL_law_667 rfl 0 rfl ?_
  refine g_iload_n hX dL_law_668 rfl 3 rfl ?_
  refine g_iconst (v := nI 2) hX dL_law_669 (by decide) ?_
  refine g_iadd (v := nI (i + 2)) hX dL_law_670 (nI_add i 2) ?_
  refine g_xld hX hs hLn (i + 2) rfl (by omega) dL_law_671 ?_
  refine g_p5 (as := [.int (xs (i + 1)), .int (xs (i + 2))]) hX (st_seen h) mX5_seen vX5_seen lL_81 rfl rfl dL_law_672 rfl (Nat.le_of_ble_eq_true rfl) hcs hsl (fun r J nw' sp' lv6 Post6 hl6 h6 hq6 => ?_)
  refine g_aload_n hX dL_law_675 rfl 2 rfl ?_
  refine g_aload_n hX dL_law_676 rfl 0 rfl ?_
  refine g_iload_n hX dL_law_677 rfl 3 rfl ?_
  refine g_iconst (v := nI 1) hX dL_law_678 (by decide) ?_
  refine g_iadd (v := nI (i + 1)) hX dL_law_679 (nI_add i 1) ?_
  refine g_xld hX hs hLn (i + 1) rfl (by omega) dL_law_680 ?_
  refine g_aload_n hX dL_law_681 rfl 0 rfl ?_
  refine g_iload_n hX dL_law_682 rfl 3 rfl ?_
  refine g_iconst (v := nI 2) hX dL_law_683 (by decide) ?_
  refine g_iadd (v := nI (i + 2)) hX dL_law_684 (nI_add i 2) ?_
  refine g_xld hX hs hLn (i + 2) rfl (by omega) dL_law_685 ?_
  refine g_p6 (as := [.int (xs (i + 1)), .int (xs (i + 2))]) hX hl6 h6 hq6 mX6_seen vX6_seen lL_84 rfl rfl dL_law_686 rfl (Nat.le_of_ble_eq_true rfl) hcs hsl (fun K hK => ?_)
  exact g_ci_eq (a := r.toInt) (b := r.toInt) (tgt := 1162) hX dL_law_689 (by decide) rfl rfl (fun _ => kk K nw' sp' hK) (fun q => absurd rfl q)
theorem lc_doubled (hX : xOK X RL cL_law 4 25 kc ks) (hcs : cs ≤ kc) (hsl : sl ≤ ks) (hs : scr X Ln xs) (hLn : Ln ≤ 384) (hi : i + 5 < Ln) (h : LR I nw sp c) (hc9 : c ≤ 1000) (kk : ∀ K nw' sp', LR K nw' sp' (c + 1) → G X 319 cs sl K (xRL nw' sp') 1162 [(0, .ref 5000000), (1, .ref 0), (2, .ref 307), (3, .int (nI i))] []) : G X 319 cs sl I (xRL nw sp) 694 [(0, .ref 5000000), (1, .ref 0), (2, .ref 307), (3, .int (nI i))] [] := by
  refine g_aload_n hX dL_law_694 rfl 1 rfl ?_
  refine g_aload_n hX dL_law_695 rfl 0 rfl ?_
  refine g_iload_n hX dL_law_696 rfl 3 rfl ?_
  refine g_iconst (v := nI 1) hX dL_law_697 (by decide) ?_
  refine g_iadd (v := nI (i + 1)) hX dL_law_698 (nI_add i 1) ?_
  refine g_xld hX hs hLn (i + 1) rfl (by omega) dL_law_699 ?_
  refine g_p5 (as := [.int (xs (i + 1))]) hX (st_doubled h) mX5_doubled vX5_doubled lL_85 rfl rfl dL_law_700 rfl (Nat.le_of_ble_eq_true rfl) hcs hsl (fun r J nw' sp' lv6 Post6 hl6 h6 hq6 => ?_)
  refine g_aload_n hX dL_law_703 rfl 2 rfl ?_
  refine g_aload_n hX dL_law_704 rfl 0 rfl ?_
  refine g_iload_n hX dL_law_705 rfl 3 rfl ?_
  refine g_iconst (v := nI 1) hX dL_law_706 (by decide) ?_
  refine g_iadd (v := nI (i + 1)) hX dL_law_707 (nI_add i 1) ?_
  refine g_xld hX hs hLn (i + 1) rfl (by omega) dL_law_708 ?_
  refine g_p6 (as := [.int (xs (i + 1))]) hX hl6 h6 hq6 mX6_doubled vX6_doubled lL_88 rfl rfl dL_law_709 rfl (Nat.le_of_ble_eq_true rfl) hcs hsl (fun K hK => ?_)
  exact g_ci_eq (a := r.toInt) (b := r.toInt) (tgt := 1162) hX dL_law_712 (by decide) rfl rfl (fun _ => kk K nw' sp' hK) (fun q => absurd rfl q)
theorem lc_met (hX : xOK X RL cL_law 4 25 kc ks) (hcs : cs ≤ kc) (hsl : sl ≤ ks) (hs : scr X Ln xs) (hLn : Ln ≤ 384) (hi : i + 5 < Ln) (h : LR I nw sp c) (hc9 : c ≤ 1000) (kk : ∀ K nw' sp', LR K nw' sp' (c + 1) → G X 319 cs sl K (xRL nw' sp') 1162 [(0, .ref 5000000), (1, .ref 0), (2, .ref 307), (3, .int (nI i))] []) : G X 319 cs sl I (xRL nw sp) 717 [(0, .ref 5000000), (1, .ref 0), (2, .ref 307), (3, .int (nI i))] [] := by
  refine g_aload_n hX dL_law_717 rfl 1 rfl ?_
  refine g_aload_n hX dL_law_718 rfl 0 rfl ?_
  refine g_iload_n hX dL_law_719 rfl 3 rfl ?_
  refine g_iconst (v := nI 1) hX dL_law_720 (by decide) ?_
  refine g_iadd (v := nI (i + 1)) hX dL_law_721 (nI_add i 1) ?_
  refine g_xld hX hs hLn (i + 1) rfl (by omega) dL_law_722 ?_
  refine g_p5 (as := [.int (xs (i + 1))]) hX (st_met h) mX5_met vX5_met lL_89 rfl rfl dL_law_723 rfl (Nat.le_of_ble_eq_true rfl) hcs hsl (fun r J nw' sp' lv6 Post6 hl6 h6 hq6 => ?_)
  refine g_aload_n hX dL_law_726 rfl 2 rfl ?_
  refine g_aload_n hX dL_law_727 rfl 0 rfl ?_
  refine g_iload_n hX dL_law_728 rfl 3 rfl ?_
  refine g_iconst (v := nI 1) hX dL_law_729 (by decide) ?_
  refine g_iadd (v := nI (i + 1)) hX dL_law_730 (nI_add i 1) ?_
  refine g_xld hX hs hLn (i + 1) rfl (by omega) dL_law_731 ?_
  refine g_p6 (as := [.int (xs (i + 1))]) hX hl6 h6 hq6 mX6_met vX6_met lL_92 rfl rfl dL_law_732 rfl (Nat.le_of_ble_eq_true rfl) hcs hsl (fun K hK => ?_)
  exact g_ci_eq (a := r.toInt) (b := r.toInt) (tgt := 1162) hX dL_law_735 (by decide) rfl rfl (fun _ => kk K nw' sp' hK) (fun q => absurd rfl q)
theorem lc_cut (hX : xOK X RL cL_law 4 25 kc ks) (hcs : cs ≤ kc) (hsl : sl ≤ ks) (hs : scr X Ln xs) (hLn : Ln ≤ 384) (hi : i + 5 < Ln) (h : LR I nw sp c) (hc9 : c ≤ 1000) (kk : ∀ K nw' sp', LR K nw' sp' (c + 1) → G X 319 cs sl K (xRL nw' sp') 1162 [(0, .ref 5000000), (1, .ref 0), (2, .ref 307), (3, .int (nI i))] []) : G X 319 cs sl I (xRL nw sp) 740 [(0, .ref 5000000), (1, .ref 0), (2, .ref 307), (3, .int (nI i))] [] := by
  refine g_aload_n hX dL_law_740 rfl 1 rfl ?_
  refine g_aload_n hX dL_law_741 rfl 0 rfl ?_
  refine g_iload_n hX dL_law_742 rfl 3 rfl ?_
  refine g_iconst (v := nI 1) hX dL_law_743 (by decide) ?_
  refine g_iadd (v := nI (i + 1)) hX dL_law_744 (nI_add i 1) ?_
  refine g_xld hX hs hLn (i + 1) rfl (by omega) dL_law_745 ?_
  refine g_aload_n hX dL_law_746 rfl 0 rfl ?_
  refine g_iload_n hX dL_law_747 rfl 3 rfl ?_
  refine g_iconst (v := nI 2) hX dL_law_748 (by decide) ?_
  refine g_iadd (v := nI (i + 2)) hX dL_law_749 (nI_add i 2) ?_
  refine g_xld hX hs hLn (i + 2) rfl (by omega) dL_law_750 ?_
  refine g_aload_n hX dL_law_751 rfl 0 rfl ?_
  refine g_iload_n hX dL_law_752 rfl 3 rfl ?_
  refine g_iconst (v := nI 3) hX dL_law_753 (by decide) ?_
  refine g_iadd (v := nI (i + 3)) hX dL_law_754 (nI_add i 3) ?_
  refine g_xld hX hs hLn (i + 3) rfl (by omega) dL_law_755 ?_
  refine g_aload_n hX dL_law_756 rfl 0 rfl ?_
  refine g_iload_n hX dL_law_757 rfl 3 rfl ?_
  refine g_iconst (v := nI 4) hX dL_law_758 (by decide) ?_
  refine g_iadd (v := nI (i + 4)) hX dL_law_759 (nI_add i 4) ?_
  refine g_xld hX hs hLn (i + 4) rfl (by omega) dL_law_760 ?_
  refine g_p5 (as := [.int (xs (i + 1)), .int (xs (i + 2)), .int (xs (i + 3)), .int (xs (i + 4))]) hX (st_cut h) mX5_cut vX5_cut lL_93 rfl rfl dL_law_761 rfl (Nat.le_of_ble_eq_true rfl) hcs hsl (fun r J nw' sp' lv6 Post6 hl6 h6 hq6 => ?_)
  refine g_aload_n hX dL_law_764 rfl 2 rfl ?_
  refine g_aload_n hX dL_law_765 rfl 0 rfl ?_
  refine g_iload_n hX dL_law_766 rfl 3 rfl ?_
  refine g_iconst (v := nI 1) hX dL_law_767 (by decide) ?_
  refine g_iadd (v := nI (i + 1)) hX dL_law_768 (nI_add i 1) ?_
  refine g_xld hX hs hLn (i + 1) rfl (by omega) dL_law_769 ?_
  refine g_aload_n hX dL_law_770 rfl 0 rfl ?_
  refine g_iload_n hX dL_law_771 rfl 3 rfl ?_
  refine g_iconst (v := nI 2) hX dL_law_772 (by decide) ?_
  refine g_iadd (v := nI (i + 2)) hX dL_law_773 (nI_add i 2) ?_
  refine g_xld hX hs hLn (i + 2) rfl (by omega) dL_law_774 ?_
  refine g_aload_n hX dL_law_775 rfl 0 rfl ?_
  refine g_iload_n hX dL_law_776 rfl 3 rfl ?_
  refine g_iconst (v := nI 3) hX dL_law_777 (by decide) ?_
  refine g_iadd (v := nI (i + 3)) hX dL_law_778 (nI_add i 3) ?_
  refine g_xld hX hs hLn (i + 3) rfl (by omega) dL_law_779 ?_
  refine g_aload_n hX dL_law_780 rfl 0 rfl ?_
  refine g_iload_n hX dL_law_781 rfl 3 rfl ?_
  refine g_iconst (v := nI 4) hX dL_law_782 (by decide) ?_
  refine g_iadd (v := nI (i + 4)) hX dL_law_783 (nI_add i 4) ?_
  refine g_xld hX hs hLn (i + 4) rfl (by omega) dL_law_784 ?_
  refine g_p6 (as := [.int (xs (i + 1)), .int (xs (i + 2)), .int (xs (i + 3)), .int (xs (i + 4))]) hX hl6 h6 hq6 mX6_cut vX6_cut lL_97 rfl rfl dL_law_785 rfl (Nat.le_of_ble_eq_true rfl) hcs hsl (fun K hK => ?_)
  exact g_ci_eq (a := r.toInt) (b := r.toInt) (tgt := 1162) hX dL_law_788 (by decide) rfl rfl (fun _ => kk K nw' sp' hK) (fun q => absurd rfl q)
theorem lc_plant (hX : xOK X RL cL_law 4 25 kc ks) (hcs : cs ≤ kc) (hsl : sl ≤ ks) (hs : scr X Ln xs) (hLn : Ln ≤ 384) (hi : i + 5 < Ln) (h : LR I nw sp c) (hc9 : c ≤ 1000) (kk : ∀ K nw' sp', LR K nw' sp' (c + 1) → G X 319 cs sl K (xRL nw' sp') 1162 [(0, .ref 5000000), (1, .ref 0), (2, .ref 307), (3, .int (nI i))] []) : G X 319 cs sl I (xRL nw sp) 793 [(0, .ref 5000000), (1, .ref 0), (2, .ref 307), (3, .int (nI i))] [] := by
  refine g_aload_n hX dL_law_793 rfl 1 rfl ?_
  refine g_aload_n hX dL_law_794 rfl 0 rfl ?_
  refine g_iload_n hX dL_law_795 rfl 3 rfl ?_
  refine g_iconst (v := nI 1) hX dL_law_796 (by decide) ?_
  refine g_iadd (v := nI (i + 1)) hX dL_law_797 (nI_add i 1) ?_
  refine g_xld hX hs hLn (i + 1) rfl (by omega) dL_law_798 ?_
  refine g_aload_n hX dL_law_799 rfl 0 rfl ?_
  refine g_iload_n hX dL_law_800 rfl 3 rfl ?_
  refine g_iconst (v := nI 2) hX dL_law_801 (by decide) ?_
  refine g_iadd (v := nI (i + 2)) hX dL_law_802 (nI_add i 2) ?_
  refine g_xld hX hs hLn (i + 2) rfl (by omega) dL_law_803 ?_
  refine g_aload_n hX dL_law_804 rfl 0 rfl ?_
  refine g_iload_n hX dL_law_805 rfl 3 rfl ?_
  refine g_iconst (v := nI 3) hX dL_law_806 (by decide) ?_
  refine g_iadd (v := nI (i + 3)) hX dL_law_807 (nI_add i 3) ?_
  refine g_xld hX hs hLn (i + 3) rfl (by omega) dL_law_808 ?_
  refine g_aload_n hX dL_law_809 rfl 0 rfl ?_
  refine g_iload_n hX dL_law_810 rfl 3 rfl ?_
  refine g_iconst (v := nI 4) hX dL_law_811 (by decide) ?_
  refine g_iadd (v := nI (i + 4)) hX dL_law_812 (nI_add i 4) ?_
  refine g_xld hX hs hLn (i + 4) rfl (by omega) dL_law_813 ?_
  refine g_p5 (as := [.int (xs (i + 1)), .int (xs (i + 2)), .int (xs (i + 3)), .int (xs (i + 4))]) hX (st_plant h) mX5_plant vX5_plant lL_98 rfl rfl dL_law_814 rfl (Nat.le_of_ble_eq_true rfl) hcs hsl (fun r J nw' sp' lv6 Post6 hl6 h6 hq6 => ?_)
  refine g_aload_n hX dL_law_817 rfl 2 rfl ?_
  refine g_aload_n hX dL_law_818 rfl 0 rfl ?_
  refine g_iload_n hX dL_law_819 rfl 3 rfl ?_
  refine g_iconst (v := nI 1) hX dL_law_820 (by decide) ?_
  refine g_iadd (v := nI (i + 1)) hX dL_law_821 (nI_add i 1) ?_
  refine g_xld hX hs hLn (i + 1) rfl (by omega) dL_law_822 ?_
  refine g_aload_n hX dL_law_823 rfl 0 rfl ?_
  refine g_iload_n hX dL_law_824 rfl 3 rfl ?_
  refine g_iconst (v := nI 2) hX dL_law_825 (by decide) ?_
  refine g_iadd (v := nI (i + 2)) hX dL_law_826 (nI_add i 2) ?_
  refine g_xld hX hs hLn (i + 2) rfl (by omega) dL_law_827 ?_
  refine g_aload_n hX dL_law_828 rfl 0 rfl ?_
  refine g_iload_n hX dL_law_829 rfl 3 rfl ?_
  refine g_iconst (v := nI 3) hX dL_law_830 (by decide) ?_
  refine g_iadd (v := nI (i + 3)) hX dL_law_831 (nI_add i 3) ?_
  refine g_xld hX hs hLn (i + 3) rfl (by omega) dL_law_832 ?_
  refine g_aload_n hX dL_law_833 rfl 0 rfl ?_
  refine g_iload_n hX dL_law_834 rfl 3 rfl ?_
  refine g_iconst (v := nI 4) hX dL_law_835 (by decide) ?_
  refine g_iadd (v := nI (i + 4)) hX dL_law_836 (nI_add i 4) ?_
  refine g_xld hX hs hLn (i + 4) rfl (by omega) dL_law_837 ?_
  refine g_p6 (as := [.int (xs (i + 1)), .int (xs (i + 2)), .int (xs (i + 3)), .int (xs (i + 4))]) hX hl6 h6 hq6 mX6_plant vX6_plant lL_101 rfl rfl dL_law_838 rfl (Nat.le_of_ble_eq_true rfl) hcs hsl (fun K hK => ?_)
  exact g_ci_eq (a := r.toInt) (b := r.toInt) (tgt := 1162) hX dL_law_841 (by decide) rfl rfl (fun _ => kk K nw' sp' hK) (fun q => absurd rfl q)
theorem lc_moon (hX : xOK X RL cL_law 4 25 kc ks) (hcs : cs ≤ kc) (hsl : sl ≤ ks) (hs : scr X Ln xs) (hLn : Ln ≤ 384) (hi : i + 5 < Ln) (h : LR I nw sp c) (hc9 : c ≤ 1000) (kk : ∀ K nw' sp', LR K nw' sp' (c + 1) → G X 319 cs sl K (xRL nw' sp') 1162 [(0, .ref 5000000), (1, .ref 0), (2, .ref 307), (3, .int (nI i))] []) : G X 319 cs sl I (xRL nw sp) 846 [(0, .ref 5000000), (1, .ref 0), (2, .ref 307), (3, .int (nI i))] [] := by
  refine g_aload_n hX dL_law_846 rfl 1 rfl ?_
  refine g_aload_n hX dL_law_847 rfl 0 rfl ?_
  refine g_iload_n hX dL_law_848 rfl 3 rfl ?_
  refine g_iconst (v := nI 1) hX dL_law_849 (by decide) ?_
  refine g_iadd (v := nI (i + 1)) hX dL_law_850 (nI_add i 1) ?_
  refine g_xld hX hs hLn (i + 1) rfl (by omega) dL_law_851 ?_
  refine g_p5 (as := [.int (xs (i + 1))]) hX (st_moon h) mX5_moon vX5_moon lL_102 rfl rfl dL_law_852 rfl (Nat.le_of_ble_eq_true rfl) hcs hsl (fun r J nw' sp' lv6 Post6 hl6 h6 hq6 => ?_)
  refine g_aload_n hX dL_law_855 rfl 2 rfl ?_
  refine g_aload_n hX dL_law_856 rfl 0 rfl ?_
  refine g_iload_n hX dL_law_857 rfl 3 rfl ?_
  refine g_iconst (v := nI 1) hX dL_law_858 (by decide) ?_
  refine g_iadd (v := nI (i + 1)) hX dL_law_859 (nI_add i 1) ?_
  refine g_xld hX hs hLn (i + 1) rfl (by omega) dL_law_860 ?_
  refine g_p6 (as := [.int (xs (i + 1))]) hX hl6 h6 hq6 mX6_moon vX6_moon lL_105 rfl rfl dL_law_861 rfl (Nat.le_of_ble_eq_true rfl) hcs hsl (fun K hK => ?_)
  exact g_ci_eq (a := r.toInt) (b := r.toInt) (tgt := 1162) hX dL_law_864 (by decide) rfl rfl (fun _ => kk K nw' sp' hK) (fun q => absurd rfl q)
theorem lc_path (hX : xOK X RL cL_law 4 25 kc ks) (hcs : cs ≤ kc) (hsl : sl ≤ ks) (hs : scr X Ln xs) (hLn : Ln ≤ 384) (hi : i + 5 < Ln) (h : LR I nw sp c) (hc9 : c ≤ 1000) (kk : ∀ K nw' sp', LR K nw' sp' (c + 1) → G X 319 cs sl K (xRL nw' sp') 1162 [(0, .ref 5000000), (1, .ref 0), (2, .ref 307), (3, .int (nI i))] []) : G X 319 cs sl I (xRL nw sp) 869 [(0, .ref 5000000), (1, .ref 0), (2, .ref 307), (3, .int (nI i))] [] := by
  refine g_aload_n hX dL_law_869 rfl 1 rfl ?_
  refine g_aload_n hX dL_law_870 rfl 0 rfl ?_
  refine g_iload_n hX dL_law_871 rfl 3 rfl ?_
  refine g_iconst (v := nI 1) hX dL_law_872 (by decide) ?_
  refine g_iadd (v := nI (i + 1)) hX dL_law_873 (nI_add i 1) ?_
  refine g_xld hX hs hLn (i + 1) rfl (by omega) dL_law_874 ?_
  refine g_aload_n hX dL_law_875 rfl 0 rfl ?_
  refine g_iload_n hX dL_law_876 rfl 3 rfl ?_
  refine g_iconst (v := nI 2) hX dL_law_877 (by decide) ?_
  refine g_iadd (v := nI (i + 2)) hX dL_law_878 (nI_add i 2) ?_
  refine g_xld hX hs hLn (i + 2) rfl (by omega) dL_law_879 ?_
  refine g_p5 (as := [.int (xs (i + 1)), .int (xs (i + 2))]) hX (st_path h) mX5_path vX5_path lL_106 rfl rfl dL_law_880 rfl (Nat.le_of_ble_eq_true rfl) hcs hsl (fun r J nw' sp' lv6 Post6 hl6 h6 hq6 => ?_)
  refine g_aload_n hX dL_law_883 rfl 2 rfl ?_
  refine g_aload_n hX dL_law_884 rfl 0 rfl ?_
  refine g_iload_n hX dL_law_885 rfl 3 rfl ?_
  refine g_iconst (v := nI 1) hX dL_law_886 (by decide) ?_
  refine g_iadd (v := nI (i + 1)) hX dL_law_887 (nI_add i 1) ?_
  refine g_xld hX hs hLn (i + 1) rfl (by omega) dL_law_888 ?_
  refine g_aload_n hX dL_law_889 rfl 0 rfl ?_
  refine g_iload_n hX dL_law_890 rfl 3 rfl ?_
  refine g_iconst (v := nI 2) hX dL_law_891 (by decide) ?_
  refine g_iadd (v := nI (i + 2)) hX dL_law_892 (nI_add i 2) ?_
  refine g_xld hX hs hLn (i + 2) rfl (by omega) dL_law_893 ?_
  refine g_p6 (as := [.int (xs (i + 1)), .int (xs (i + 2))]) hX hl6 h6 hq6 mX6_path vX6_path lL_109 rfl rfl dL_law_894 rfl (Nat.le_of_ble_eq_true rfl) hcs hsl (fun K hK => ?_)
  exact g_ci_eq (a := r.toInt) (b := r.toInt) (tgt := 1162) hX dL_law_897 (by decide) rfl rfl (fun _ => kk K nw' sp' hK) (fun q => absurd rfl q)
theorem lc_picture (hX : xOK X RL cL_law 4 25 kc ks) (hcs : cs ≤ kc) (hsl : sl ≤ ks) (hs : scr X Ln xs) (hLn : Ln ≤ 384) (hi : i + 5 < Ln) (h : LR I nw sp c) (hc9 : c ≤ 1000) (kk : ∀ K nw' sp', LR K nw' sp' (c + 1) → G X 319 cs sl K (xRL nw' sp') 1162 [(0, .ref 5000000), (1, .ref 0), (2, .ref 307), (3, .int (nI i))] []) : G X 319 cs sl I (xRL nw sp) 902 [(0, .ref 5000000), (1, .ref 0), (2, .ref 307), (3, .int (nI i))] [] := by
  refine g_aload_n hX dL_law_902 rfl 1 rfl ?_
  refine g_aload_n hX dL_law_903 rfl 0 rfl ?_
  refine g_iload_n hX dL_law_904 rfl 3 rfl ?_
  refine g_iconst (v := nI 1) hX dL_law_905 (by decide) ?_
  refine g_iadd (v := nI (i + 1)) hX dL_law_906 (nI_add i 1) ?_
  refine g_xld hX hs hLn (i + 1) rfl (by omega) dL_law_907 ?_
  refine g_aload_n hX dL_law_908 rfl 0 rfl ?_
  refine g_iload_n hX dL_law_909 rfl 3 rfl ?_
  refine g_iconst (v := nI 2) hX dL_law_910 (by decide) ?_
  refine g_iadd (v := nI (i + 2)) hX dL_law_911 (nI_add i 2) ?_
  refine g_xld hX hs hLn (i + 2) rfl (by omega) dL_law_912 ?_
  refine g_p5 (as := [.int (xs (i + 1)), .int (xs (i + 2))]) hX (st_picture h) mX5_picture vX5_picture lL_110 rfl rfl dL_law_913 rfl (Nat.le_of_ble_eq_true rfl) hcs hsl (fun r J nw' sp' lv6 Post6 hl6 h6 hq6 => ?_)
  refine g_aload_n hX dL_law_916 rfl 2 rfl ?_
  refine g_aload_n hX dL_law_917 rfl 0 rfl ?_
  refine g_iload_n hX dL_law_918 rfl 3 rfl ?_
  refine g_iconst (v := nI 1) hX dL_law_919 (by decide) ?_
  refine g_iadd (v := nI (i + 1)) hX dL_law_920 (nI_add i 1) ?_
  refine g_xld hX hs hLn (i + 1) rfl (by omega) dL_law_921 ?_
  refine g_aload_n hX dL_law_922 rfl 0 rfl ?_
  refine g_iload_n hX dL_law_923 rfl 3 rfl ?_
  refine g_iconst (v := nI 2) hX dL_law_924 (by decide) ?_
  refine g_iadd (v := nI (i + 2)) hX dL_law_925 (nI_add i 2) ?_
  refine g_xld hX hs hLn (i + 2) rfl (by omega) dL_law_926 ?_
  refine g_p6 (as := [.int (xs (i + 1)), .int (xs (i + 2))]) hX hl6 h6 hq6 mX6_picture vX6_picture lL_113 rfl rfl dL_law_927 rfl (Nat.le_of_ble_eq_true rfl) hcs hsl (fun K hK => ?_)
  exact g_ci_eq (a := r.toInt) (b := r.toInt) (tgt := 1162) hX dL_law_930 (by decide) rfl rfl (fun _ => kk K nw' sp' hK) (fun q => absurd rfl q)
theorem lc_rival (hX : xOK X RL cL_law 4 25 kc ks) (hcs : cs ≤ kc) (hsl : sl ≤ ks) (hs : scr X Ln xs) (hLn : Ln ≤ 384) (hi : i + 5 < Ln) (h : LR I nw sp c) (hc9 : c ≤ 1000) (kk : ∀ K nw' sp', LR K nw' sp' (c + 1) → G X 319 cs sl K (xRL nw' sp') 1162 [(0, .ref 5000000), (1, .ref 0), (2, .ref 307), (3, .int (nI i))] []) : G X 319 cs sl I (xRL nw sp) 935 [(0, .ref 5000000), (1, .ref 0), (2, .ref 307), (3, .int (nI i))] [] := by
  refine g_aload_n hX dL_law_935 rfl 1 rfl ?_
  refine g_aload_n hX dL_law_936 rfl 0 rfl ?_
  refine g_iload_n hX dL_law_937 rfl 3 rfl ?_
  refine g_iconst (v := nI 1) hX dL_law_938 (by decide) ?_
  refine g_iadd (v := nI (i + 1)) hX dL_law_939 (nI_add i 1) ?_
  refine g_xld hX hs hLn (i + 1) rfl (by omega) dL_law_940 ?_
  refine g_aload_n hX dL_law_941 rfl 0 rfl ?_
  refine g_iload_n hX dL_law_942 rfl 3 rfl ?_
  refine g_iconst (v := nI 2) hX dL_law_943 (by decide) ?_
  refine g_iadd (v := nI (i + 2)) hX dL_law_944 (nI_add i 2) ?_
  refine g_xld hX hs hLn (i + 2) rfl (by omega) dL_law_945 ?_
  refine g_p5 (as := [.int (xs (i + 1)), .int (xs (i + 2))]) hX (st_rival h) mX5_rival vX5_rival lL_114 rfl rfl dL_law_946 rfl (Nat.le_of_ble_eq_true rfl) hcs hsl (fun r J nw' sp' lv6 Post6 hl6 h6 hq6 => ?_)
  refine g_aload_n hX dL_law_949 rfl 2 rfl ?_
  refine g_aload_n hX dL_law_950 rfl 0 rfl ?_
  refine g_iload_n hX dL_law_951 rfl 3 rfl ?_
  refine g_iconst (v := nI 1) hX dL_law_952 (by decide) ?_
  refine g_iadd (v := nI (i + 1)) hX dL_law_953 (nI_add i 1) ?_
  refine g_xld hX hs hLn (i + 1) rfl (by omega) dL_law_954 ?_
  refine g_aload_n hX dL_law_955 rfl 0 rfl ?_
  refine g_iload_n hX dL_law_956 rfl 3 rfl ?_
  refine g_iconst (v := nI 2) hX dL_law_957 (by decide) ?_
  refine g_iadd (v := nI (i + 2)) hX dL_law_958 (nI_add i 2) ?_
  refine g_xld hX hs hLn (i + 2) rfl (by omega) dL_law_959 ?_
  refine g_p6 (as := [.int (xs (i + 1)), .int (xs (i + 2))]) hX hl6 h6 hq6 mX6_rival vX6_rival lL_117 rfl rfl dL_law_960 rfl (Nat.le_of_ble_eq_true rfl) hcs hsl (fun K hK => ?_)
  exact g_ci_eq (a := r.toInt) (b := r.toInt) (tgt := 1162) hX dL_law_963 (by decide) rfl rfl (fun _ => kk K nw' sp' hK) (fun q => absurd rfl q)
theorem lc_image (hX : xOK X RL cL_law 4 25 kc ks) (hcs : cs ≤ kc) (hsl : sl ≤ ks) (hs : scr X Ln xs) (hLn : Ln ≤ 384) (hi : i + 5 < Ln) (h : LR I nw sp c) (hc9 : c ≤ 1000) (kk : ∀ K nw' sp', LR K nw' sp' (c + 1) → G X 319 cs sl K (xRL nw' sp') 1162 [(0, .ref 5000000), (1, .ref 0), (2, .ref 307), (3, .int (nI i))] []) : G X 319 cs sl I (xRL nw sp) 968 [(0, .ref 5000000), (1, .ref 0), (2, .ref 307), (3, .int (nI i))] [] := by
  refine g_aload_n hX dL_law_968 rfl 1 rfl ?_
  refine g_aload_n hX dL_law_969 rfl 0 rfl ?_
  refine g_iload_n hX dL_law_970 rfl 3 rfl ?_
  refine g_iconst (v := nI 1) hX dL_law_971 (by decide) ?_
  refine g_iadd (v := nI (i + 1)) hX dL_law_972 (nI_add i 1) ?_
  refine g_xld hX hs hLn (i + 1) rfl (by omega) dL_law_973 ?_
  refine g_p5 (as := [.int (xs (i + 1))]) hX (st_image h) mX5_image vX5_image lL_118 rfl rfl dL_law_974 rfl (Nat.le_of_ble_eq_true rfl) hcs hsl (fun r J nw' sp' lv6 Post6 hl6 h6 hq6 => ?_)
  refine g_aload_n hX dL_law_977 rfl 2 rfl ?_
  refine g_aload_n hX dL_law_978 rfl 0 rfl ?_
  refine g_iload_n hX dL_law_979 rfl 3 rfl ?_
  refine g_iconst (v := nI 1) hX dL_law_980 (by decide) ?_
  refine g_iadd (v := nI (i + 1)) hX dL_law_981 (nI_add i 1) ?_
  refine g_xld hX hs hLn (i + 1) rfl (by omega) dL_law_982 ?_
  refine g_p6 (as := [.int (xs (i + 1))]) hX hl6 h6 hq6 mX6_image vX6_image lL_121 rfl rfl dL_law_983 rfl (Nat.le_of_ble_eq_true rfl) hcs hsl (fun K hK => ?_)
  exact g_ci_eq (a := r.toInt) (b := r.toInt) (tgt := 1162) hX dL_law_986 (by decide) rfl rfl (fun _ => kk K nw' sp' hK) (fun q => absurd rfl q)
theorem lc_restore (hX : xOK X RL cL_law 4 25 kc ks) (hcs : cs ≤ kc) (hsl : sl ≤ ks) (hs : scr X Ln xs) (hLn : Ln ≤ 384) (hi : i + 5 < Ln) (h : LR I nw sp c) (hc9 : c ≤ 1000) (kk : ∀ K nw' sp', LR K nw' sp' (c + 1) → G X 319 cs sl K (xRL nw' sp') 1162 [(0, .ref 5000000), (1, .ref 0), (2, .ref 307), (3, .int (nI i))] []) : G X 319 cs sl I (xRL nw sp) 991 [(0, .ref 5000000), (1, .ref 0), (2, .ref 307), (3, .int (nI i))] [] := by
  refine g_aload_n hX dL_law_991 rfl 1 rfl ?_
  refine g_aload_n hX dL_law_992 rfl 0 rfl ?_
  refine g_iload_n hX dL_law_993 rfl 3 rfl ?_
  refine g_iconst (v := nI 1) hX dL_law_994 (by decide) ?_
  refine g_iadd (v := nI (i + 1)) hX dL_law_995 (nI_add i 1) ?_
  refine g_xld hX hs hLn (i + 1) rfl (by omega) dL_law_996 ?_
  refine g_p5 (as := [.int (xs (i + 1))]) hX (st_restore h) mX5_restore vX5_restore lL_122 rfl rfl dL_law_997 rfl (Nat.le_of_ble_eq_true rfl) hcs hsl (fun r J nw' sp' lv6 Post6 hl6 h6 hq6 => ?_)
  refine g_aload_n hX dL_law_1000 rfl 2 rfl ?_
  refine g_aload_n hX dL_law_1001 rfl 0 rfl ?_
  refine g_iload_n hX dL_law_1002 rfl 3 rfl ?_
  refine g_iconst (v := nI 1) hX dL_law_1003 (by decide) ?_
  refine g_iadd (v := nI (i + 1)) hX dL_law_1004 (nI_add i 1) ?_
  refine g_xld hX hs hLn (i + 1) rfl (by omega) dL_law_1005 ?_
  refine g_p6 (as := [.int (xs (i + 1))]) hX hl6 h6 hq6 mX6_restore vX6_restore lL_125 rfl rfl dL_law_1006 rfl (Nat.le_of_ble_eq_true rfl) hcs hsl (fun K hK => ?_)
  exact g_ci_eq (a := r.toInt) (b := r.toInt) (tgt := 1162) hX dL_law_1009 (by decide) rfl rfl (fun _ => kk K nw' sp' hK) (fun q => absurd rfl q)
theorem lc_kind (hX : xOK X RL cL_law 4 25 kc ks) (hcs : cs ≤ kc) (hsl : sl ≤ ks) (hs : scr X Ln xs) (hLn : Ln ≤ 384) (hi : i + 5 < Ln) (h : LR I nw sp c) (hc9 : c ≤ 1000) (kk : ∀ K nw' sp', LR K nw' sp' (c + 1) → G X 319 cs sl K (xRL nw' sp') 1162 [(0, .ref 5000000), (1, .ref 0), (2, .ref 307), (3, .int (nI i))] []) : G X 319 cs sl I (xRL nw sp) 1014 [(0, .ref 5000000), (1, .ref 0), (2, .ref 307), (3, .int (nI i))] [] := by
  refine g_aload_n hX dL_law_1014 rfl 1 rfl ?_
  refine g_aload_n hX dL_law_1015 rfl 0 rfl ?_
  refine g_iload_n hX dL_law_1016 rfl 3 rfl ?_
  refine g_iconst (v := nI 1) hX dL_law_1017 (by decide) ?_
  refine g_iadd (v := nI (i + 1)) hX dL_law_1018 (nI_add i 1) ?_
  refine g_xld hX hs hLn (i + 1) rfl (by omega) dL_law_1019 ?_
  refine g_p5 (as := [.int (xs (i + 1))]) hX (st_kind h) mX5_kind vX5_kind lL_126 rfl rfl dL_law_1020 rfl (Nat.le_of_ble_eq_true rfl) hcs hsl (fun r J nw' sp' lv6 Post6 hl6 h6 hq6 => ?_)
  refine g_aload_n hX dL_law_1023 rfl 2 rfl ?_
  refine g_aload_n hX dL_law_1024 rfl 0 rfl ?_
  refine g_iload_n hX dL_law_1025 rfl 3 rfl ?_
  refine g_iconst (v := nI 1) hX dL_law_1026 (by decide) ?_
  refine g_iadd (v := nI (i + 1)) hX dL_law_1027 (nI_add i 1) ?_
  refine g_xld hX hs hLn (i + 1) rfl (by omega) dL_law_1028 ?_
  refine g_p6 (as := [.int (xs (i + 1))]) hX hl6 h6 hq6 mX6_kind vX6_kind lL_129 rfl rfl dL_law_1029 rfl (Nat.le_of_ble_eq_true rfl) hcs hsl (fun K hK => ?_)
  exact g_ci_eq (a := r.toInt) (b := r.toInt) (tgt := 1162) hX dL_law_1032 (by decide) rfl rfl (fun _ => kk K nw' sp' hK) (fun q => absurd rfl q)
theorem lc_as (hX : xOK X RL cL_law 4 25 kc ks) (hcs : cs ≤ kc) (hsl : sl ≤ ks) (hs : scr X Ln xs) (hLn : Ln ≤ 384) (hi : i + 5 < Ln) (h : LR I nw sp c) (hc9 : c ≤ 1000) (kk : ∀ K nw' sp', LR K nw' sp' (c + 1) → G X 319 cs sl K (xRL nw' sp') 1162 [(0, .ref 5000000), (1, .ref 0), (2, .ref 307), (3, .int (nI i))] []) : G X 319 cs sl I (xRL nw sp) 1037 [(0, .ref 5000000), (1, .ref 0), (2, .ref 307), (3, .int (nI i))] [] := by
  refine g_aload_n hX dL_law_1037 rfl 1 rfl ?_
  refine g_aload_n hX dL_law_1038 rfl 0 rfl ?_
  refine g_iload_n hX dL_law_1039 rfl 3 rfl ?_
  refine g_iconst (v := nI 1) hX dL_law_1040 (by decide) ?_
  refine g_iadd (v := nI (i + 1)) hX dL_law_1041 (nI_add i 1) ?_
  refine g_xld hX hs hLn (i + 1) rfl (by omega) dL_law_1042 ?_
  refine g_aload_n hX dL_law_1043 rfl 0 rfl ?_
  refine g_iload_n hX dL_law_1044 rfl 3 rfl ?_
  refine g_iconst (v := nI 2) hX dL_law_1045 (by decide) ?_
  refine g_iadd (v := nI (i + 2)) hX dL_law_1046 (nI_add i 2) ?_
  refine g_xld hX hs hLn (i + 2) rfl (by omega) dL_law_1047 ?_
  refine g_p5 (as := [.int (xs (i + 1)), .int (xs (i + 2))]) hX (st_as h) mX5_as vX5_as lL_130 rfl rfl dL_law_1048 rfl (Nat.le_of_ble_eq_true rfl) hcs hsl (fun r J nw' sp' lv6 Post6 hl6 h6 hq6 => ?_)
  refine g_aload_n hX dL_law_1051 rfl 2 rfl ?_
  refine g_aload_n hX dL_law_1052 rfl 0 rfl ?_
  refine g_iload_n hX dL_law_1053 rfl 3 rfl ?_
  refine g_iconst (v := nI 1) hX dL_law_1054 (by decide) ?_
  refine g_iadd (v := nI (i + 1)) hX dL_law_1055 (nI_add i 1) ?_
  refine g_xld hX hs hLn (i + 1) rfl (by omega) dL_law_1056 ?_
  refine g_aload_n hX dL_law_1057 rfl 0 rfl ?_
  refine g_iload_n hX dL_law_1058 rfl 3 rfl ?_
  refine g_iconst (v := nI 2) hX dL_law_1059 (by decide) ?_
  refine g_iadd (v := nI (i + 2)) hX dL_law_1060 (nI_add i 2) ?_
  refine g_xld hX hs hLn (i + 2) rfl (by omega) dL_law_1061 ?_
  refine g_p6 (as := [.int (xs (i + 1)), .int (xs (i + 2))]) hX hl6 h6 hq6 mX6_as vX6_as lL_133 rfl rfl dL_law_1062 rfl (Nat.le_of_ble_eq_true rfl) hcs hsl (fun K hK => ?_)
  exact g_ci_eq (a := r.toInt) (b := r.toInt) (tgt := 1162) hX dL_law_1065 (by decide) rfl rfl (fun _ => kk K nw' sp' hK) (fun q => absurd rfl q)
theorem lc_ask (hX : xOK X RL cL_law 4 25 kc ks) (hcs : cs ≤ kc) (hsl : sl ≤ ks) (hs : scr X Ln xs) (hLn : Ln ≤ 384) (hi : i + 5 < Ln) (h : LR I nw sp c) (hc9 : c ≤ 1000) (kk : ∀ K nw' sp', LR K nw' sp' (c + 1) → G X 319 cs sl K (xRL nw' sp') 1162 [(0, .ref 5000000), (1, .ref 0), (2, .ref 307), (3, .int (nI i))] []) : G X 319 cs sl I (xRL nw sp) 1070 [(0, .ref 5000000), (1, .ref 0), (2, .ref 307), (3, .int (nI i))] [] := by
  refine g_aload_n hX dL_law_1070 rfl 1 rfl ?_
  refine g_aload_n hX dL_law_1071 rfl 0 rfl ?_
  refine g_iload_n hX dL_law_1072 rfl 3 rfl ?_
  refine g_iconst (v := nI 1) hX dL_law_1073 (by decide) ?_
  refine g_iadd (v := nI (i + 1)) hX dL_law_1074 (nI_add i 1) ?_
  refine g_xld hX hs hLn (i + 1) rfl (by omega) dL_law_1075 ?_
  refine g_aload_n hX dL_law_1076 rfl 0 rfl ?_
  refine g_iload_n hX dL_law_1077 rfl 3 rfl ?_
  refine g_iconst (v := nI 2) hX dL_law_1078 (by decide) ?_
  refine g_iadd (v := nI (i + 2)) hX dL_law_1079 (nI_add i 2) ?_
  refine g_xld hX hs hLn (i + 2) rfl (by omega) dL_law_1080 ?_
  refine g_p5 (as := [.int (xs (i + 1)), .int (xs (i + 2))]) hX (st_ask h) mX5_ask vX5_ask lL_134 rfl rfl dL_law_1081 rfl (Nat.le_of_ble_eq_true rfl) hcs hsl (fun r J nw' sp' lv6 Post6 hl6 h6 hq6 => ?_)
  refine g_aload_n hX dL_law_1084 rfl 2 rfl ?_
  refine g_aload_n hX dL_law_1085 rfl 0 rfl ?_
  refine g_iload_n hX dL_law_1086 rfl 3 rfl ?_
  refine g_iconst (v := nI 1) hX dL_law_1087 (by decide) ?_
  refine g_iadd (v := nI (i + 1)) hX dL_law_1088 (nI_add i 1) ?_
  refine g_xld hX hs hLn (i + 1) rfl (by omega) dL_law_1089 ?_
  refine g_aload_n hX dL_law_1090 rfl 0 rfl ?_
  refine g_iload_n hX dL_law_1091 rfl 3 rfl ?_
  refine g_iconst (v := nI 2) hX dL_law_1092 (by decide) ?_
  refine g_iadd (v := nI (i + 2)) hX dL_law_1093 (nI_add i 2) ?_
  refine g_xld hX hs hLn (i + 2) rfl (by omega) dL_law_1094 ?_
  refine g_p6 (as := [.int (xs (i + 1)), .int (xs (i + 2))]) hX hl6 h6 hq6 mX6_ask vX6_ask lL_137 rfl rfl dL_law_1095 rfl (Nat.le_of_ble_eq_true rfl) hcs hsl (fun K hK => ?_)
  exact g_ci_eq (a := r.toInt) (b := r.toInt) (tgt := 1162) hX dL_law_1098 (by decide) rfl rfl (fun _ => kk K nw' sp' hK) (fun q => absurd rfl q)
theorem lc_trace (hX : xOK X RL cL_law 4 25 kc ks) (hcs : cs ≤ kc) (hsl : sl ≤ ks) (hs : scr X Ln xs) (hLn : Ln ≤ 384) (hi : i + 5 < Ln) (h : LR I nw sp c) (hc9 : c ≤ 1000) (kk : ∀ K nw' sp', LR K nw' sp' (c + 1) → G X 319 cs sl K (xRL nw' sp') 1162 [(0, .ref 5000000), (1, .ref 0), (2, .ref 307), (3, .int (nI i))] []) : G X 319 cs sl I (xRL nw sp) 1103 [(0, .ref 5000000), (1, .ref 0), (2, .ref 307), (3, .int (nI i))] [] := by
  refine g_aload_n hX dL_law_1103 rfl 1 rfl ?_
  refine g_aload_n hX dL_law_1104 rfl 0 rfl ?_
  refine g_iload_n hX dL_law_1105 rfl 3 rfl ?_
  refine g_iconst (v := nI 1) hX dL_law_1106 (by decide) ?_
  refine g_iadd (v := nI (i + 1)) hX dL_law_1107 (nI_add i 1) ?_
  refine g_xld hX hs hLn (i + 1) rfl (by omega) dL_law_1108 ?_
  refine g_p5 (as := [.int (xs (i + 1))]) hX (st_trace h) mX5_trace vX5_trace lL_138 rfl rfl dL_law_1109 rfl (Nat.le_of_ble_eq_true rfl) hcs hsl (fun r J nw' sp' lv6 Post6 hl6 h6 hq6 => ?_)
  refine g_aload_n hX dL_law_1112 rfl 2 rfl ?_
  refine g_aload_n hX dL_law_1113 rfl 0 rfl ?_
  refine g_iload_n hX dL_law_1114 rfl 3 rfl ?_
  refine g_iconst (v := nI 1) hX dL_law_1115 (by decide) ?_
  refine g_iadd (v := nI (i + 1)) hX dL_law_1116 (nI_add i 1) ?_
  refine g_xld hX hs hLn (i + 1) rfl (by omega) dL_law_1117 ?_
  refine g_p6 (as := [.int (xs (i + 1))]) hX hl6 h6 hq6 mX6_trace vX6_trace lL_141 rfl rfl dL_law_1118 rfl (Nat.le_of_ble_eq_true rfl) hcs hsl (fun K hK => ?_)
  exact g_ci_eq (a := r.toInt) (b := r.toInt) (tgt := 1162) hX dL_law_1121 (by decide) rfl rfl (fun _ => kk K nw' sp' hK) (fun q => absurd rfl q)
theorem lc_count (hX : xOK X RL cL_law 4 25 kc ks) (hcs : cs ≤ kc) (hsl : sl ≤ ks) (hs : scr X Ln xs) (hLn : Ln ≤ 384) (hi : i + 5 < Ln) (h : LR I nw sp c) (hc9 : c ≤ 1000) (kk : ∀ K nw' sp', LR K nw' sp' (c + 1) → G X 319 cs sl K (xRL nw' sp') 1162 [(0, .ref 5000000), (1, .ref 0), (2, .ref 307), (3, .int (nI i))] []) : G X 319 cs sl I (xRL nw sp) 1126 [(0, .ref 5000000), (1, .ref 0), (2, .ref 307), (3, .int (nI i))] [] := by
  refine g_aload_n hX dL_law_1126 rfl 1 rfl ?_
  refine g_aload_n hX dL_law_1127 rfl 0 rfl ?_
  refine g_iload_n hX dL_law_1128 rfl 3 rfl ?_
  refine g_iconst (v := nI 1) hX dL_law_1129 (by decide) ?_
  refine g_iadd (v := nI (i + 1)) hX dL_law_1130 (nI_add i 1) ?_
  refine g_xld hX hs hLn (i + 1) rfl (by omega) dL_law_1131 ?_
  refine g_p5 (as := [.int (xs (i + 1))]) hX (st_count h) mX5_count vX5_count lL_142 rfl rfl dL_law_1132 rfl (Nat.le_of_ble_eq_true rfl) hcs hsl (fun r J nw' sp' lv6 Post6 hl6 h6 hq6 => ?_)
  refine g_aload_n hX dL_law_1135 rfl 2 rfl ?_
  refine g_aload_n hX dL_law_1136 rfl 0 rfl ?_
  refine g_iload_n hX dL_law_1137 rfl 3 rfl ?_
  refine g_iconst (v := nI 1) hX dL_law_1138 (by decide) ?_
  refine g_iadd (v := nI (i + 1)) hX dL_law_1139 (nI_add i 1) ?_
  refine g_xld hX hs hLn (i + 1) rfl (by omega) dL_law_1140 ?_
  refine g_p6 (as := [.int (xs (i + 1))]) hX hl6 h6 hq6 mX6_count vX6_count lL_145 rfl rfl dL_law_1141 rfl (Nat.le_of_ble_eq_true rfl) hcs hsl (fun K hK => ?_)
  exact g_ci_eq (a := r.toInt) (b := r.toInt) (tgt := 1162) hX dL_law_1144 (by decide) rfl rfl (fun _ => kk K nw' sp' hK) (fun q => absurd rfl q)
theorem lc_status (hX : xOK X RL cL_law 4 25 kc ks) (hcs : cs ≤ kc) (hsl : sl ≤ ks) (hs : scr X Ln xs) (hLn : Ln ≤ 384) (hi : i + 5 < Ln) (h : LR I nw sp c) (hc9 : c ≤ 1000) (kk : ∀ K nw' sp', LR K nw' sp' (c + 1) → G X 319 cs sl K (xRL nw' sp') 1162 [(0, .ref 5000000), (1, .ref 0), (2, .ref 307), (3, .int (nI i))] []) : G X 319 cs sl I (xRL nw sp) 1149 [(0, .ref 5000000), (1, .ref 0), (2, .ref 307), (3, .int (nI i))] [] := by
  refine g_aload_n hX dL_law_1149 rfl 1 rfl ?_
  refine g_p5 (as := []) hX (st_status h) mX5_status vX5_status lL_146 rfl rfl dL_law_1150 rfl (Nat.le_of_ble_eq_true rfl) hcs hsl (fun r J nw' sp' lv6 Post6 hl6 h6 hq6 => ?_)
  refine g_aload_n hX dL_law_1153 rfl 2 rfl ?_
  refine g_p6 (as := []) hX hl6 h6 hq6 mX6_status vX6_status lL_149 rfl rfl dL_law_1154 rfl (Nat.le_of_ble_eq_true rfl) hcs hsl (fun K hK => ?_)
  exact g_ci_eq (a := r.toInt) (b := r.toInt) (tgt := 1162) hX dL_law_1157 (by decide) rfl rfl (fun _ => kk K nw' sp' hK) (fun q => absurd rfl q)
/-- the law's loop -/
theorem lc_loop (hX : xOK X RL cL_law 4 25 kc ks) (hcs : cs ≤ kc) (hsl : sl ≤ ks) (hs : scr X Ln xs) (hLn : Ln ≤ 384) (ke : ∀ K nw' sp' i, G X 319 cs sl K (xRL nw' sp') 1168 [(0, .ref 5000000), (1, .ref 0), (2, .ref 307), (3, .int (nI i))] []) : ∀ (fuel i c : Nat) (I : xM) (nw sp : Nat), LR I nw sp c → i = 6 * c → c ≤ 64 → 65 - c < fuel → G X 319 cs sl I (xRL nw sp) 18 [(0, .ref 5000000), (1, .ref 0), (2, .ref 307), (3, .int (nI i))] [] := by
  intro fuel
  induction fuel with
  | zero => intro i c I nw sp h hic hc hf; omega
  | succ fuel ih =>
    intro i c I nw sp h hic hc hf
    refine g_iload_n hX dL_law_18 rfl 3 rfl ?_
    refine g_aload_n hX dL_law_19 rfl 0 rfl ?_
    refine g_xln hX hs dL_law_20 ?_
    refine g_bipush (v := nI 6) hX dL_law_21 (by decide) ?_
    refine g_isub (v := zI (((Ln : Nat) : Int) - ((6 : Nat) : Int))) hX dL_law_23 (zI_sub ((Ln : Nat) : Int) ((6 : Nat) : Int)) ?_
    refine g_ci_gt (a := ((i : Nat) : Int)) (b := ((Ln : Nat) : Int) - ((6 : Nat) : Int)) (tgt := 1168) hX dL_law_24 (by decide) (nI_toInt (by omega)) (zI_toInt (by omega) (by omega)) (fun h24 => ke I nw sp i) (fun h24 => ?_)
    have hi : i + 5 < Ln := by omega
    refine g_aload_n hX dL_law_27 rfl 0 rfl ?_
    refine g_iload_n hX dL_law_28 rfl 3 rfl ?_
    refine g_xld hX hs hLn i rfl (by omega) dL_law_29 ?_
    refine g_bipush (v := nI 31) hX dL_law_30 (by decide) ?_
    refine g_iand (v := xs i &&& nI 31) hX dL_law_32 rfl ?_
    obtain ⟨j, hj, ej⟩ := pk_andE (xs i) (m := nI 31) 5 (by decide)
    refine g_top ej ?_
    have kk : ∀ K nw' sp', LR K nw' sp' (c + 1) → G X 319 cs sl K (xRL nw' sp') 1162 [(0, .ref 5000000), (1, .ref 0), (2, .ref 307), (3, .int (nI i))] [] := by
      intro K nw' sp' hK
      refine g_iinc (v := nI (i + 6)) (L' := [(0, .ref 5000000), (1, .ref 0), (2, .ref 307), (3, .int (nI (i + 6)))]) hX dL_law_1162 (by decide) 3 rfl (nI_add i 6) rfl ?_
      refine g_goto (tgt := 18) hX dL_law_1165 (by decide) ?_
      exact ih (i + 6) (c + 1) K nw' sp' hK (by omega) (by omega) (by omega)
    have hc9 : c ≤ 1000 := by omega
    rcases (show j = 0 ∨ j = 1 ∨ j = 2 ∨ j = 3 ∨ j = 4 ∨ j = 5 ∨ j = 6 ∨ j = 7 ∨ j = 8 ∨ j = 9 ∨ j = 10 ∨ j = 11 ∨ j = 12 ∨ j = 13 ∨ j = 14 ∨ j = 15 ∨ j = 16 ∨ j = 17 ∨ j = 18 ∨ j = 19 ∨ j = 20 ∨ j = 21 ∨ j = 22 ∨ j = 23 ∨ j = 24 ∨ j = 25 ∨ j = 26 ∨ j = 27 ∨ j = 28 ∨ j = 29 ∨ j = 30 ∨ j = 31 by omega) with rfl | rfl | rfl | rfl | rfl | rfl | rfl | rfl | rfl | rfl | rfl | rfl | rfl | rfl | rfl | rfl | rfl | rfl | rfl | rfl | rfl | rfl | rfl | rfl | rfl | rfl | rfl | rfl | rfl | rfl | rfl | rfl
    · exact g_tsI (a := (0 : Int)) (v := 0) (tgt := 176) hX dL_law_33 (by decide) rfl (by decide) (by decide) rfl (by decide) (lc_row hX hcs hsl hs hLn hi h hc9 kk)
    · exact g_tsI (a := (1 : Int)) (v := 1) (tgt := 219) hX dL_law_33 (by decide) rfl (by decide) (by decide) rfl (by decide) (lc_set hX hcs hsl hs hLn hi h hc9 kk)
    · exact g_tsI (a := (2 : Int)) (v := 2) (tgt := 262) hX dL_law_33 (by decide) rfl (by decide) (by decide) rfl (by decide) (lc_copy hX hcs hsl hs hLn hi h hc9 kk)
    · exact g_tsI (a := (3 : Int)) (v := 3) (tgt := 325) hX dL_law_33 (by decide) rfl (by decide) (by decide) rfl (by decide) (lc_drop hX hcs hsl hs hLn hi h hc9 kk)
    · exact g_tsI (a := (4 : Int)) (v := 4) (tgt := 348) hX dL_law_33 (by decide) rfl (by decide) (by decide) rfl (by decide) (lc_feed hX hcs hsl hs hLn hi h hc9 kk)
    · exact g_tsI (a := (5 : Int)) (v := 5) (tgt := 411) hX dL_law_33 (by decide) rfl (by decide) (by decide) rfl (by decide) (lc_garden hX hcs hsl hs hLn hi h hc9 kk)
    · exact g_tsI (a := (6 : Int)) (v := 6) (tgt := 424) hX dL_law_33 (by decide) rfl (by decide) (by decide) rfl (by decide) (lc_fault hX hcs hsl hs hLn hi h hc9 kk)
    · exact g_tsI (a := (7 : Int)) (v := 7) (tgt := 437) hX dL_law_33 (by decide) rfl (by decide) (by decide) rfl (by decide) (lc_years hX hcs hsl hs hLn hi h hc9 kk)
    · exact g_tsI (a := (8 : Int)) (v := 8) (tgt := 460) hX dL_law_33 (by decide) rfl (by decide) (by decide) rfl (by decide) (lc_winter hX hcs hsl hs hLn hi h hc9 kk)
    · exact g_tsI (a := (9 : Int)) (v := 9) (tgt := 483) hX dL_law_33 (by decide) rfl (by decide) (by decide) rfl (by decide) (lc_clip hX hcs hsl hs hLn hi h hc9 kk)
    · exact g_tsI (a := (10 : Int)) (v := 10) (tgt := 516) hX dL_law_33 (by decide) rfl (by decide) (by decide) rfl (by decide) (lc_move hX hcs hsl hs hLn hi h hc9 kk)
    · exact g_tsI (a := (11 : Int)) (v := 11) (tgt := 549) hX dL_law_33 (by decide) rfl (by decide) (by decide) rfl (by decide) (lc_level hX hcs hsl hs hLn hi h hc9 kk)
    · exact g_tsI (a := (12 : Int)) (v := 12) (tgt := 582) hX dL_law_33 (by decide) rfl (by decide) (by decide) rfl (by decide) (lc_undo hX hcs hsl hs hLn hi h hc9 kk)
    · exact g_tsI (a := (13 : Int)) (v := 13) (tgt := 595) hX dL_law_33 (by decide) rfl (by decide) (by decide) rfl (by decide) (lc_tree hX hcs hsl hs hLn hi h hc9 kk)
    · exact g_tsI (a := (14 : Int)) (v := 14) (tgt := 628) hX dL_law_33 (by decide) rfl (by decide) (by decide) rfl (by decide) (lc_site hX hcs hsl hs hLn hi h hc9 kk)
    · exact g_tsI (a := (15 : Int)) (v := 15) (tgt := 661) hX dL_law_33 (by decide) rfl (by decide) (by decide) rfl (by decide) (lc_seen hX hcs hsl hs hLn hi h hc9 kk)
    · exact g_tsI (a := (16 : Int)) (v := 16) (tgt := 694) hX dL_law_33 (by decide) rfl (by decide) (by decide) rfl (by decide) (lc_doubled hX hcs hsl hs hLn hi h hc9 kk)
    · exact g_tsI (a := (17 : Int)) (v := 17) (tgt := 717) hX dL_law_33 (by decide) rfl (by decide) (by decide) rfl (by decide) (lc_met hX hcs hsl hs hLn hi h hc9 kk)
    · exact g_tsI (a := (18 : Int)) (v := 18) (tgt := 740) hX dL_law_33 (by decide) rfl (by decide) (by decide) rfl (by decide) (lc_cut hX hcs hsl hs hLn hi h hc9 kk)
    · exact g_tsI (a := (19 : Int)) (v := 19) (tgt := 793) hX dL_law_33 (by decide) rfl (by decide) (by decide) rfl (by decide) (lc_plant hX hcs hsl hs hLn hi h hc9 kk)
    · exact g_tsI (a := (20 : Int)) (v := 20) (tgt := 846) hX dL_law_33 (by decide) rfl (by decide) (by decide) rfl (by decide) (lc_moon hX hcs hsl hs hLn hi h hc9 kk)
    · exact g_tsI (a := (21 : Int)) (v := 21) (tgt := 869) hX dL_law_33 (by decide) rfl (by decide) (by decide) rfl (by decide) (lc_path hX hcs hsl hs hLn hi h hc9 kk)
    · exact g_tsI (a := (22 : Int)) (v := 22) (tgt := 902) hX dL_law_33 (by decide) rfl (by decide) (by decide) rfl (by decide) (lc_picture hX hcs hsl hs hLn hi h hc9 kk)
    · exact g_tsI (a := (23 : Int)) (v := 23) (tgt := 935) hX dL_law_33 (by decide) rfl (by decide) (by decide) rfl (by decide) (lc_rival hX hcs hsl hs hLn hi h hc9 kk)
    · exact g_tsI (a := (24 : Int)) (v := 24) (tgt := 968) hX dL_law_33 (by decide) rfl (by decide) (by decide) rfl (by decide) (lc_image hX hcs hsl hs hLn hi h hc9 kk)
    · exact g_tsI (a := (25 : Int)) (v := 25) (tgt := 991) hX dL_law_33 (by decide) rfl (by decide) (by decide) rfl (by decide) (lc_restore hX hcs hsl hs hLn hi h hc9 kk)
    · exact g_tsI (a := (26 : Int)) (v := 26) (tgt := 1014) hX dL_law_33 (by decide) rfl (by decide) (by decide) rfl (by decide) (lc_kind hX hcs hsl hs hLn hi h hc9 kk)
    · exact g_tsI (a := (27 : Int)) (v := 27) (tgt := 1037) hX dL_law_33 (by decide) rfl (by decide) (by decide) rfl (by decide) (lc_as hX hcs hsl hs hLn hi h hc9 kk)
    · exact g_tsI (a := (28 : Int)) (v := 28) (tgt := 1070) hX dL_law_33 (by decide) rfl (by decide) (by decide) rfl (by decide) (lc_ask hX hcs hsl hs hLn hi h hc9 kk)
    · exact g_tsI (a := (29 : Int)) (v := 29) (tgt := 1103) hX dL_law_33 (by decide) rfl (by decide) (by decide) rfl (by decide) (lc_trace hX hcs hsl hs hLn hi h hc9 kk)
    · exact g_tsI (a := (30 : Int)) (v := 30) (tgt := 1126) hX dL_law_33 (by decide) rfl (by decide) (by decide) rfl (by decide) (lc_count hX hcs hsl hs hLn hi h hc9 kk)
    · exact g_tsI (a := (31 : Int)) (v := 31) (tgt := 1149) hX dL_law_33 (by decide) rfl (by decide) (by decide) rfl (by decide) (lc_status hX hcs hsl hs hLn hi h hc9 kk)
end