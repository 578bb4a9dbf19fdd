/-! the law's 24 cases: both sides answer alike -/
set_option maxHeartbeats 4000000 in
theorem cs_feed {κ : vK} {la : Array Slot} {b n i k : Nat} {xs : Nat → Int32} {F : vFt} {Ar : vAt} {x : vXt} (hκ : jwC κ la b n xs i k) (hn : n ≤ 3072) (hi : i + 6 ≤ n) (hk : k ≤ 3072) (hI : IX F Ar x) (kk : ∀ κ' F' Ar' x', jwC κ' la b n xs i (k + 1) → IX F' Ar' x' → Jw κ' la 1028 [] F' Ar' x') : Jw κ la 144 [] F Ar x := by
  obtain ⟨Q5, h5, hq5⟩ := st_feed (v := (xs (i + 1))) hI
  refine Jw_a1 (q := 145) hκ dL_law_144 rfl ?_
  refine Jw_rd (j := 1) (q := 150) hκ hn (by omega) (by decide) dL_law_145 dL_law_146 dL_law_147 dL_law_148 dL_law_149 rfl ?_
  refine Jw_call (o := 0) (rest := []) (q := 153) [.int (xs (i + 1))] h5 hκ (by decide) gX5_feed kl_L_13 ki_X5_feed ks_X5_feed (by decide) rfl rfl (Nat.le_of_ble_eq_true rfl) dL_law_150 rfl (fun r F1 Ar1 h => ?_)
  obtain ⟨v, rfl, Q6, h6, hq6⟩ := hq5 r F1 Ar1 h
  show Jw κ la 153 [.int v] F1 Ar1 x
  refine Jw_a2 (q := 154) hκ dL_law_153 rfl ?_
  refine Jw_rd (j := 1) (q := 159) hκ hn (by omega) (by decide) dL_law_154 dL_law_155 dL_law_156 dL_law_157 dL_law_158 rfl ?_
  refine Jw_call (o := 6) (rest := [.int v]) (q := 162) [.int (xs (i + 1))] h6 hκ (by decide) gX6_feed kl_L_17 ki_X6_feed ks_X6_feed (by decide) rfl rfl (Nat.le_of_ble_eq_true rfl) dL_law_159 rfl (fun r F2 Ar2 h => ?_)
  obtain ⟨rfl, hI2⟩ := hq6 r F2 Ar2 h
  show Jw κ la 162 [.int v, .int v] F2 Ar2 x
  refine Jw_eq (tgt := 1028) dL_law_162 (by decide) ?_
  exact kk κ F2 Ar2 x (hκ.mono (by omega)) hI2
set_option maxHeartbeats 4000000 in
theorem cs_scrap {κ : vK} {la : Array Slot} {b n i k : Nat} {xs : Nat → Int32} {F : vFt} {Ar : vAt} {x : vXt} (hκ : jwC κ la b n xs i k) (hn : n ≤ 3072) (hi : i + 6 ≤ n) (hk : k ≤ 3072) (hI : IX F Ar x) (kk : ∀ κ' F' Ar' x', jwC κ' la b n xs i (k + 1) → IX F' Ar' x' → Jw κ' la 1028 [] F' Ar' x') : Jw κ la 167 [] F Ar x := by
  obtain ⟨Q5, h5, hq5⟩ := st_scrap  hI
  refine Jw_a1 (q := 168) hκ dL_law_167 rfl ?_
  refine Jw_call (o := 0) (rest := []) (q := 171) [] h5 hκ (by decide) gX5_scrap kl_L_18 ki_X5_scrap ks_X5_scrap (by decide) rfl rfl (Nat.le_of_ble_eq_true rfl) dL_law_168 rfl (fun r F1 Ar1 h => ?_)
  obtain ⟨v, rfl, Q6, h6, hq6⟩ := hq5 r F1 Ar1 h
  show Jw κ la 171 [.int v] F1 Ar1 x
  refine Jw_a2 (q := 172) hκ dL_law_171 rfl ?_
  refine Jw_call (o := 6) (rest := [.int v]) (q := 175) [] h6 hκ (by decide) gX6_scrap kl_L_22 ki_X6_scrap ks_X6_scrap (by decide) rfl rfl (Nat.le_of_ble_eq_true rfl) dL_law_172 rfl (fun r F2 Ar2 h => ?_)
  obtain ⟨rfl, hI2⟩ := hq6 r F2 Ar2 h
  show Jw κ la 175 [.int v, .int v] F2 Ar2 x
  refine Jw_eq (tgt := 1028) dL_law_175 (by decide) ?_
  exact kk κ F2 Ar2 x (hκ.mono (by omega)) hI2
set_option maxHeartbeats 4000000 in
theorem cs_act {κ : vK} {la : Array Slot} {b n i k : Nat} {xs : Nat → Int32} {F : vFt} {Ar : vAt} {x : vXt} (hκ : jwC κ la b n xs i k) (hn : n ≤ 3072) (hi : i + 6 ≤ n) (hk : k ≤ 3072) (hI : IX F Ar x) (kk : ∀ κ' F' Ar' x', jwC κ' la b n xs i (k + 1) → IX F' Ar' x' → Jw κ' la 1028 [] F' Ar' x') : Jw κ la 180 [] F Ar x := by
  obtain ⟨Q5, h5, hq5⟩ := st_act (day := (xs (i + 1))) hI
  refine Jw_a1 (q := 181) hκ dL_law_180 rfl ?_
  refine Jw_rd (j := 1) (q := 186) hκ hn (by omega) (by decide) dL_law_181 dL_law_182 dL_law_183 dL_law_184 dL_law_185 rfl ?_
  refine Jw_call (o := 0) (rest := []) (q := 189) [.int (xs (i + 1))] h5 hκ (by decide) gX5_act kl_L_23 ki_X5_act ks_X5_act (by decide) rfl rfl (Nat.le_of_ble_eq_true rfl) dL_law_186 rfl (fun r F1 Ar1 h => ?_)
  obtain ⟨v, rfl, Q6, h6, hq6⟩ := hq5 r F1 Ar1 h
  show Jw κ la 189 [.int v] F1 Ar1 x
  refine Jw_a2 (q := 190) hκ dL_law_189 rfl ?_
  refine Jw_rd (j := 1) (q := 195) hκ hn (by omega) (by decide) dL_law_190 dL_law_191 dL_law_192 dL_law_193 dL_law_194 rfl ?_
  refine Jw_call (o := 6) (rest := [.int v]) (q := 198) [.int (xs (i + 1))] h6 hκ (by decide) gX6_act kl_L_26 ki_X6_act ks_X6_act (by decide) rfl rfl (Nat.le_of_ble_eq_true rfl) dL_law_195 rfl (fun r F2 Ar2 h => ?_)
  obtain ⟨rfl, hI2⟩ := hq6 r F2 Ar2 h
  show Jw κ la 198 [.int v, .int v] F2 Ar2 x
  refine Jw_eq (tgt := 1028) dL_law_198 (by decide) ?_
  exact kk κ F2 Ar2 x (hκ.mono (by omega)) hI2
set_option maxHeartbeats 4000000 in
theorem cs_inForce {κ : vK} {la : Array Slot} {b n i k : Nat} {xs : Nat → Int32} {F : vFt} {Ar : vAt} {x : vXt} (hκ : jwC κ la b n xs i k) (hn : n ≤ 3072) (hi : i + 6 ≤ n) (hk : k ≤ 3072) (hI : IX F Ar x) (kk : ∀ κ' F' Ar' x', jwC κ' la b n xs i (k + 1) → IX F' Ar' x' → Jw κ' la 1028 [] F' Ar' x') : Jw κ la 203 [] F Ar x := by
  obtain ⟨Q5, h5, hq5⟩ := st_inForce (day := (xs (i + 1))) hI
  refine Jw_a1 (q := 204) hκ dL_law_203 rfl ?_
  refine Jw_rd (j := 1) (q := 209) hκ hn (by omega) (by decide) dL_law_204 dL_law_205 dL_law_206 dL_law_207 dL_law_208 rfl ?_
  refine Jw_call (o := 0) (rest := []) (q := 212) [.int (xs (i + 1))] h5 hκ (by decide) gX5_inForce kl_L_27 ki_X5_inForce ks_X5_inForce (by decide) rfl rfl (Nat.le_of_ble_eq_true rfl) dL_law_209 rfl (fun r F1 Ar1 h => ?_)
  obtain ⟨v, rfl, Q6, h6, hq6⟩ := hq5 r F1 Ar1 h
  show Jw κ la 212 [.int v] F1 Ar1 x
  refine Jw_a2 (q := 213) hκ dL_law_212 rfl ?_
  refine Jw_rd (j := 1) (q := 218) hκ hn (by omega) (by decide) dL_law_213 dL_law_214 dL_law_215 dL_law_216 dL_law_217 rfl ?_
  refine Jw_call (o := 6) (rest := [.int v]) (q := 221) [.int (xs (i + 1))] h6 hκ (by decide) gX6_inForce kl_L_30 ki_X6_inForce ks_X6_inForce (by decide) rfl rfl (Nat.le_of_ble_eq_true rfl) dL_law_218 rfl (fun r F2 Ar2 h => ?_)
  obtain ⟨rfl, hI2⟩ := hq6 r F2 Ar2 h
  show Jw κ la 221 [.int v, .int v] F2 Ar2 x
  refine Jw_eq (tgt := 1028) dL_law_221 (by decide) ?_
  exact kk κ F2 Ar2 x (hκ.mono (by omega)) hI2
set_option maxHeartbeats 4000000 in
theorem cs_tons {κ : vK} {la : Array Slot} {b n i k : Nat} {xs : Nat → Int32} {F : vFt} {Ar : vAt} {x : vXt} (hκ : jwC κ la b n xs i k) (hn : n ≤ 3072) (hi : i + 6 ≤ n) (hk : k ≤ 3072) (hI : IX F Ar x) (kk : ∀ κ' F' Ar' x', jwC κ' la b n xs i (k + 1) → IX F' Ar' x' → Jw κ' la 1028 [] F' Ar' x') : Jw κ la 226 [] F Ar x := by
  obtain ⟨Q5, h5, hq5⟩ := st_tons (i := (xs (i + 1))) (l := (xs (i + 2))) (b := (xs (i + 3))) (d := (xs (i + 4))) (r := (xs (i + 5))) hI
  refine Jw_a1 (q := 227) hκ dL_law_226 rfl ?_
  refine Jw_rd (j := 1) (q := 232) hκ hn (by omega) (by decide) dL_law_227 dL_law_228 dL_law_229 dL_law_230 dL_law_231 rfl ?_
  refine Jw_rd (j := 2) (q := 237) hκ hn (by omega) (by decide) dL_law_232 dL_law_233 dL_law_234 dL_law_235 dL_law_236 rfl ?_
  refine Jw_rd (j := 3) (q := 242) hκ hn (by omega) (by decide) dL_law_237 dL_law_238 dL_law_239 dL_law_240 dL_law_241 rfl ?_
  refine Jw_rd (j := 4) (q := 247) hκ hn (by omega) (by decide) dL_law_242 dL_law_243 dL_law_244 dL_law_245 dL_law_246 rfl ?_
  refine Jw_rd (j := 5) (q := 252) hκ hn (by omega) (by decide) dL_law_247 dL_law_248 dL_law_249 dL_law_250 dL_law_251 rfl ?_
  refine Jw_call (o := 0) (rest := []) (q := 255) [.int (xs (i + 1)), .int (xs (i + 2)), .int (xs (i + 3)), .int (xs (i + 4)), .int (xs (i + 5))] h5 hκ (by decide) gX5_tons kl_L_31 ki_X5_tons ks_X5_tons (by decide) rfl rfl (Nat.le_of_ble_eq_true rfl) dL_law_252 rfl (fun r F1 Ar1 h => ?_)
  obtain ⟨v, rfl, Q6, h6, hq6⟩ := hq5 r F1 Ar1 h
  show Jw κ la 255 [.int v] F1 Ar1 x
  refine Jw_a2 (q := 256) hκ dL_law_255 rfl ?_
  refine Jw_rd (j := 1) (q := 261) hκ hn (by omega) (by decide) dL_law_256 dL_law_257 dL_law_258 dL_law_259 dL_law_260 rfl ?_
  refine Jw_rd (j := 2) (q := 266) hκ hn (by omega) (by decide) dL_law_261 dL_law_262 dL_law_263 dL_law_264 dL_law_265 rfl ?_
  refine Jw_rd (j := 3) (q := 271) hκ hn (by omega) (by decide) dL_law_266 dL_law_267 dL_law_268 dL_law_269 dL_law_270 rfl ?_
  refine Jw_rd (j := 4) (q := 276) hκ hn (by omega) (by decide) dL_law_271 dL_law_272 dL_law_273 dL_law_274 dL_law_275 rfl ?_
  refine Jw_rd (j := 5) (q := 281) hκ hn (by omega) (by decide) dL_law_276 dL_law_277 dL_law_278 dL_law_279 dL_law_280 rfl ?_
  refine Jw_call (o := 6) (rest := [.int v]) (q := 284) [.int (xs (i + 1)), .int (xs (i + 2)), .int (xs (i + 3)), .int (xs (i + 4)), .int (xs (i + 5))] h6 hκ (by decide) gX6_tons kl_L_35 ki_X6_tons ks_X6_tons (by decide) rfl rfl (Nat.le_of_ble_eq_true rfl) dL_law_281 rfl (fun r F2 Ar2 h => ?_)
  obtain ⟨rfl, hI2⟩ := hq6 r F2 Ar2 h
  show Jw κ la 284 [.int v, .int v] F2 Ar2 x
  refine Jw_eq (tgt := 1028) dL_law_284 (by decide) ?_
  exact kk κ F2 Ar2 x (hκ.mono (by omega)) hI2
set_option maxHeartbeats 4000000 in
theorem cs_shape {κ : vK} {la : Array Slot} {b n i k : Nat} {xs : Nat → Int32} {F : vFt} {Ar : vAt} {x : vXt} (hκ : jwC κ la b n xs i k) (hn : n ≤ 3072) (hi : i + 6 ≤ n) (hk : k ≤ 3072) (hI : IX F Ar x) (kk : ∀ κ' F' Ar' x', jwC κ' la b n xs i (k + 1) → IX F' Ar' x' → Jw κ' la 1028 [] F' Ar' x') : Jw κ la 289 [] F Ar x := by
  rcases st_shape (i := (xs (i + 1))) (cg := (xs (i + 2))) (w := (xs (i + 3))) hI with ⟨Q5, h5, hq5⟩ | ⟨Q5, h5, hq5⟩
  · refine Jw_a1 (q := 290) hκ dL_law_289 rfl ?_
    refine Jw_rd (j := 1) (q := 295) hκ hn (by omega) (by decide) dL_law_290 dL_law_291 dL_law_292 dL_law_293 dL_law_294 rfl ?_
    refine Jw_rd (j := 2) (q := 300) hκ hn (by omega) (by decide) dL_law_295 dL_law_296 dL_law_297 dL_law_298 dL_law_299 rfl ?_
    refine Jw_rd (j := 3) (q := 305) hκ hn (by omega) (by decide) dL_law_300 dL_law_301 dL_law_302 dL_law_303 dL_law_304 rfl ?_
    refine Jw_call (o := 0) (rest := []) (q := 308) [.int (xs (i + 1)), .int (xs (i + 2)), .int (xs (i + 3))] h5 hκ (by decide) gX5_shape kl_L_36 ki_X5_shape ks_X5_shape (by decide) rfl rfl (Nat.le_of_ble_eq_true rfl) dL_law_305 rfl (fun r F1 Ar1 h => ?_)
    obtain ⟨v, rfl, Q6, h6, hq6⟩ := hq5 r F1 Ar1 h
    show Jw κ la 308 [.int v] F1 Ar1 x
    refine Jw_a2 (q := 309) hκ dL_law_308 rfl ?_
    refine Jw_rd (j := 1) (q := 314) hκ hn (by omega) (by decide) dL_law_309 dL_law_310 dL_law_311 dL_law_312 dL_law_313 rfl ?_
    refine Jw_rd (j := 2) (q := 319) hκ hn (by omega) (by decide) dL_law_314 dL_law_315 dL_law_316 dL_law_317 dL_law_318 rfl ?_
    refine Jw_rd (j := 3) (q := 324) hκ hn (by omega) (by decide) dL_law_319 dL_law_320 dL_law_321 dL_law_322 dL_law_323 rfl ?_
    refine Jw_call (o := 6) (rest := [.int v]) (q := 327) [.int (xs (i + 1)), .int (xs (i + 2)), .int (xs (i + 3))] h6 hκ (by decide) gX6_shape kl_L_40 ki_X6_shape ks_X6_shape (by decide) rfl rfl (Nat.le_of_ble_eq_true rfl) dL_law_324 rfl (fun r F2 Ar2 h => ?_)
    obtain ⟨rfl, hI2⟩ := hq6 r F2 Ar2 h
    show Jw κ la 327 [.int v, .int v] F2 Ar2 x
    refine Jw_eq (tgt := 1028) dL_law_327 (by decide) ?_
    exact kk κ F2 Ar2 x (hκ.mono (by omega)) hI2
  · refine Jw_a1 (q := 290) hκ dL_law_289 rfl ?_
    refine Jw_rd (j := 1) (q := 295) hκ hn (by omega) (by decide) dL_law_290 dL_law_291 dL_law_292 dL_law_293 dL_law_294 rfl ?_
    refine Jw_rd (j := 2) (q := 300) hκ hn (by omega) (by decide) dL_law_295 dL_law_296 dL_law_297 dL_law_298 dL_law_299 rfl ?_
    refine Jw_rd (j := 3) (q := 305) hκ hn (by omega) (by decide) dL_law_300 dL_law_301 dL_law_302 dL_law_303 dL_law_304 rfl ?_
    refine Jw_callA (o := 0) (q := 308) [.int (xs (i + 1)), .int (xs (i + 2)), .int (xs (i + 3))] h5 hκ hk (by decide) gX5_shape kl_L_36 ki_X5_shape ks_X5_shape (by decide) rfl rfl dL_law_305 rfl (fun κ1 hκ1 r F1 Ar1 x1 h => ?_)
    obtain ⟨v, rfl, -, Q6, h6, hq6⟩ := hq5 r F1 Ar1 x1 h
    show Jw κ1 la 308 [.int v] F1 Ar1 x1
    refine Jw_a2 (q := 309) hκ1 dL_law_308 rfl ?_
    refine Jw_rd (j := 1) (q := 314) hκ1 hn (by omega) (by decide) dL_law_309 dL_law_310 dL_law_311 dL_law_312 dL_law_313 rfl ?_
    refine Jw_rd (j := 2) (q := 319) hκ1 hn (by omega) (by decide) dL_law_314 dL_law_315 dL_law_316 dL_law_317 dL_law_318 rfl ?_
    refine Jw_rd (j := 3) (q := 324) hκ1 hn (by omega) (by decide) dL_law_319 dL_law_320 dL_law_321 dL_law_322 dL_law_323 rfl ?_
    refine Jw_call (o := 6) (rest := [.int v]) (q := 327) [.int (xs (i + 1)), .int (xs (i + 2)), .int (xs (i + 3))] h6 hκ1 (by decide) gX6_shape kl_L_40 ki_X6_shape ks_X6_shape (by decide) rfl rfl (Nat.le_of_ble_eq_true rfl) dL_law_324 rfl (fun r F2 Ar2 h => ?_)
    obtain ⟨rfl, hI2⟩ := hq6 r F2 Ar2 h
    show Jw κ1 la 327 [.int v, .int v] F2 Ar2 x1
    refine Jw_eq (tgt := 1028) dL_law_327 (by decide) ?_
    exact kk κ1 F2 Ar2 x1 hκ1 hI2
set_option maxHeartbeats 4000000 in
theorem cs_hull {κ : vK} {la : Array Slot} {b n i k : Nat} {xs : Nat → Int32} {F : vFt} {Ar : vAt} {x : vXt} (hκ : jwC κ la b n xs i k) (hn : n ≤ 3072) (hi : i + 6 ≤ n) (hk : k ≤ 3072) (hI : IX F Ar x) (kk : ∀ κ' F' Ar' x', jwC κ' la b n xs i (k + 1) → IX F' Ar' x' → Jw κ' la 1028 [] F' Ar' x') : Jw κ la 332 [] F Ar x := by
  obtain ⟨Q5, h5, hq5⟩ := st_hull (l := (xs (i + 1))) (b := (xs (i + 2))) (d := (xs (i + 3))) (r := (xs (i + 4))) hI
  refine Jw_a1 (q := 333) hκ dL_law_332 rfl ?_
  refine Jw_rd (j := 1) (q := 338) hκ hn (by omega) (by decide) dL_law_333 dL_law_334 dL_law_335 dL_law_336 dL_law_337 rfl ?_
  refine Jw_rd (j := 2) (q := 343) hκ hn (by omega) (by decide) dL_law_338 dL_law_339 dL_law_340 dL_law_341 dL_law_342 rfl ?_
  refine Jw_rd (j := 3) (q := 348) hκ hn (by omega) (by decide) dL_law_343 dL_law_344 dL_law_345 dL_law_346 dL_law_347 rfl ?_
  refine Jw_rd (j := 4) (q := 353) hκ hn (by omega) (by decide) dL_law_348 dL_law_349 dL_law_350 dL_law_351 dL_law_352 rfl ?_
  refine Jw_call (o := 0) (rest := []) (q := 356) [.int (xs (i + 1)), .int (xs (i + 2)), .int (xs (i + 3)), .int (xs (i + 4))] h5 hκ (by decide) gX5_hull kl_L_41 ki_X5_hull ks_X5_hull (by decide) rfl rfl (Nat.le_of_ble_eq_true rfl) dL_law_353 rfl (fun r F1 Ar1 h => ?_)
  obtain ⟨v, rfl, Q6, h6, hq6⟩ := hq5 r F1 Ar1 h
  show Jw κ la 356 [.int v] F1 Ar1 x
  refine Jw_a2 (q := 357) hκ dL_law_356 rfl ?_
  refine Jw_rd (j := 1) (q := 362) hκ hn (by omega) (by decide) dL_law_357 dL_law_358 dL_law_359 dL_law_360 dL_law_361 rfl ?_
  refine Jw_rd (j := 2) (q := 367) hκ hn (by omega) (by decide) dL_law_362 dL_law_363 dL_law_364 dL_law_365 dL_law_366 rfl ?_
  refine Jw_rd (j := 3) (q := 372) hκ hn (by omega) (by decide) dL_law_367 dL_law_368 dL_law_369 dL_law_370 dL_law_371 rfl ?_
  refine Jw_rd (j := 4) (q := 377) hκ hn (by omega) (by decide) dL_law_372 dL_law_373 dL_law_374 dL_law_375 dL_law_376 rfl ?_
  refine Jw_call (o := 6) (rest := [.int v]) (q := 380) [.int (xs (i + 1)), .int (xs (i + 2)), .int (xs (i + 3)), .int (xs (i + 4))] h6 hκ (by decide) gX6_hull kl_L_45 ki_X6_hull ks_X6_hull (by decide) rfl rfl (Nat.le_of_ble_eq_true rfl) dL_law_377 rfl (fun r F2 Ar2 h => ?_)
  obtain ⟨rfl, hI2⟩ := hq6 r F2 Ar2 h
  show Jw κ la 380 [.int v, .int v] F2 Ar2 x
  refine Jw_eq (tgt := 1028) dL_law_380 (by decide) ?_
  exact kk κ F2 Ar2 x (hκ.mono (by omega)) hI2
set_option maxHeartbeats 4000000 in
theorem cs_alter {κ : vK} {la : Array Slot} {b n i k : Nat} {xs : Nat → Int32} {F : vFt} {Ar : vAt} {x : vXt} (hκ : jwC κ la b n xs i k) (hn : n ≤ 3072) (hi : i + 6 ≤ n) (hk : k ≤ 3072) (hI : IX F Ar x) (kk : ∀ κ' F' Ar' x', jwC κ' la b n xs i (k + 1) → IX F' Ar' x' → Jw κ' la 1028 [] F' Ar' x') : Jw κ la 385 [] F Ar x := by
  obtain ⟨Q5, h5, hq5⟩ := st_alter (i := (xs (i + 1))) (l := (xs (i + 2))) (b := (xs (i + 3))) (d := (xs (i + 4))) (r := (xs (i + 5))) hI
  refine Jw_a1 (q := 386) hκ dL_law_385 rfl ?_
  refine Jw_rd (j := 1) (q := 391) hκ hn (by omega) (by decide) dL_law_386 dL_law_387 dL_law_388 dL_law_389 dL_law_390 rfl ?_
  refine Jw_rd (j := 2) (q := 396) hκ hn (by omega) (by decide) dL_law_391 dL_law_392 dL_law_393 dL_law_394 dL_law_395 rfl ?_
  refine Jw_rd (j := 3) (q := 401) hκ hn (by omega) (by decide) dL_law_396 dL_law_397 dL_law_398 dL_law_399 dL_law_400 rfl ?_
  refine Jw_rd (j := 4) (q := 406) hκ hn (by omega) (by decide) dL_law_401 dL_law_402 dL_law_403 dL_law_404 dL_law_405 rfl ?_
  refine Jw_rd (j := 5) (q := 411) hκ hn (by omega) (by decide) dL_law_406 dL_law_407 dL_law_408 dL_law_409 dL_law_410 rfl ?_
  refine Jw_call (o := 0) (rest := []) (q := 414) [.int (xs (i + 1)), .int (xs (i + 2)), .int (xs (i + 3)), .int (xs (i + 4)), .int (xs (i + 5))] h5 hκ (by decide) gX5_alter kl_L_46 ki_X5_alter ks_X5_alter (by decide) rfl rfl (Nat.le_of_ble_eq_true rfl) dL_law_411 rfl (fun r F1 Ar1 h => ?_)
  obtain ⟨v, rfl, Q6, h6, hq6⟩ := hq5 r F1 Ar1 h
  show Jw κ la 414 [.int v] F1 Ar1 x
  refine Jw_a2 (q := 415) hκ dL_law_414 rfl ?_
  refine Jw_rd (j := 1) (q := 420) hκ hn (by omega) (by decide) dL_law_415 dL_law_416 dL_law_417 dL_law_418 dL_law_419 rfl ?_
  refine Jw_rd (j := 2) (q := 425) hκ hn (by omega) (by decide) dL_law_420 dL_law_421 dL_law_422 dL_law_423 dL_law_424 rfl ?_
  refine Jw_rd (j := 3) (q := 430) hκ hn (by omega) (by decide) dL_law_425 dL_law_426 dL_law_427 dL_law_428 dL_law_429 rfl ?_
  refine Jw_rd (j := 4) (q := 435) hκ hn (by omega) (by decide) dL_law_430 dL_law_431 dL_law_432 dL_law_433 dL_law_434 rfl ?_
  refine Jw_rd (j := 5) (q := 440) hκ hn (by omega) (by decide) dL_law_435 dL_law_436 dL_law_437 dL_law_438 dL_law_439 rfl ?_
  refine Jw_call (o := 6) (rest := [.int v]) (q := 443) [.int (xs (i + 1)), .int (xs (i + 2)), .int (xs (i + 3)), .int (xs (i + 4)), .int (xs (i + 5))] h6 hκ (by decide) gX6_alter kl_L_49 ki_X6_alter ks_X6_alter (by decide) rfl rfl (Nat.le_of_ble_eq_true rfl) dL_law_440 rfl (fun r F2 Ar2 h => ?_)
  obtain ⟨rfl, hI2⟩ := hq6 r F2 Ar2 h
  show Jw κ la 443 [.int v, .int v] F2 Ar2 x
  refine Jw_eq (tgt := 1028) dL_law_443 (by decide) ?_
  exact kk κ F2 Ar2 x (hκ.mono (by omega)) hI2
set_option maxHeartbeats 4000000 in
theorem cs_measure {κ : vK} {la : Array Slot} {b n i k : Nat} {xs : Nat → Int32} {F : vFt} {Ar : vAt} {x : vXt} (hκ : jwC κ la b n xs i k) (hn : n ≤ 3072) (hi : i + 6 ≤ n) (hk : k ≤ 3072) (hI : IX F Ar x) (kk : ∀ κ' F' Ar' x', jwC κ' la b n xs i (k + 1) → IX F' Ar' x' → Jw κ' la 1028 [] F' Ar' x') : Jw κ la 448 [] F Ar x := by
  obtain ⟨Q5, h5, hq5⟩ := st_measure (i := (xs (i + 1))) (day := (xs (i + 2))) hI
  refine Jw_a1 (q := 449) hκ dL_law_448 rfl ?_
  refine Jw_rd (j := 1) (q := 454) hκ hn (by omega) (by decide) dL_law_449 dL_law_450 dL_law_451 dL_law_452 dL_law_453 rfl ?_
  refine Jw_rd (j := 2) (q := 459) hκ hn (by omega) (by decide) dL_law_454 dL_law_455 dL_law_456 dL_law_457 dL_law_458 rfl ?_
  refine Jw_call (o := 0) (rest := []) (q := 462) [.int (xs (i + 1)), .int (xs (i + 2))] h5 hκ (by decide) gX5_measure kl_L_50 ki_X5_measure ks_X5_measure (by decide) rfl rfl (Nat.le_of_ble_eq_true rfl) dL_law_459 rfl (fun r F1 Ar1 h => ?_)
  obtain ⟨v, rfl, Q6, h6, hq6⟩ := hq5 r F1 Ar1 h
  show Jw κ la 462 [.int v] F1 Ar1 x
  refine Jw_a2 (q := 463) hκ dL_law_462 rfl ?_
  refine Jw_rd (j := 1) (q := 468) hκ hn (by omega) (by decide) dL_law_463 dL_law_464 dL_law_465 dL_law_466 dL_law_467 rfl ?_
  refine Jw_rd (j := 2) (q := 473) hκ hn (by omega) (by decide) dL_law_468 dL_law_469 dL_law_470 dL_law_471 dL_law_472 rfl ?_
  refine Jw_call (o := 6) (rest := [.int v]) (q := 476) [.int (xs (i + 1)), .int (xs (i + 2))] h6 hκ (by decide) gX6_measure kl_L_54 ki_X6_measure ks_X6_measure (by decide) rfl rfl (Nat.le_of_ble_eq_true rfl) dL_law_473 rfl (fun r F2 Ar2 h => ?_)
  obtain ⟨rfl, hI2⟩ := hq6 r F2 Ar2 h
  show Jw κ la 476 [.int v, .int v] F2 Ar2 x
  refine Jw_eq (tgt := 1028) dL_law_476 (by decide) ?_
  exact kk κ F2 Ar2 x (hκ.mono (by omega)) hI2
set_option maxHeartbeats 4000000 in
theorem cs_of {κ : vK} {la : Array Slot} {b n i k : Nat} {xs : Nat → Int32} {F : vFt} {Ar : vAt} {x : vXt} (hκ : jwC κ la b n xs i k) (hn : n ≤ 3072) (hi : i + 6 ≤ n) (hk : k ≤ 3072) (hI : IX F Ar x) (kk : ∀ κ' F' Ar' x', jwC κ' la b n xs i (k + 1) → IX F' Ar' x' → Jw κ' la 1028 [] F' Ar' x') : Jw κ la 481 [] F Ar x := by
  obtain ⟨Q5, h5, hq5⟩ := st_of (i := (xs (i + 1))) (w := (xs (i + 2))) hI
  refine Jw_a1 (q := 482) hκ dL_law_481 rfl ?_
  refine Jw_rd (j := 1) (q := 487) hκ hn (by omega) (by decide) dL_law_482 dL_law_483 dL_law_484 dL_law_485 dL_law_486 rfl ?_
  refine Jw_rd (j := 2) (q := 492) hκ hn (by omega) (by decide) dL_law_487 dL_law_488 dL_law_489 dL_law_490 dL_law_491 rfl ?_
  refine Jw_call (o := 0) (rest := []) (q := 495) [.int (xs (i + 1)), .int (xs (i + 2))] h5 hκ (by decide) gX5_of kl_L_55 ki_X5_of ks_X5_of (by decide) rfl rfl (Nat.le_of_ble_eq_true rfl) dL_law_492 rfl (fun r F1 Ar1 h => ?_)
  obtain ⟨v, rfl, Q6, h6, hq6⟩ := hq5 r F1 Ar1 h
  show Jw κ la 495 [.int v] F1 Ar1 x
  refine Jw_a2 (q := 496) hκ dL_law_495 rfl ?_
  refine Jw_rd (j := 1) (q := 501) hκ hn (by omega) (by decide) dL_law_496 dL_law_497 dL_law_498 dL_law_499 dL_law_500 rfl ?_
  refine Jw_rd (j := 2) (q := 506) hκ hn (by omega) (by decide) dL_law_501 dL_law_502 dL_law_503 dL_law_504 dL_law_505 rfl ?_
  refine Jw_call (o := 6) (rest := [.int v]) (q := 509) [.int (xs (i + 1)), .int (xs (i + 2))] h6 hκ (by decide) gX6_of kl_L_58 ki_X6_of ks_X6_of (by decide) rfl rfl (Nat.le_of_ble_eq_true rfl) dL_law_506 rfl (fun r F2 Ar2 h => ?_)
  obtain ⟨rfl, hI2⟩ := hq6 r F2 Ar2 h
  show Jw κ la 509 [.int v, .int v] F2 Ar2 x
  refine Jw_eq (tgt := 1028) dL_law_509 (by decide) ?_
  exact kk κ F2 Ar2 x (hκ.mono (by omega)) hI2
set_option maxHeartbeats 4000000 in
theorem cs_sell {κ : vK} {la : Array Slot} {b n i k : Nat} {xs : Nat → Int32} {F : vFt} {Ar : vAt} {x : vXt} (hκ : jwC κ la b n xs i k) (hn : n ≤ 3072) (hi : i + 6 ≤ n) (hk : k ≤ 3072) (hI : IX F Ar x) (kk : ∀ κ' F' Ar' x', jwC κ' la b n xs i (k + 1) → IX F' Ar' x' → Jw κ' la 1028 [] F' Ar' x') : Jw κ la 514 [] F Ar x := by
  obtain ⟨Q5, h5, hq5⟩ := st_sell (h := (xs (i + 1))) (a := (xs (i + 2))) (b := (xs (i + 3))) (k := (xs (i + 4))) hI
  refine Jw_a1 (q := 515) hκ dL_law_514 rfl ?_
  refine Jw_rd (j := 1) (q := 520) hκ hn (by omega) (by decide) dL_law_515 dL_law_516 dL_law_517 dL_law_518 dL_law_519 rfl ?_
  refine Jw_rd (j := 2) (q := 525) hκ hn (by omega) (by decide) dL_law_520 dL_law_521 dL_law_522 dL_law_523 dL_law_524 rfl ?_
  refine Jw_rd (j := 3) (q := 530) hκ hn (by omega) (by decide) dL_law_525 dL_law_526 dL_law_527 dL_law_528 dL_law_529 rfl ?_
  refine Jw_rd (j := 4) (q := 535) hκ hn (by omega) (by decide) dL_law_530 dL_law_531 dL_law_532 dL_law_533 dL_law_534 rfl ?_
  refine Jw_call (o := 0) (rest := []) (q := 538) [.int (xs (i + 1)), .int (xs (i + 2)), .int (xs (i + 3)), .int (xs (i + 4))] h5 hκ (by decide) gX5_sell kl_L_59 ki_X5_sell ks_X5_sell (by decide) rfl rfl (Nat.le_of_ble_eq_true rfl) dL_law_535 rfl (fun r F1 Ar1 h => ?_)
  obtain ⟨v, rfl, Q6, h6, hq6⟩ := hq5 r F1 Ar1 h
  show Jw κ la 538 [.int v] F1 Ar1 x
  refine Jw_a2 (q := 539) hκ dL_law_538 rfl ?_
  refine Jw_rd (j := 1) (q := 544) hκ hn (by omega) (by decide) dL_law_539 dL_law_540 dL_law_541 dL_law_542 dL_law_543 rfl ?_
  refine Jw_rd (j := 2) (q := 549) hκ hn (by omega) (by decide) dL_law_544 dL_law_545 dL_law_546 dL_law_547 dL_law_548 rfl ?_
  refine Jw_rd (j := 3) (q := 554) hκ hn (by omega) (by decide) dL_law_549 dL_law_550 dL_law_551 dL_law_552 dL_law_553 rfl ?_
  refine Jw_rd (j := 4) (q := 559) hκ hn (by omega) (by decide) dL_law_554 dL_law_555 dL_law_556 dL_law_557 dL_law_558 rfl ?_
  refine Jw_call (o := 6) (rest := [.int v]) (q := 562) [.int (xs (i + 1)), .int (xs (i + 2)), .int (xs (i + 3)), .int (xs (i + 4))] h6 hκ (by decide) gX6_sell kl_L_62 ki_X6_sell ks_X6_sell (by decide) rfl rfl (Nat.le_of_ble_eq_true rfl) dL_law_559 rfl (fun r F2 Ar2 h => ?_)
  obtain ⟨rfl, hI2⟩ := hq6 r F2 Ar2 h
  show Jw κ la 562 [.int v, .int v] F2 Ar2 x
  refine Jw_eq (tgt := 1028) dL_law_562 (by decide) ?_
  exact kk κ F2 Ar2 x (hκ.mono (by omega)) hI2
set_option maxHeartbeats 4000000 in
theorem cs_pledge {κ : vK} {la : Array Slot} {b n i k : Nat} {xs : Nat → Int32} {F : vFt} {Ar : vAt} {x : vXt} (hκ : jwC κ la b n xs i k) (hn : n ≤ 3072) (hi : i + 6 ≤ n) (hk : k ≤ 3072) (hI : IX F Ar x) (kk : ∀ κ' F' Ar' x', jwC κ' la b n xs i (k + 1) → IX F' Ar' x' → Jw κ' la 1028 [] F' Ar' x') : Jw κ la 567 [] F Ar x := by
  obtain ⟨Q5, h5, hq5⟩ := st_pledge (h := (xs (i + 1))) (a := (xs (i + 2))) (b := (xs (i + 3))) (k := (xs (i + 4))) hI
  refine Jw_a1 (q := 568) hκ dL_law_567 rfl ?_
  refine Jw_rd (j := 1) (q := 573) hκ hn (by omega) (by decide) dL_law_568 dL_law_569 dL_law_570 dL_law_571 dL_law_572 rfl ?_
  refine Jw_rd (j := 2) (q := 578) hκ hn (by omega) (by decide) dL_law_573 dL_law_574 dL_law_575 dL_law_576 dL_law_577 rfl ?_
  refine Jw_rd (j := 3) (q := 583) hκ hn (by omega) (by decide) dL_law_578 dL_law_579 dL_law_580 dL_law_581 dL_law_582 rfl ?_
  refine Jw_rd (j := 4) (q := 588) hκ hn (by omega) (by decide) dL_law_583 dL_law_584 dL_law_585 dL_law_586 dL_law_587 rfl ?_
  refine Jw_call (o := 0) (rest := []) (q := 591) [.int (xs (i + 1)), .int (xs (i + 2)), .int (xs (i + 3)), .int (xs (i + 4))] h5 hκ (by decide) gX5_pledge kl_L_63 ki_X5_pledge ks_X5_pledge (by decide) rfl rfl (Nat.le_of_ble_eq_true rfl) dL_law_588 rfl (fun r F1 Ar1 h => ?_)
  obtain ⟨v, rfl, Q6, h6, hq6⟩ := hq5 r F1 Ar1 h
  show Jw κ la 591 [.int v] F1 Ar1 x
  refine Jw_a2 (q := 592) hκ dL_law_591 rfl ?_
  refine Jw_rd (j := 1) (q := 597) hκ hn (by omega) (by decide) dL_law_592 dL_law_593 dL_law_594 dL_law_595 dL_law_596 rfl ?_
  refine Jw_rd (j := 2) (q := 602) hκ hn (by omega) (by decide) dL_law_597 dL_law_598 dL_law_599 dL_law_600 dL_law_601 rfl ?_
  refine Jw_rd (j := 3) (q := 607) hκ hn (by omega) (by decide) dL_law_602 dL_law_603 dL_law_604 dL_law_605 dL_law_606 rfl ?_
  refine Jw_rd (j := 4) (q := 612) hκ hn (by omega) (by decide) dL_law_607 dL_law_608 dL_law_609 dL_law_610 dL_law_611 rfl ?_
  refine Jw_call (o := 6) (rest := [.int v]) (q := 615) [.int (xs (i + 1)), .int (xs (i + 2)), .int (xs (i + 3)), .int (xs (i + 4))] h6 hκ (by decide) gX6_pledge kl_L_66 ki_X6_pledge ks_X6_pledge (by decide) rfl rfl (Nat.le_of_ble_eq_true rfl) dL_law_612 rfl (fun r F2 Ar2 h => ?_)
  obtain ⟨rfl, hI2⟩ := hq6 r F2 Ar2 h
  show Jw κ la 615 [.int v, .int v] F2 Ar2 x
  refine Jw_eq (tgt := 1028) dL_law_615 (by decide) ?_
  exact kk κ F2 Ar2 x (hκ.mono (by omega)) hI2
set_option maxHeartbeats 4000000 in
theorem cs_redeem {κ : vK} {la : Array Slot} {b n i k : Nat} {xs : Nat → Int32} {F : vFt} {Ar : vAt} {x : vXt} (hκ : jwC κ la b n xs i k) (hn : n ≤ 3072) (hi : i + 6 ≤ n) (hk : k ≤ 3072) (hI : IX F Ar x) (kk : ∀ κ' F' Ar' x', jwC κ' la b n xs i (k + 1) → IX F' Ar' x' → Jw κ' la 1028 [] F' Ar' x') : Jw κ la 620 [] F Ar x := by
  obtain ⟨Q5, h5, hq5⟩ := st_redeem (i := (xs (i + 1))) hI
  refine Jw_a1 (q := 621) hκ dL_law_620 rfl ?_
  refine Jw_rd (j := 1) (q := 626) hκ hn (by omega) (by decide) dL_law_621 dL_law_622 dL_law_623 dL_law_624 dL_law_625 rfl ?_
  refine Jw_call (o := 0) (rest := []) (q := 629) [.int (xs (i + 1))] h5 hκ (by decide) gX5_redeem kl_L_67 ki_X5_redeem ks_X5_redeem (by decide) rfl rfl (Nat.le_of_ble_eq_true rfl) dL_law_626 rfl (fun r F1 Ar1 h => ?_)
  obtain ⟨v, rfl, Q6, h6, hq6⟩ := hq5 r F1 Ar1 h
  show Jw κ la 629 [.int v] F1 Ar1 x
  refine Jw_a2 (q := 630) hκ dL_law_629 rfl ?_
  refine Jw_rd (j := 1) (q := 635) hκ hn (by omega) (by decide) dL_law_630 dL_law_631 dL_law_632 dL_law_633 dL_law_634 rfl ?_
  refine Jw_call (o := 6) (rest := [.int v]) (q := 638) [.int (xs (i + 1))] h6 hκ (by decide) gX6_redeem kl_L_70 ki_X6_redeem ks_X6_redeem (by decide) rfl rfl (Nat.le_of_ble_eq_true rfl) dL_law_635 rfl (fun r F2 Ar2 h => ?_)
  obtain ⟨rfl, hI2⟩ := hq6 r F2 Ar2 h
  show Jw κ la 638 [.int v, .int v] F2 Ar2 x
  refine Jw_eq (tgt := 1028) dL_law_638 (by decide) ?_
  exact kk κ F2 Ar2 x (hκ.mono (by omega)) hI2
set_option maxHeartbeats 4000000 in
theorem cs_forge {κ : vK} {la : Array Slot} {b n i k : Nat} {xs : Nat → Int32} {F : vFt} {Ar : vAt} {x : vXt} (hκ : jwC κ la b n xs i k) (hn : n ≤ 3072) (hi : i + 6 ≤ n) (hk : k ≤ 3072) (hI : IX F Ar x) (kk : ∀ κ' F' Ar' x', jwC κ' la b n xs i (k + 1) → IX F' Ar' x' → Jw κ' la 1028 [] F' Ar' x') : Jw κ la 643 [] F Ar x := by
  obtain ⟨Q5, h5, hq5⟩ := st_forge (i := (xs (i + 1))) hI
  refine Jw_a1 (q := 644) hκ dL_law_643 rfl ?_
  refine Jw_rd (j := 1) (q := 649) hκ hn (by omega) (by decide) dL_law_644 dL_law_645 dL_law_646 dL_law_647 dL_law_648 rfl ?_
  refine Jw_call (o := 0) (rest := []) (q := 652) [.int (xs (i + 1))] h5 hκ (by decide) gX5_forge kl_L_71 ki_X5_forge ks_X5_forge (by decide) rfl rfl (Nat.le_of_ble_eq_true rfl) dL_law_649 rfl (fun r F1 Ar1 h => ?_)
  obtain ⟨v, rfl, Q6, h6, hq6⟩ := hq5 r F1 Ar1 h
  show Jw κ la 652 [.int v] F1 Ar1 x
  refine Jw_a2 (q := 653) hκ dL_law_652 rfl ?_
  refine Jw_rd (j := 1) (q := 658) hκ hn (by omega) (by decide) dL_law_653 dL_law_654 dL_law_655 dL_law_656 dL_law_657 rfl ?_
  refine Jw_call (o := 6) (rest := [.int v]) (q := 661) [.int (xs (i + 1))] h6 hκ (by decide) gX6_forge kl_L_74 ki_X6_forge ks_X6_forge (by decide) rfl rfl (Nat.le_of_ble_eq_true rfl) dL_law_658 rfl (fun r F2 Ar2 h => ?_)
  obtain ⟨rfl, hI2⟩ := hq6 r F2 Ar2 h
  show Jw κ la 661 [.int v, .int v] F2 Ar2 x
  refine Jw_eq (tgt := 1028) dL_law_661 (by decide) ?_
  exact kk κ F2 Ar2 x (hκ.mono (by omega)) hI2
set_option maxHeartbeats 4000000 in
theorem cs_entry {κ : vK} {la : Array Slot} {b n i k : Nat} {xs : Nat → Int32} {F : vFt} {Ar : vAt} {x : vXt} (hκ : jwC κ la b n xs i k) (hn : n ≤ 3072) (hi : i + 6 ≤ n) (hk : k ≤ 3072) (hI : IX F Ar x) (kk : ∀ κ' F' Ar' x', jwC κ' la b n xs i (k + 1) → IX F' Ar' x' → Jw κ' la 1028 [] F' Ar' x') : Jw κ la 666 [] F Ar x := by
  obtain ⟨Q5, h5, hq5⟩ := st_entry (i := (xs (i + 1))) (w := (xs (i + 2))) hI
  refine Jw_a1 (q := 667) hκ dL_law_666 rfl ?_
  refine Jw_rd (j := 1) (q := 672) hκ hn (by omega) (by decide) dL_law_667 dL_law_668 dL_law_669 dL_law_670 dL_law_671 rfl ?_
  refine Jw_rd (j := 2) (q := 677) hκ hn (by omega) (by decide) dL_law_672 dL_law_673 dL_law_674 dL_law_675 dL_law_676 rfl ?_
  refine Jw_call (o := 0) (rest := []) (q := 680) [.int (xs (i + 1)), .int (xs (i + 2))] h5 hκ (by decide) gX5_entry kl_L_75 ki_X5_entry ks_X5_entry (by decide) rfl rfl (Nat.le_of_ble_eq_true rfl) dL_law_677 rfl (fun r F1 Ar1 h => ?_)
  obtain ⟨v, rfl, Q6, h6, hq6⟩ := hq5 r F1 Ar1 h
  show Jw κ la 680 [.int v] F1 Ar1 x
  refine Jw_a2 (q := 681) hκ dL_law_680 rfl ?_
  refine Jw_rd (j := 1) (q := 686) hκ hn (by omega) (by decide) dL_law_681 dL_law_682 dL_law_683 dL_law_684 dL_law_685 rfl ?_
  refine Jw_rd (j := 2) (q := 691) hκ hn (by omega) (by decide) dL_law_686 dL_law_687 dL_law_688 dL_law_689 dL_law_690 rfl ?_
  refine Jw_call (o := 6) (rest := [.int v]) (q := 694) [.int (xs (i + 1)), .int (xs (i + 2))] h6 hκ (by decide) gX6_entry kl_L_78 ki_X6_entry ks_X6_entry (by decide) rfl rfl (Nat.le_of_ble_eq_true rfl) dL_law_691 rfl (fun r F2 Ar2 h => ?_)
  obtain ⟨rfl, hI2⟩ := hq6 r F2 Ar2 h
  show Jw κ la 694 [.int v, .int v] F2 Ar2 x
  refine Jw_eq (tgt := 1028) dL_law_694 (by decide) ?_
  exact kk κ F2 Ar2 x (hκ.mono (by omega)) hI2
set_option maxHeartbeats 4000000 in
theorem cs_parts {κ : vK} {la : Array Slot} {b n i k : Nat} {xs : Nat → Int32} {F : vFt} {Ar : vAt} {x : vXt} (hκ : jwC κ la b n xs i k) (hn : n ≤ 3072) (hi : i + 6 ≤ n) (hk : k ≤ 3072) (hI : IX F Ar x) (kk : ∀ κ' F' Ar' x', jwC κ' la b n xs i (k + 1) → IX F' Ar' x' → Jw κ' la 1028 [] F' Ar' x') : Jw κ la 699 [] F Ar x := by
  obtain ⟨Q5, h5, hq5⟩ := st_parts (i := (xs (i + 1))) (c := (xs (i + 2))) (fr := decide (¬ xs (i + 3) = 0)) hI
  refine Jw_a1 (q := 700) hκ dL_law_699 rfl ?_
  refine Jw_rd (j := 1) (q := 705) hκ hn (by omega) (by decide) dL_law_700 dL_law_701 dL_law_702 dL_law_703 dL_law_704 rfl ?_
  refine Jw_rd (j := 2) (q := 710) hκ hn (by omega) (by decide) dL_law_705 dL_law_706 dL_law_707 dL_law_708 dL_law_709 rfl ?_
  refine Jw_rd (j := 3) (q := 715) hκ hn (by omega) (by decide) dL_law_710 dL_law_711 dL_law_712 dL_law_713 dL_law_714 rfl ?_
  refine Jw_bool (q := 723) dL_law_715 dL_law_718 dL_law_719 dL_law_722 rfl ?_
  refine Jw_call (o := 0) (rest := []) (q := 726) [.int (xs (i + 1)), .int (xs (i + 2)), .int (if (decide (¬ xs (i + 3) = 0)) then 1 else 0)] h5 hκ (by decide) gX5_parts kl_L_79 ki_X5_parts ks_X5_parts (by decide) rfl rfl (Nat.le_of_ble_eq_true rfl) dL_law_723 rfl (fun r F1 Ar1 h => ?_)
  obtain ⟨v, rfl, Q6, h6, hq6⟩ := hq5 r F1 Ar1 h
  show Jw κ la 726 [.int v] F1 Ar1 x
  refine Jw_a2 (q := 727) hκ dL_law_726 rfl ?_
  refine Jw_rd (j := 1) (q := 732) hκ hn (by omega) (by decide) dL_law_727 dL_law_728 dL_law_729 dL_law_730 dL_law_731 rfl ?_
  refine Jw_rd (j := 2) (q := 737) hκ hn (by omega) (by decide) dL_law_732 dL_law_733 dL_law_734 dL_law_735 dL_law_736 rfl ?_
  refine Jw_rd (j := 3) (q := 742) hκ hn (by omega) (by decide) dL_law_737 dL_law_738 dL_law_739 dL_law_740 dL_law_741 rfl ?_
  refine Jw_bool (q := 750) dL_law_742 dL_law_745 dL_law_746 dL_law_749 rfl ?_
  refine Jw_call (o := 6) (rest := [.int v]) (q := 753) [.int (xs (i + 1)), .int (xs (i + 2)), .int (if (decide (¬ xs (i + 3) = 0)) then 1 else 0)] h6 hκ (by decide) gX6_parts kl_L_83 ki_X6_parts ks_X6_parts (by decide) rfl rfl (Nat.le_of_ble_eq_true rfl) dL_law_750 rfl (fun r F2 Ar2 h => ?_)
  obtain ⟨rfl, hI2⟩ := hq6 r F2 Ar2 h
  show Jw κ la 753 [.int v, .int v] F2 Ar2 x
  refine Jw_eq (tgt := 1028) dL_law_753 (by decide) ?_
  exact kk κ F2 Ar2 x (hκ.mono (by omega)) hI2
set_option maxHeartbeats 4000000 in
theorem cs_manager {κ : vK} {la : Array Slot} {b n i k : Nat} {xs : Nat → Int32} {F : vFt} {Ar : vAt} {x : vXt} (hκ : jwC κ la b n xs i k) (hn : n ≤ 3072) (hi : i + 6 ≤ n) (hk : k ≤ 3072) (hI : IX F Ar x) (kk : ∀ κ' F' Ar' x', jwC κ' la b n xs i (k + 1) → IX F' Ar' x' → Jw κ' la 1028 [] F' Ar' x') : Jw κ la 758 [] F Ar x := by
  obtain ⟨Q5, h5, hq5⟩ := st_manager (i := (xs (i + 1))) hI
  refine Jw_a1 (q := 759) hκ dL_law_758 rfl ?_
  refine Jw_rd (j := 1) (q := 764) hκ hn (by omega) (by decide) dL_law_759 dL_law_760 dL_law_761 dL_law_762 dL_law_763 rfl ?_
  refine Jw_call (o := 0) (rest := []) (q := 767) [.int (xs (i + 1))] h5 hκ (by decide) gX5_manager kl_L_84 ki_X5_manager ks_X5_manager (by decide) rfl rfl (Nat.le_of_ble_eq_true rfl) dL_law_764 rfl (fun r F1 Ar1 h => ?_)
  obtain ⟨v, rfl, Q6, h6, hq6⟩ := hq5 r F1 Ar1 h
  show Jw κ la 767 [.int v] F1 Ar1 x
  refine Jw_a2 (q := 768) hκ dL_law_767 rfl ?_
  refine Jw_rd (j := 1) (q := 773) hκ hn (by omega) (by decide) dL_law_768 dL_law_769 dL_law_770 dL_law_771 dL_law_772 rfl ?_
  refine Jw_call (o := 6) (rest := [.int v]) (q := 776) [.int (xs (i + 1))] h6 hκ (by decide) gX6_manager kl_L_87 ki_X6_manager ks_X6_manager (by decide) rfl rfl (Nat.le_of_ble_eq_true rfl) dL_law_773 rfl (fun r F2 Ar2 h => ?_)
  obtain ⟨rfl, hI2⟩ := hq6 r F2 Ar2 h
  show Jw κ la 776 [.int v, .int v] F2 Ar2 x
  refine Jw_eq (tgt := 1028) dL_law_776 (by decide) ?_
  exact kk κ F2 Ar2 x (hκ.mono (by omega)) hI2
set_option maxHeartbeats 4000000 in
theorem cs_held {κ : vK} {la : Array Slot} {b n i k : Nat} {xs : Nat → Int32} {F : vFt} {Ar : vAt} {x : vXt} (hκ : jwC κ la b n xs i k) (hn : n ≤ 3072) (hi : i + 6 ≤ n) (hk : k ≤ 3072) (hI : IX F Ar x) (kk : ∀ κ' F' Ar' x', jwC κ' la b n xs i (k + 1) → IX F' Ar' x' → Jw κ' la 1028 [] F' Ar' x') : Jw κ la 781 [] F Ar x := by
  obtain ⟨Q5, h5, hq5⟩ := st_held (i := (xs (i + 1))) (c := (xs (i + 2))) hI
  refine Jw_a1 (q := 782) hκ dL_law_781 rfl ?_
  refine Jw_rd (j := 1) (q := 787) hκ hn (by omega) (by decide) dL_law_782 dL_law_783 dL_law_784 dL_law_785 dL_law_786 rfl ?_
  refine Jw_rd (j := 2) (q := 792) hκ hn (by omega) (by decide) dL_law_787 dL_law_788 dL_law_789 dL_law_790 dL_law_791 rfl ?_
  refine Jw_call (o := 0) (rest := []) (q := 795) [.int (xs (i + 1)), .int (xs (i + 2))] h5 hκ (by decide) gX5_held kl_L_88 ki_X5_held ks_X5_held (by decide) rfl rfl (Nat.le_of_ble_eq_true rfl) dL_law_792 rfl (fun r F1 Ar1 h => ?_)
  obtain ⟨v, rfl, Q6, h6, hq6⟩ := hq5 r F1 Ar1 h
  show Jw κ la 795 [.int v] F1 Ar1 x
  refine Jw_a2 (q := 796) hκ dL_law_795 rfl ?_
  refine Jw_rd (j := 1) (q := 801) hκ hn (by omega) (by decide) dL_law_796 dL_law_797 dL_law_798 dL_law_799 dL_law_800 rfl ?_
  refine Jw_rd (j := 2) (q := 806) hκ hn (by omega) (by decide) dL_law_801 dL_law_802 dL_law_803 dL_law_804 dL_law_805 rfl ?_
  refine Jw_call (o := 6) (rest := [.int v]) (q := 809) [.int (xs (i + 1)), .int (xs (i + 2))] h6 hκ (by decide) gX6_held kl_L_91 ki_X6_held ks_X6_held (by decide) rfl rfl (Nat.le_of_ble_eq_true rfl) dL_law_806 rfl (fun r F2 Ar2 h => ?_)
  obtain ⟨rfl, hI2⟩ := hq6 r F2 Ar2 h
  show Jw κ la 809 [.int v, .int v] F2 Ar2 x
  refine Jw_eq (tgt := 1028) dL_law_809 (by decide) ?_
  exact kk κ F2 Ar2 x (hκ.mono (by omega)) hI2
set_option maxHeartbeats 4000000 in
theorem cs_paper {κ : vK} {la : Array Slot} {b n i k : Nat} {xs : Nat → Int32} {F : vFt} {Ar : vAt} {x : vXt} (hκ : jwC κ la b n xs i k) (hn : n ≤ 3072) (hi : i + 6 ≤ n) (hk : k ≤ 3072) (hI : IX F Ar x) (kk : ∀ κ' F' Ar' x', jwC κ' la b n xs i (k + 1) → IX F' Ar' x' → Jw κ' la 1028 [] F' Ar' x') : Jw κ la 814 [] F Ar x := by
  obtain ⟨Q5, h5, hq5⟩ := st_paper (a := (xs (i + 1))) (b := (xs (i + 2))) (c := (xs (i + 3))) (d := (xs (i + 4))) (m := (xs (i + 5))) hI
  refine Jw_a1 (q := 815) hκ dL_law_814 rfl ?_
  refine Jw_rd (j := 1) (q := 820) hκ hn (by omega) (by decide) dL_law_815 dL_law_816 dL_law_817 dL_law_818 dL_law_819 rfl ?_
  refine Jw_rd (j := 2) (q := 825) hκ hn (by omega) (by decide) dL_law_820 dL_law_821 dL_law_822 dL_law_823 dL_law_824 rfl ?_
  refine Jw_rd (j := 3) (q := 830) hκ hn (by omega) (by decide) dL_law_825 dL_law_826 dL_law_827 dL_law_828 dL_law_829 rfl ?_
  refine Jw_rd (j := 4) (q := 835) hκ hn (by omega) (by decide) dL_law_830 dL_law_831 dL_law_832 dL_law_833 dL_law_834 rfl ?_
  refine Jw_rd (j := 5) (q := 840) hκ hn (by omega) (by decide) dL_law_835 dL_law_836 dL_law_837 dL_law_838 dL_law_839 rfl ?_
  refine Jw_call (o := 0) (rest := []) (q := 843) [.int (xs (i + 1)), .int (xs (i + 2)), .int (xs (i + 3)), .int (xs (i + 4)), .int (xs (i + 5))] h5 hκ (by decide) gX5_paper kl_L_92 ki_X5_paper ks_X5_paper (by decide) rfl rfl (Nat.le_of_ble_eq_true rfl) dL_law_840 rfl (fun r F1 Ar1 h => ?_)
  obtain ⟨v, rfl, Q6, h6, hq6⟩ := hq5 r F1 Ar1 h
  show Jw κ la 843 [.int v] F1 Ar1 x
  refine Jw_a2 (q := 844) hκ dL_law_843 rfl ?_
  refine Jw_rd (j := 1) (q := 849) hκ hn (by omega) (by decide) dL_law_844 dL_law_845 dL_law_846 dL_law_847 dL_law_848 rfl ?_
  refine Jw_rd (j := 2) (q := 854) hκ hn (by omega) (by decide) dL_law_849 dL_law_850 dL_law_851 dL_law_852 dL_law_853 rfl ?_
  refine Jw_rd (j := 3) (q := 859) hκ hn (by omega) (by decide) dL_law_854 dL_law_855 dL_law_856 dL_law_857 dL_law_858 rfl ?_
  refine Jw_rd (j := 4) (q := 864) hκ hn (by omega) (by decide) dL_law_859 dL_law_860 dL_law_861 dL_law_862 dL_law_863 rfl ?_
  refine Jw_rd (j := 5) (q := 869) hκ hn (by omega) (by decide) dL_law_864 dL_law_865 dL_law_866 dL_law_867 dL_law_868 rfl ?_
  refine Jw_call (o := 6) (rest := [.int v]) (q := 872) [.int (xs (i + 1)), .int (xs (i + 2)), .int (xs (i + 3)), .int (xs (i + 4)), .int (xs (i + 5))] h6 hκ (by decide) gX6_paper kl_L_95 ki_X6_paper ks_X6_paper (by decide) rfl rfl (Nat.le_of_ble_eq_true rfl) dL_law_869 rfl (fun r F2 Ar2 h => ?_)
  obtain ⟨rfl, hI2⟩ := hq6 r F2 Ar2 h
  show Jw κ la 872 [.int v, .int v] F2 Ar2 x
  refine Jw_eq (tgt := 1028) dL_law_872 (by decide) ?_
  exact kk κ F2 Ar2 x (hκ.mono (by omega)) hI2
set_option maxHeartbeats 4000000 in
theorem cs_witness {κ : vK} {la : Array Slot} {b n i k : Nat} {xs : Nat → Int32} {F : vFt} {Ar : vAt} {x : vXt} (hκ : jwC κ la b n xs i k) (hn : n ≤ 3072) (hi : i + 6 ≤ n) (hk : k ≤ 3072) (hI : IX F Ar x) (kk : ∀ κ' F' Ar' x', jwC κ' la b n xs i (k + 1) → IX F' Ar' x' → Jw κ' la 1028 [] F' Ar' x') : Jw κ la 877 [] F Ar x := by
  obtain ⟨Q5, h5, hq5⟩ := st_witness (a := (xs (i + 1))) (b := (xs (i + 2))) (yes := decide (¬ xs (i + 3) = 0)) hI
  refine Jw_a1 (q := 878) hκ dL_law_877 rfl ?_
  refine Jw_rd (j := 1) (q := 883) hκ hn (by omega) (by decide) dL_law_878 dL_law_879 dL_law_880 dL_law_881 dL_law_882 rfl ?_
  refine Jw_rd (j := 2) (q := 888) hκ hn (by omega) (by decide) dL_law_883 dL_law_884 dL_law_885 dL_law_886 dL_law_887 rfl ?_
  refine Jw_rd (j := 3) (q := 893) hκ hn (by omega) (by decide) dL_law_888 dL_law_889 dL_law_890 dL_law_891 dL_law_892 rfl ?_
  refine Jw_bool (q := 901) dL_law_893 dL_law_896 dL_law_897 dL_law_900 rfl ?_
  refine Jw_call (o := 0) (rest := []) (q := 904) [.int (xs (i + 1)), .int (xs (i + 2)), .int (if (decide (¬ xs (i + 3) = 0)) then 1 else 0)] h5 hκ (by decide) gX5_witness kl_L_96 ki_X5_witness ks_X5_witness (by decide) rfl rfl (Nat.le_of_ble_eq_true rfl) dL_law_901 rfl (fun r F1 Ar1 h => ?_)
  obtain ⟨v, rfl, Q6, h6, hq6⟩ := hq5 r F1 Ar1 h
  show Jw κ la 904 [.int v] F1 Ar1 x
  refine Jw_a2 (q := 905) hκ dL_law_904 rfl ?_
  refine Jw_rd (j := 1) (q := 910) hκ hn (by omega) (by decide) dL_law_905 dL_law_906 dL_law_907 dL_law_908 dL_law_909 rfl ?_
  refine Jw_rd (j := 2) (q := 915) hκ hn (by omega) (by decide) dL_law_910 dL_law_911 dL_law_912 dL_law_913 dL_law_914 rfl ?_
  refine Jw_rd (j := 3) (q := 920) hκ hn (by omega) (by decide) dL_law_915 dL_law_916 dL_law_917 dL_law_918 dL_law_919 rfl ?_
  refine Jw_bool (q := 928) dL_law_920 dL_law_923 dL_law_924 dL_law_927 rfl ?_
  refine Jw_call (o := 6) (rest := [.int v]) (q := 931) [.int (xs (i + 1)), .int (xs (i + 2)), .int (if (decide (¬ xs (i + 3) = 0)) then 1 else 0)] h6 hκ (by decide) gX6_witness kl_L_99 ki_X6_witness ks_X6_witness (by decide) rfl rfl (Nat.le_of_ble_eq_true rfl) dL_law_928 rfl (fun r F2 Ar2 h => ?_)
  obtain ⟨rfl, hI2⟩ := hq6 r F2 Ar2 h
  show Jw κ la 931 [.int v, .int v] F2 Ar2 x
  refine Jw_eq (tgt := 1028) dL_law_931 (by decide) ?_
  exact kk κ F2 Ar2 x (hκ.mono (by omega)) hI2
set_option maxHeartbeats 4000000 in
theorem cs_alike {κ : vK} {la : Array Slot} {b n i k : Nat} {xs : Nat → Int32} {F : vFt} {Ar : vAt} {x : vXt} (hκ : jwC κ la b n xs i k) (hn : n ≤ 3072) (hi : i + 6 ≤ n) (hk : k ≤ 3072) (hI : IX F Ar x) (kk : ∀ κ' F' Ar' x', jwC κ' la b n xs i (k + 1) → IX F' Ar' x' → Jw κ' la 1028 [] F' Ar' x') : Jw κ la 936 [] F Ar x := by
  obtain ⟨Q5, h5, hq5⟩ := st_alike (a := (xs (i + 1))) (b := (xs (i + 2))) hI
  refine Jw_a1 (q := 937) hκ dL_law_936 rfl ?_
  refine Jw_rd (j := 1) (q := 942) hκ hn (by omega) (by decide) dL_law_937 dL_law_938 dL_law_939 dL_law_940 dL_law_941 rfl ?_
  refine Jw_rd (j := 2) (q := 947) hκ hn (by omega) (by decide) dL_law_942 dL_law_943 dL_law_944 dL_law_945 dL_law_946 rfl ?_
  refine Jw_call (o := 0) (rest := []) (q := 950) [.int (xs (i + 1)), .int (xs (i + 2))] h5 hκ (by decide) gX5_alike kl_L_100 ki_X5_alike ks_X5_alike (by decide) rfl rfl (Nat.le_of_ble_eq_true rfl) dL_law_947 rfl (fun r F1 Ar1 h => ?_)
  obtain ⟨v, rfl, Q6, h6, hq6⟩ := hq5 r F1 Ar1 h
  show Jw κ la 950 [.int v] F1 Ar1 x
  refine Jw_a2 (q := 951) hκ dL_law_950 rfl ?_
  refine Jw_rd (j := 1) (q := 956) hκ hn (by omega) (by decide) dL_law_951 dL_law_952 dL_law_953 dL_law_954 dL_law_955 rfl ?_
  refine Jw_rd (j := 2) (q := 961) hκ hn (by omega) (by decide) dL_law_956 dL_law_957 dL_law_958 dL_law_959 dL_law_960 rfl ?_
  refine Jw_call (o := 6) (rest := [.int v]) (q := 964) [.int (xs (i + 1)), .int (xs (i + 2))] h6 hκ (by decide) gX6_alike kl_L_103 ki_X6_alike ks_X6_alike (by decide) rfl rfl (Nat.le_of_ble_eq_true rfl) dL_law_961 rfl (fun r F2 Ar2 h => ?_)
  obtain ⟨rfl, hI2⟩ := hq6 r F2 Ar2 h
  show Jw κ la 964 [.int v, .int v] F2 Ar2 x
  refine Jw_eq (tgt := 1028) dL_law_964 (by decide) ?_
  exact kk κ F2 Ar2 x (hκ.mono (by omega)) hI2
set_option maxHeartbeats 4000000 in
theorem cs_group {κ : vK} {la : Array Slot} {b n i k : Nat} {xs : Nat → Int32} {F : vFt} {Ar : vAt} {x : vXt} (hκ : jwC κ la b n xs i k) (hn : n ≤ 3072) (hi : i + 6 ≤ n) (hk : k ≤ 3072) (hI : IX F Ar x) (kk : ∀ κ' F' Ar' x', jwC κ' la b n xs i (k + 1) → IX F' Ar' x' → Jw κ' la 1028 [] F' Ar' x') : Jw κ la 969 [] F Ar x := by
  obtain ⟨Q5, h5, hq5⟩ := st_group (i := (xs (i + 1))) hI
  refine Jw_a1 (q := 970) hκ dL_law_969 rfl ?_
  refine Jw_rd (j := 1) (q := 975) hκ hn (by omega) (by decide) dL_law_970 dL_law_971 dL_law_972 dL_law_973 dL_law_974 rfl ?_
  refine Jw_call (o := 0) (rest := []) (q := 978) [.int (xs (i + 1))] h5 hκ (by decide) gX5_group kl_L_104 ki_X5_group ks_X5_group (by decide) rfl rfl (Nat.le_of_ble_eq_true rfl) dL_law_975 rfl (fun r F1 Ar1 h => ?_)
  obtain ⟨v, rfl, Q6, h6, hq6⟩ := hq5 r F1 Ar1 h
  show Jw κ la 978 [.int v] F1 Ar1 x
  refine Jw_a2 (q := 979) hκ dL_law_978 rfl ?_
  refine Jw_rd (j := 1) (q := 984) hκ hn (by omega) (by decide) dL_law_979 dL_law_980 dL_law_981 dL_law_982 dL_law_983 rfl ?_
  refine Jw_call (o := 6) (rest := [.int v]) (q := 987) [.int (xs (i + 1))] h6 hκ (by decide) gX6_group kl_L_107 ki_X6_group ks_X6_group (by decide) rfl rfl (Nat.le_of_ble_eq_true rfl) dL_law_984 rfl (fun r F2 Ar2 h => ?_)
  obtain ⟨rfl, hI2⟩ := hq6 r F2 Ar2 h
  show Jw κ la 987 [.int v, .int v] F2 Ar2 x
  refine Jw_eq (tgt := 1028) dL_law_987 (by decide) ?_
  exact kk κ F2 Ar2 x (hκ.mono (by omega)) hI2
set_option maxHeartbeats 4000000 in
theorem cs_groups {κ : vK} {la : Array Slot} {b n i k : Nat} {xs : Nat → Int32} {F : vFt} {Ar : vAt} {x : vXt} (hκ : jwC κ la b n xs i k) (hn : n ≤ 3072) (hi : i + 6 ≤ n) (hk : k ≤ 3072) (hI : IX F Ar x) (kk : ∀ κ' F' Ar' x', jwC κ' la b n xs i (k + 1) → IX F' Ar' x' → Jw κ' la 1028 [] F' Ar' x') : Jw κ la 992 [] F Ar x := by
  obtain ⟨Q5, h5, hq5⟩ := st_groups  hI
  refine Jw_a1 (q := 993) hκ dL_law_992 rfl ?_
  refine Jw_call (o := 0) (rest := []) (q := 996) [] h5 hκ (by decide) gX5_groups kl_L_108 ki_X5_groups ks_X5_groups (by decide) rfl rfl (Nat.le_of_ble_eq_true rfl) dL_law_993 rfl (fun r F1 Ar1 h => ?_)
  obtain ⟨v, rfl, Q6, h6, hq6⟩ := hq5 r F1 Ar1 h
  show Jw κ la 996 [.int v] F1 Ar1 x
  refine Jw_a2 (q := 997) hκ dL_law_996 rfl ?_
  refine Jw_call (o := 6) (rest := [.int v]) (q := 1000) [] h6 hκ (by decide) gX6_groups kl_L_111 ki_X6_groups ks_X6_groups (by decide) rfl rfl (Nat.le_of_ble_eq_true rfl) dL_law_997 rfl (fun r F2 Ar2 h => ?_)
  obtain ⟨rfl, hI2⟩ := hq6 r F2 Ar2 h
  show Jw κ la 1000 [.int v, .int v] F2 Ar2 x
  refine Jw_eq (tgt := 1028) dL_law_1000 (by decide) ?_
  exact kk κ F2 Ar2 x (hκ.mono (by omega)) hI2
set_option maxHeartbeats 4000000 in
theorem cs_many {κ : vK} {la : Array Slot} {b n i k : Nat} {xs : Nat → Int32} {F : vFt} {Ar : vAt} {x : vXt} (hκ : jwC κ la b n xs i k) (hn : n ≤ 3072) (hi : i + 6 ≤ n) (hk : k ≤ 3072) (hI : IX F Ar x) (kk : ∀ κ' F' Ar' x', jwC κ' la b n xs i (k + 1) → IX F' Ar' x' → Jw κ' la 1028 [] F' Ar' x') : Jw κ la 1005 [] F Ar x := by
  obtain ⟨Q5, h5, hq5⟩ := st_many (w := (xs (i + 1))) hI
  refine Jw_a1 (q := 1006) hκ dL_law_1005 rfl ?_
  refine Jw_rd (j := 1) (q := 1011) hκ hn (by omega) (by decide) dL_law_1006 dL_law_1007 dL_law_1008 dL_law_1009 dL_law_1010 rfl ?_
  refine Jw_call (o := 0) (rest := []) (q := 1014) [.int (xs (i + 1))] h5 hκ (by decide) gX5_many kl_L_112 ki_X5_many ks_X5_many (by decide) rfl rfl (Nat.le_of_ble_eq_true rfl) dL_law_1011 rfl (fun r F1 Ar1 h => ?_)
  obtain ⟨v, rfl, Q6, h6, hq6⟩ := hq5 r F1 Ar1 h
  show Jw κ la 1014 [.int v] F1 Ar1 x
  refine Jw_a2 (q := 1015) hκ dL_law_1014 rfl ?_
  refine Jw_rd (j := 1) (q := 1020) hκ hn (by omega) (by decide) dL_law_1015 dL_law_1016 dL_law_1017 dL_law_1018 dL_law_1019 rfl ?_
  refine Jw_call (o := 6) (rest := [.int v]) (q := 1023) [.int (xs (i + 1))] h6 hκ (by decide) gX6_many kl_L_115 ki_X6_many ks_X6_many (by decide) rfl rfl (Nat.le_of_ble_eq_true rfl) dL_law_1020 rfl (fun r F2 Ar2 h => ?_)
  obtain ⟨rfl, hI2⟩ := hq6 r F2 Ar2 h
  show Jw κ la 1023 [.int v, .int v] F2 Ar2 x
  refine Jw_eq (tgt := 1028) dL_law_1023 (by decide) ?_
  exact kk κ F2 Ar2 x (hκ.mono (by omega)) hI2
