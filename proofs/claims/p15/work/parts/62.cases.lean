set_option maxHeartbeats 4000000 in
set_option maxRecDepth 100000 in
theorem law_case_0 {p : Program} {l : Launch} {e : Env} {s : State} {m : MethodId} {below : List Frame} {meth : Method} {c : Code} {G : tw_G} {b L t : Nat} {xs : Nat → Int32} (hst : l.stackTraces = false) (F : tw_F p m c code 7 s #[Value.ref b] RL G (fun q => s.heap.size ≤ q)) (hX : va_X b L xs s s.heap) (hbl : b < s.heap.size) (ht : 7 * t + 7 ≤ L) (hL : L ≤ 3584) {ad1 ad2 : Nat → Nat} {M N : jm_M} (iv : IY M N) {H : Heap} {locs : List Loc} {cells slots : Nat} {ls : Array Slot} (h2 : tw_2 G 245 ad1 (jm_c wd1 G ad1 M) 80 ad2 (jm_c wd2 G ad2 N) (fun q => s.heap.size ≤ q) s H locs) (hl : lv_has ls 7 (law_lv b (ad1 0) (ad2 0) (ad1 244) t)) (hc : cells + 1 ≤ 601024) (hs : slots + 6 ≤ 7293034) (hk : law_K p l e s m below meth c G b t ad1 ad2 cells slots) : W p l e room_1 s m #[Value.ref b] below meth c H locs cells slots (lw_Z below #[Value.ref b] s) (F0 m 216 ls []) := by
  have hx := F.1.1
  have hb := F.1.2.1
  refine lv_aload_n hx hb dL_law_216 rfl (lv_at hl 3 rfl) ?_
  refine law_arg F hX hbl h2 hl ht hL 4 0 rfl rfl 1 (by decide) dL_law_217 dL_law_218 dL_law_220 dL_law_221 dL_law_222 ?_
  refine law_arg F hX hbl h2 hl ht hL 4 0 rfl rfl 2 (by decide) dL_law_223 dL_law_224 dL_law_226 dL_law_227 dL_law_228 ?_
  obtain ⟨r, M1, u, N1, e1, e2, iv1, same⟩ := ww_track 4000 (by decide) M N iv (xs (7 * t + 1)).toInt (xs (7 * t + 2)).toInt (jm_tin _) (jm_tin _)
  refine tw_sys1 (Y1 := wd1) (Y2 := wd2) (as := [jm_i (xs (7 * t + 1)).toInt, jm_i (xs (7 * t + 2)).toInt]) (rest := []) F h2 (ct_X11_track 4000 M (xs (7 * t + 1)).toInt (xs (7 * t + 2)).toInt (jm_tin _) (jm_tin _)) e1 iv.1.1.1.1.rm (tw_gl kw_548 rfl) km_X11_track kv_X11_track rfl rfl ⟨(Nat.le_of_ble_eq_true rfl), (Nat.le_of_ble_eq_true rfl)⟩ jv1_0 ko1_0 rfl rfl hl.1 rfl (Nat.le_of_ble_eq_true rfl) dL_law_229 (Nat.le_of_succ_le hc) (Nat.le_trans (Nat.le_add_right _ _) hs) (fun H locs h2 => ?_)
  refine lv_pop hx hb dL_law_232 rfl ?_
  refine lv_aload_n hx hb dL_law_233 rfl (lv_at hl 2 rfl) ?_
  refine law_arg F hX hbl h2 hl ht hL 4 0 rfl rfl 1 (by decide) dL_law_234 dL_law_235 dL_law_237 dL_law_238 dL_law_239 ?_
  refine law_arg F hX hbl h2 hl ht hL 4 0 rfl rfl 2 (by decide) dL_law_240 dL_law_241 dL_law_243 dL_law_244 dL_law_245 ?_
  refine tw_sys2 (Y1 := wd1) (Y2 := wd2) (as := [jm_i (xs (7 * t + 1)).toInt, jm_i (xs (7 * t + 2)).toInt]) (rest := []) F h2 (ct_X12_track 4000 N (xs (7 * t + 1)).toInt (xs (7 * t + 2)).toInt (jm_tin _) (jm_tin _)) e2 iv.1.1.1.2.1.rm2 (tw_gl kw_1341 rfl) km_X12_track kv_X12_track rfl rfl ⟨(Nat.le_of_ble_eq_true rfl), (Nat.le_of_ble_eq_true rfl)⟩ jv2_0 ko2_0 rfl rfl hl.1 rfl (Nat.le_of_ble_eq_true rfl) dL_law_246 (Nat.le_of_succ_le hc) (Nat.le_trans (Nat.le_add_right _ _) hs) (fun H locs h2 => ?_)
  refine lv_pop hx hb dL_law_249 rfl ?_
  refine lv_goto (tgt := 1891) hx hb dL_law_250 (by decide) ?_
  exact hk M1 N1 _ _ _ cells slots iv1 h2 (lv_sub hl [0, 1, 2, 3, 4] rfl) (Nat.le_succ _) (Nat.le_add_right _ _)
set_option maxHeartbeats 4000000 in
set_option maxRecDepth 100000 in
theorem law_case_1 {p : Program} {l : Launch} {e : Env} {s : State} {m : MethodId} {below : List Frame} {meth : Method} {c : Code} {G : tw_G} {b L t : Nat} {xs : Nat → Int32} (hst : l.stackTraces = false) (F : tw_F p m c code 7 s #[Value.ref b] RL G (fun q => s.heap.size ≤ q)) (hX : va_X b L xs s s.heap) (hbl : b < s.heap.size) (ht : 7 * t + 7 ≤ L) (hL : L ≤ 3584) {ad1 ad2 : Nat → Nat} {M N : jm_M} (iv : IY M N) {H : Heap} {locs : List Loc} {cells slots : Nat} {ls : Array Slot} (h2 : tw_2 G 245 ad1 (jm_c wd1 G ad1 M) 80 ad2 (jm_c wd2 G ad2 N) (fun q => s.heap.size ≤ q) s H locs) (hl : lv_has ls 7 (law_lv b (ad1 0) (ad2 0) (ad1 244) t)) (hc : cells + 1 ≤ 601024) (hs : slots + 6 ≤ 7293034) (hk : law_K p l e s m below meth c G b t ad1 ad2 cells slots) : W p l e room_1 s m #[Value.ref b] below meth c H locs cells slots (lw_Z below #[Value.ref b] s) (F0 m 253 ls []) := by
  have hx := F.1.1
  have hb := F.1.2.1
  refine lv_aload_n hx hb dL_law_253 rfl (lv_at hl 3 rfl) ?_
  refine law_arg F hX hbl h2 hl ht hL 4 0 rfl rfl 1 (by decide) dL_law_254 dL_law_255 dL_law_257 dL_law_258 dL_law_259 ?_
  refine law_arg F hX hbl h2 hl ht hL 4 0 rfl rfl 2 (by decide) dL_law_260 dL_law_261 dL_law_263 dL_law_264 dL_law_265 ?_
  refine law_arg F hX hbl h2 hl ht hL 4 0 rfl rfl 3 (by decide) dL_law_266 dL_law_267 dL_law_269 dL_law_270 dL_law_271 ?_
  obtain ⟨r, M1, u, N1, e1, e2, iv1, same⟩ := ww_sector M N iv (xs (7 * t + 1)).toInt (xs (7 * t + 2)).toInt (xs (7 * t + 3)).toInt (jm_tin _) (jm_tin _) (jm_tin _)
  refine tw_sys1 (Y1 := wd1) (Y2 := wd2) (as := [jm_i (xs (7 * t + 1)).toInt, jm_i (xs (7 * t + 2)).toInt, jm_i (xs (7 * t + 3)).toInt]) (rest := []) F h2 (ct_X11_sector M (xs (7 * t + 1)).toInt (xs (7 * t + 2)).toInt (xs (7 * t + 3)).toInt (jm_tin _) (jm_tin _) (jm_tin _)) e1 iv.1.1.1.1.rm (tw_gl kw_553 rfl) km_X11_sector kv_X11_sector rfl rfl ⟨(Nat.le_of_ble_eq_true rfl), (Nat.le_of_ble_eq_true rfl)⟩ jv1_0 ko1_0 rfl rfl hl.1 rfl (Nat.le_of_ble_eq_true rfl) dL_law_272 (Nat.le_of_succ_le hc) (Nat.le_trans (Nat.le_add_right _ _) hs) (fun H locs h2 => ?_)
  refine lv_pop hx hb dL_law_275 rfl ?_
  refine lv_aload_n hx hb dL_law_276 rfl (lv_at hl 2 rfl) ?_
  refine law_arg F hX hbl h2 hl ht hL 4 0 rfl rfl 1 (by decide) dL_law_277 dL_law_278 dL_law_280 dL_law_281 dL_law_282 ?_
  refine law_arg F hX hbl h2 hl ht hL 4 0 rfl rfl 2 (by decide) dL_law_283 dL_law_284 dL_law_286 dL_law_287 dL_law_288 ?_
  refine law_arg F hX hbl h2 hl ht hL 4 0 rfl rfl 3 (by decide) dL_law_289 dL_law_290 dL_law_292 dL_law_293 dL_law_294 ?_
  refine tw_sys2 (Y1 := wd1) (Y2 := wd2) (as := [jm_i (xs (7 * t + 1)).toInt, jm_i (xs (7 * t + 2)).toInt, jm_i (xs (7 * t + 3)).toInt]) (rest := []) F h2 (ct_X12_sector N (xs (7 * t + 1)).toInt (xs (7 * t + 2)).toInt (xs (7 * t + 3)).toInt (jm_tin _) (jm_tin _) (jm_tin _)) e2 iv.1.1.1.2.1.rm2 (tw_gl kw_1356 rfl) km_X12_sector kv_X12_sector rfl rfl ⟨(Nat.le_of_ble_eq_true rfl), (Nat.le_of_ble_eq_true rfl)⟩ jv2_0 ko2_0 rfl rfl hl.1 rfl (Nat.le_of_ble_eq_true rfl) dL_law_295 (Nat.le_of_succ_le hc) (Nat.le_trans (Nat.le_add_right _ _) hs) (fun H locs h2 => ?_)
  refine lv_pop hx hb dL_law_298 rfl ?_
  refine lv_goto (tgt := 1891) hx hb dL_law_299 (by decide) ?_
  exact hk M1 N1 _ _ _ cells slots iv1 h2 (lv_sub hl [0, 1, 2, 3, 4] rfl) (Nat.le_succ _) (Nat.le_add_right _ _)
set_option maxHeartbeats 4000000 in
set_option maxRecDepth 100000 in
theorem law_case_2 {p : Program} {l : Launch} {e : Env} {s : State} {m : MethodId} {below : List Frame} {meth : Method} {c : Code} {G : tw_G} {b L t : Nat} {xs : Nat → Int32} (hst : l.stackTraces = false) (F : tw_F p m c code 7 s #[Value.ref b] RL G (fun q => s.heap.size ≤ q)) (hX : va_X b L xs s s.heap) (hbl : b < s.heap.size) (ht : 7 * t + 7 ≤ L) (hL : L ≤ 3584) {ad1 ad2 : Nat → Nat} {M N : jm_M} (iv : IY M N) {H : Heap} {locs : List Loc} {cells slots : Nat} {ls : Array Slot} (h2 : tw_2 G 245 ad1 (jm_c wd1 G ad1 M) 80 ad2 (jm_c wd2 G ad2 N) (fun q => s.heap.size ≤ q) s H locs) (hl : lv_has ls 7 (law_lv b (ad1 0) (ad2 0) (ad1 244) t)) (hc : cells + 1 ≤ 601024) (hs : slots + 6 ≤ 7293034) (hk : law_K p l e s m below meth c G b t ad1 ad2 cells slots) : W p l e room_1 s m #[Value.ref b] below meth c H locs cells slots (lw_Z below #[Value.ref b] s) (F0 m 302 ls []) := by
  have hx := F.1.1
  have hb := F.1.2.1
  refine lv_aload_n hx hb dL_law_302 rfl (lv_at hl 3 rfl) ?_
  refine law_arg F hX hbl h2 hl ht hL 4 0 rfl rfl 1 (by decide) dL_law_303 dL_law_304 dL_law_306 dL_law_307 dL_law_308 ?_
  refine law_arg F hX hbl h2 hl ht hL 4 0 rfl rfl 2 (by decide) dL_law_309 dL_law_310 dL_law_312 dL_law_313 dL_law_314 ?_
  refine law_arg F hX hbl h2 hl ht hL 4 0 rfl rfl 3 (by decide) dL_law_315 dL_law_316 dL_law_318 dL_law_319 dL_law_320 ?_
  obtain ⟨r, M1, u, N1, e1, e2, iv1, same⟩ := ww_tyres M N iv (xs (7 * t + 1)).toInt (xs (7 * t + 2)).toInt (xs (7 * t + 3)).toInt (jm_tin _) (jm_tin _) (jm_tin _)
  refine tw_sys1 (Y1 := wd1) (Y2 := wd2) (as := [jm_i (xs (7 * t + 1)).toInt, jm_i (xs (7 * t + 2)).toInt, jm_i (xs (7 * t + 3)).toInt]) (rest := []) F h2 (ct_X11_tyres M (xs (7 * t + 1)).toInt (xs (7 * t + 2)).toInt (xs (7 * t + 3)).toInt (jm_tin _) (jm_tin _) (jm_tin _)) e1 iv.1.1.1.1.rm (tw_gl kw_568 rfl) km_X11_tyres kv_X11_tyres rfl rfl ⟨(Nat.le_of_ble_eq_true rfl), (Nat.le_of_ble_eq_true rfl)⟩ jv1_0 ko1_0 rfl rfl hl.1 rfl (Nat.le_of_ble_eq_true rfl) dL_law_321 (Nat.le_of_succ_le hc) (Nat.le_trans (Nat.le_add_right _ _) hs) (fun H locs h2 => ?_)
  refine lv_pop hx hb dL_law_324 rfl ?_
  refine lv_aload_n hx hb dL_law_325 rfl (lv_at hl 2 rfl) ?_
  refine law_arg F hX hbl h2 hl ht hL 4 0 rfl rfl 1 (by decide) dL_law_326 dL_law_327 dL_law_329 dL_law_330 dL_law_331 ?_
  refine law_arg F hX hbl h2 hl ht hL 4 0 rfl rfl 2 (by decide) dL_law_332 dL_law_333 dL_law_335 dL_law_336 dL_law_337 ?_
  refine law_arg F hX hbl h2 hl ht hL 4 0 rfl rfl 3 (by decide) dL_law_338 dL_law_339 dL_law_341 dL_law_342 dL_law_343 ?_
  refine tw_sys2 (Y1 := wd1) (Y2 := wd2) (as := [jm_i (xs (7 * t + 1)).toInt, jm_i (xs (7 * t + 2)).toInt, jm_i (xs (7 * t + 3)).toInt]) (rest := []) F h2 (ct_X12_tyres N (xs (7 * t + 1)).toInt (xs (7 * t + 2)).toInt (xs (7 * t + 3)).toInt (jm_tin _) (jm_tin _) (jm_tin _)) e2 iv.1.1.1.2.1.rm2 (tw_gl kw_1367 rfl) km_X12_tyres kv_X12_tyres rfl rfl ⟨(Nat.le_of_ble_eq_true rfl), (Nat.le_of_ble_eq_true rfl)⟩ jv2_0 ko2_0 rfl rfl hl.1 rfl (Nat.le_of_ble_eq_true rfl) dL_law_344 (Nat.le_of_succ_le hc) (Nat.le_trans (Nat.le_add_right _ _) hs) (fun H locs h2 => ?_)
  refine lv_pop hx hb dL_law_347 rfl ?_
  refine lv_goto (tgt := 1891) hx hb dL_law_348 (by decide) ?_
  exact hk M1 N1 _ _ _ cells slots iv1 h2 (lv_sub hl [0, 1, 2, 3, 4] rfl) (Nat.le_succ _) (Nat.le_add_right _ _)
set_option maxHeartbeats 4000000 in
set_option maxRecDepth 100000 in
theorem law_case_3 {p : Program} {l : Launch} {e : Env} {s : State} {m : MethodId} {below : List Frame} {meth : Method} {c : Code} {G : tw_G} {b L t : Nat} {xs : Nat → Int32} (hst : l.stackTraces = false) (F : tw_F p m c code 7 s #[Value.ref b] RL G (fun q => s.heap.size ≤ q)) (hX : va_X b L xs s s.heap) (hbl : b < s.heap.size) (ht : 7 * t + 7 ≤ L) (hL : L ≤ 3584) {ad1 ad2 : Nat → Nat} {M N : jm_M} (iv : IY M N) {H : Heap} {locs : List Loc} {cells slots : Nat} {ls : Array Slot} (h2 : tw_2 G 245 ad1 (jm_c wd1 G ad1 M) 80 ad2 (jm_c wd2 G ad2 N) (fun q => s.heap.size ≤ q) s H locs) (hl : lv_has ls 7 (law_lv b (ad1 0) (ad2 0) (ad1 244) t)) (hc : cells + 1 ≤ 601024) (hs : slots + 6 ≤ 7293034) (hk : law_K p l e s m below meth c G b t ad1 ad2 cells slots) : W p l e room_1 s m #[Value.ref b] below meth c H locs cells slots (lw_Z below #[Value.ref b] s) (F0 m 351 ls []) := by
  have hx := F.1.1
  have hb := F.1.2.1
  refine lv_aload_n hx hb dL_law_351 rfl (lv_at hl 3 rfl) ?_
  refine law_arg F hX hbl h2 hl ht hL 4 0 rfl rfl 1 (by decide) dL_law_352 dL_law_353 dL_law_355 dL_law_356 dL_law_357 ?_
  refine law_arg F hX hbl h2 hl ht hL 4 0 rfl rfl 2 (by decide) dL_law_358 dL_law_359 dL_law_361 dL_law_362 dL_law_363 ?_
  obtain ⟨r, M1, u, N1, e1, e2, iv1, same⟩ := ww_set 4000 (by decide) M N iv (xs (7 * t + 1)).toInt (xs (7 * t + 2)).toInt (jm_tin _) (jm_tin _)
  refine tw_sys1 (Y1 := wd1) (Y2 := wd2) (as := [jm_i (xs (7 * t + 1)).toInt, jm_i (xs (7 * t + 2)).toInt]) (rest := []) F h2 (ct_X11_set M (xs (7 * t + 1)).toInt (xs (7 * t + 2)).toInt (jm_tin _) (jm_tin _)) e1 iv.1.1.1.1.rm (tw_gl kw_579 rfl) km_X11_set kv_X11_set rfl rfl ⟨(Nat.le_of_ble_eq_true rfl), (Nat.le_of_ble_eq_true rfl)⟩ jv1_0 ko1_0 rfl rfl hl.1 rfl (Nat.le_of_ble_eq_true rfl) dL_law_364 (Nat.le_of_succ_le hc) (Nat.le_trans (Nat.le_add_right _ _) hs) (fun H locs h2 => ?_)
  refine lv_pop hx hb dL_law_367 rfl ?_
  refine lv_aload_n hx hb dL_law_368 rfl (lv_at hl 2 rfl) ?_
  refine law_arg F hX hbl h2 hl ht hL 4 0 rfl rfl 1 (by decide) dL_law_369 dL_law_370 dL_law_372 dL_law_373 dL_law_374 ?_
  refine law_arg F hX hbl h2 hl ht hL 4 0 rfl rfl 2 (by decide) dL_law_375 dL_law_376 dL_law_378 dL_law_379 dL_law_380 ?_
  refine tw_sys2 (Y1 := wd1) (Y2 := wd2) (as := [jm_i (xs (7 * t + 1)).toInt, jm_i (xs (7 * t + 2)).toInt]) (rest := []) F h2 (ct_X12_set 4000 N (xs (7 * t + 1)).toInt (xs (7 * t + 2)).toInt (jm_tin _) (jm_tin _)) e2 iv.1.1.1.2.1.rm2 (tw_gl kw_1375 rfl) km_X12_set kv_X12_set rfl rfl ⟨(Nat.le_of_ble_eq_true rfl), (Nat.le_of_ble_eq_true rfl)⟩ jv2_0 ko2_0 rfl rfl hl.1 rfl (Nat.le_of_ble_eq_true rfl) dL_law_381 (Nat.le_of_succ_le hc) (Nat.le_trans (Nat.le_add_right _ _) hs) (fun H locs h2 => ?_)
  refine lv_pop hx hb dL_law_384 rfl ?_
  refine lv_goto (tgt := 1891) hx hb dL_law_385 (by decide) ?_
  exact hk M1 N1 _ _ _ cells slots iv1 h2 (lv_sub hl [0, 1, 2, 3, 4] rfl) (Nat.le_succ _) (Nat.le_add_right _ _)
set_option maxHeartbeats 4000000 in
set_option maxRecDepth 100000 in
theorem law_case_4 {p : Program} {l : Launch} {e : Env} {s : State} {m : MethodId} {below : List Frame} {meth : Method} {c : Code} {G : tw_G} {b L t : Nat} {xs : Nat → Int32} (hst : l.stackTraces = false) (F : tw_F p m c code 7 s #[Value.ref b] RL G (fun q => s.heap.size ≤ q)) (hX : va_X b L xs s s.heap) (hbl : b < s.heap.size) (ht : 7 * t + 7 ≤ L) (hL : L ≤ 3584) {ad1 ad2 : Nat → Nat} {M N : jm_M} (iv : IY M N) {H : Heap} {locs : List Loc} {cells slots : Nat} {ls : Array Slot} (h2 : tw_2 G 245 ad1 (jm_c wd1 G ad1 M) 80 ad2 (jm_c wd2 G ad2 N) (fun q => s.heap.size ≤ q) s H locs) (hl : lv_has ls 7 (law_lv b (ad1 0) (ad2 0) (ad1 244) t)) (hc : cells + 1 ≤ 601024) (hs : slots + 6 ≤ 7293034) (hk : law_K p l e s m below meth c G b t ad1 ad2 cells slots) : W p l e room_1 s m #[Value.ref b] below meth c H locs cells slots (lw_Z below #[Value.ref b] s) (F0 m 388 ls []) := by
  have hx := F.1.1
  have hb := F.1.2.1
  refine lv_aload_n hx hb dL_law_388 rfl (lv_at hl 3 rfl) ?_
  refine law_arg F hX hbl h2 hl ht hL 4 0 rfl rfl 1 (by decide) dL_law_389 dL_law_390 dL_law_392 dL_law_393 dL_law_394 ?_
  refine law_arg F hX hbl h2 hl ht hL 4 0 rfl rfl 2 (by decide) dL_law_395 dL_law_396 dL_law_398 dL_law_399 dL_law_400 ?_
  refine law_arg F hX hbl h2 hl ht hL 4 0 rfl rfl 3 (by decide) dL_law_401 dL_law_402 dL_law_404 dL_law_405 dL_law_406 ?_
  obtain ⟨r, M1, u, N1, e1, e2, iv1, same⟩ := ww_rain M N iv (xs (7 * t + 1)).toInt (xs (7 * t + 2)).toInt (xs (7 * t + 3)).toInt (jm_tin _) (jm_tin _) (jm_tin _)
  refine tw_sys1 (Y1 := wd1) (Y2 := wd2) (as := [jm_i (xs (7 * t + 1)).toInt, jm_i (xs (7 * t + 2)).toInt, jm_i (xs (7 * t + 3)).toInt]) (rest := []) F h2 (ct_X11_rain M (xs (7 * t + 1)).toInt (xs (7 * t + 2)).toInt (xs (7 * t + 3)).toInt (jm_tin _) (jm_tin _) (jm_tin _)) e1 iv.1.1.1.1.rm (tw_gl kw_587 rfl) km_X11_rain kv_X11_rain rfl rfl ⟨(Nat.le_of_ble_eq_true rfl), (Nat.le_of_ble_eq_true rfl)⟩ jv1_0 ko1_0 rfl rfl hl.1 rfl (Nat.le_of_ble_eq_true rfl) dL_law_407 (Nat.le_of_succ_le hc) (Nat.le_trans (Nat.le_add_right _ _) hs) (fun H locs h2 => ?_)
  refine lv_pop hx hb dL_law_410 rfl ?_
  refine lv_aload_n hx hb dL_law_411 rfl (lv_at hl 2 rfl) ?_
  refine law_arg F hX hbl h2 hl ht hL 4 0 rfl rfl 1 (by decide) dL_law_412 dL_law_413 dL_law_415 dL_law_416 dL_law_417 ?_
  refine law_arg F hX hbl h2 hl ht hL 4 0 rfl rfl 2 (by decide) dL_law_418 dL_law_419 dL_law_421 dL_law_422 dL_law_423 ?_
  refine law_arg F hX hbl h2 hl ht hL 4 0 rfl rfl 3 (by decide) dL_law_424 dL_law_425 dL_law_427 dL_law_428 dL_law_429 ?_
  refine tw_sys2 (Y1 := wd1) (Y2 := wd2) (as := [jm_i (xs (7 * t + 1)).toInt, jm_i (xs (7 * t + 2)).toInt, jm_i (xs (7 * t + 3)).toInt]) (rest := []) F h2 (ct_X12_rain N (xs (7 * t + 1)).toInt (xs (7 * t + 2)).toInt (xs (7 * t + 3)).toInt (jm_tin _) (jm_tin _) (jm_tin _)) e2 iv.1.1.1.2.1.rm2 (tw_gl kw_1385 rfl) km_X12_rain kv_X12_rain rfl rfl ⟨(Nat.le_of_ble_eq_true rfl), (Nat.le_of_ble_eq_true rfl)⟩ jv2_0 ko2_0 rfl rfl hl.1 rfl (Nat.le_of_ble_eq_true rfl) dL_law_430 (Nat.le_of_succ_le hc) (Nat.le_trans (Nat.le_add_right _ _) hs) (fun H locs h2 => ?_)
  refine lv_pop hx hb dL_law_433 rfl ?_
  refine lv_goto (tgt := 1891) hx hb dL_law_434 (by decide) ?_
  exact hk M1 N1 _ _ _ cells slots iv1 h2 (lv_sub hl [0, 1, 2, 3, 4] rfl) (Nat.le_succ _) (Nat.le_add_right _ _)
set_option maxHeartbeats 4000000 in
set_option maxRecDepth 100000 in
theorem law_case_5 {p : Program} {l : Launch} {e : Env} {s : State} {m : MethodId} {below : List Frame} {meth : Method} {c : Code} {G : tw_G} {b L t : Nat} {xs : Nat → Int32} (hst : l.stackTraces = false) (F : tw_F p m c code 7 s #[Value.ref b] RL G (fun q => s.heap.size ≤ q)) (hX : va_X b L xs s s.heap) (hbl : b < s.heap.size) (ht : 7 * t + 7 ≤ L) (hL : L ≤ 3584) {ad1 ad2 : Nat → Nat} {M N : jm_M} (iv : IY M N) {H : Heap} {locs : List Loc} {cells slots : Nat} {ls : Array Slot} (h2 : tw_2 G 245 ad1 (jm_c wd1 G ad1 M) 80 ad2 (jm_c wd2 G ad2 N) (fun q => s.heap.size ≤ q) s H locs) (hl : lv_has ls 7 (law_lv b (ad1 0) (ad2 0) (ad1 244) t)) (hc : cells + 1 ≤ 601024) (hs : slots + 6 ≤ 7293034) (hk : law_K p l e s m below meth c G b t ad1 ad2 cells slots) : W p l e room_1 s m #[Value.ref b] below meth c H locs cells slots (lw_Z below #[Value.ref b] s) (F0 m 437 ls []) := by
  have hx := F.1.1
  have hb := F.1.2.1
  refine lv_aload_n hx hb dL_law_437 rfl (lv_at hl 3 rfl) ?_
  refine law_arg F hX hbl h2 hl ht hL 4 0 rfl rfl 1 (by decide) dL_law_438 dL_law_439 dL_law_441 dL_law_442 dL_law_443 ?_
  refine law_arg F hX hbl h2 hl ht hL 4 0 rfl rfl 2 (by decide) dL_law_444 dL_law_445 dL_law_447 dL_law_448 dL_law_449 ?_
  refine law_arg F hX hbl h2 hl ht hL 4 0 rfl rfl 3 (by decide) dL_law_450 dL_law_451 dL_law_453 dL_law_454 dL_law_455 ?_
  refine law_arg F hX hbl h2 hl ht hL 4 0 rfl rfl 4 (by decide) dL_law_456 dL_law_457 dL_law_459 dL_law_460 dL_law_461 ?_
  obtain ⟨r, M1, u, N1, e1, e2, iv1, same⟩ := ww_flag 4000 (by decide) M N iv (xs (7 * t + 1)).toInt (xs (7 * t + 2)).toInt (xs (7 * t + 3)).toInt (xs (7 * t + 4)).toInt (jm_tin _) (jm_tin _) (jm_tin _) (jm_tin _)
  refine tw_sys1 (Y1 := wd1) (Y2 := wd2) (as := [jm_i (xs (7 * t + 1)).toInt, jm_i (xs (7 * t + 2)).toInt, jm_i (xs (7 * t + 3)).toInt, jm_i (xs (7 * t + 4)).toInt]) (rest := []) F h2 (ct_X11_flag 4000 M (xs (7 * t + 1)).toInt (xs (7 * t + 2)).toInt (xs (7 * t + 3)).toInt (xs (7 * t + 4)).toInt (jm_tin _) (jm_tin _) (jm_tin _) (jm_tin _)) e1 iv.1.1.1.1.rm (tw_gl kw_603 rfl) km_X11_flag kv_X11_flag rfl rfl ⟨(Nat.le_of_ble_eq_true rfl), (Nat.le_of_ble_eq_true rfl)⟩ jv1_0 ko1_0 rfl rfl hl.1 rfl (Nat.le_of_ble_eq_true rfl) dL_law_462 (Nat.le_of_succ_le hc) (Nat.le_trans (Nat.le_add_right _ _) hs) (fun H locs h2 => ?_)
  refine lv_pop hx hb dL_law_465 rfl ?_
  refine lv_aload_n hx hb dL_law_466 rfl (lv_at hl 2 rfl) ?_
  refine law_arg F hX hbl h2 hl ht hL 4 0 rfl rfl 1 (by decide) dL_law_467 dL_law_468 dL_law_470 dL_law_471 dL_law_472 ?_
  refine law_arg F hX hbl h2 hl ht hL 4 0 rfl rfl 2 (by decide) dL_law_473 dL_law_474 dL_law_476 dL_law_477 dL_law_478 ?_
  refine law_arg F hX hbl h2 hl ht hL 4 0 rfl rfl 3 (by decide) dL_law_479 dL_law_480 dL_law_482 dL_law_483 dL_law_484 ?_
  refine law_arg F hX hbl h2 hl ht hL 4 0 rfl rfl 4 (by decide) dL_law_485 dL_law_486 dL_law_488 dL_law_489 dL_law_490 ?_
  refine tw_sys2 (Y1 := wd1) (Y2 := wd2) (as := [jm_i (xs (7 * t + 1)).toInt, jm_i (xs (7 * t + 2)).toInt, jm_i (xs (7 * t + 3)).toInt, jm_i (xs (7 * t + 4)).toInt]) (rest := []) F h2 (ct_X12_flag 4000 N (xs (7 * t + 1)).toInt (xs (7 * t + 2)).toInt (xs (7 * t + 3)).toInt (xs (7 * t + 4)).toInt (jm_tin _) (jm_tin _) (jm_tin _) (jm_tin _)) e2 iv.1.1.1.2.1.rm2 (tw_gl kw_1389 rfl) km_X12_flag kv_X12_flag rfl rfl ⟨(Nat.le_of_ble_eq_true rfl), (Nat.le_of_ble_eq_true rfl)⟩ jv2_0 ko2_0 rfl rfl hl.1 rfl (Nat.le_of_ble_eq_true rfl) dL_law_491 (Nat.le_of_succ_le hc) (Nat.le_trans (Nat.le_add_right _ _) hs) (fun H locs h2 => ?_)
  refine lv_pop hx hb dL_law_494 rfl ?_
  refine lv_goto (tgt := 1891) hx hb dL_law_495 (by decide) ?_
  exact hk M1 N1 _ _ _ cells slots iv1 h2 (lv_sub hl [0, 1, 2, 3, 4] rfl) (Nat.le_succ _) (Nat.le_add_right _ _)
set_option maxHeartbeats 4000000 in
set_option maxRecDepth 100000 in
theorem law_case_6 {p : Program} {l : Launch} {e : Env} {s : State} {m : MethodId} {below : List Frame} {meth : Method} {c : Code} {G : tw_G} {b L t : Nat} {xs : Nat → Int32} (hst : l.stackTraces = false) (F : tw_F p m c code 7 s #[Value.ref b] RL G (fun q => s.heap.size ≤ q)) (hX : va_X b L xs s s.heap) (hbl : b < s.heap.size) (ht : 7 * t + 7 ≤ L) (hL : L ≤ 3584) {ad1 ad2 : Nat → Nat} {M N : jm_M} (iv : IY M N) {H : Heap} {locs : List Loc} {cells slots : Nat} {ls : Array Slot} (h2 : tw_2 G 245 ad1 (jm_c wd1 G ad1 M) 80 ad2 (jm_c wd2 G ad2 N) (fun q => s.heap.size ≤ q) s H locs) (hl : lv_has ls 7 (law_lv b (ad1 0) (ad2 0) (ad1 244) t)) (hc : cells + 1 ≤ 601024) (hs : slots + 6 ≤ 7293034) (hk : law_K p l e s m below meth c G b t ad1 ad2 cells slots) : W p l e room_1 s m #[Value.ref b] below meth c H locs cells slots (lw_Z below #[Value.ref b] s) (F0 m 498 ls []) := by
  have hx := F.1.1
  have hb := F.1.2.1
  refine lv_aload_n hx hb dL_law_498 rfl (lv_at hl 3 rfl) ?_
  refine law_arg F hX hbl h2 hl ht hL 4 0 rfl rfl 1 (by decide) dL_law_499 dL_law_500 dL_law_502 dL_law_503 dL_law_504 ?_
  refine law_arg F hX hbl h2 hl ht hL 4 0 rfl rfl 2 (by decide) dL_law_505 dL_law_506 dL_law_508 dL_law_509 dL_law_510 ?_
  refine law_arg F hX hbl h2 hl ht hL 4 0 rfl rfl 3 (by decide) dL_law_511 dL_law_512 dL_law_514 dL_law_515 dL_law_516 ?_
  refine law_arg F hX hbl h2 hl ht hL 4 0 rfl rfl 4 (by decide) dL_law_517 dL_law_518 dL_law_520 dL_law_521 dL_law_522 ?_
  refine law_arg F hX hbl h2 hl ht hL 4 0 rfl rfl 5 (by decide) dL_law_523 dL_law_524 dL_law_526 dL_law_527 dL_law_528 ?_
  refine law_arg6 F hX hbl h2 hl ht hL 4 0 rfl rfl dL_law_529 dL_law_530 dL_law_532 dL_law_534 dL_law_535 ?_
  obtain ⟨r, M1, u, N1, e1, e2, iv1, same⟩ := ww_car M N iv (xs (7 * t + 1)).toInt (xs (7 * t + 2)).toInt (xs (7 * t + 3)).toInt (xs (7 * t + 4)).toInt (xs (7 * t + 5)).toInt (xs (7 * t + 6)).toInt (jm_tin _) (jm_tin _) (jm_tin _) (jm_tin _) (jm_tin _) (jm_tin _)
  refine tw_sys1 (Y1 := wd1) (Y2 := wd2) (as := [jm_i (xs (7 * t + 1)).toInt, jm_i (xs (7 * t + 2)).toInt, jm_i (xs (7 * t + 3)).toInt, jm_i (xs (7 * t + 4)).toInt, jm_i (xs (7 * t + 5)).toInt, jm_i (xs (7 * t + 6)).toInt]) (rest := []) F h2 (ct_X11_car M (xs (7 * t + 1)).toInt (xs (7 * t + 2)).toInt (xs (7 * t + 3)).toInt (xs (7 * t + 4)).toInt (xs (7 * t + 5)).toInt (xs (7 * t + 6)).toInt (jm_tin _) (jm_tin _) (jm_tin _) (jm_tin _) (jm_tin _) (jm_tin _)) e1 iv.1.1.1.1.rm (tw_gl kw_607 rfl) km_X11_car kv_X11_car rfl rfl ⟨(Nat.le_of_ble_eq_true rfl), (Nat.le_of_ble_eq_true rfl)⟩ jv1_0 ko1_0 rfl rfl hl.1 rfl (Nat.le_of_ble_eq_true rfl) dL_law_536 (Nat.le_of_succ_le hc) (Nat.le_trans (Nat.le_add_right _ _) hs) (fun H locs h2 => ?_)
  refine lv_pop hx hb dL_law_539 rfl ?_
  refine lv_aload_n hx hb dL_law_540 rfl (lv_at hl 2 rfl) ?_
  refine law_arg F hX hbl h2 hl ht hL 4 0 rfl rfl 1 (by decide) dL_law_541 dL_law_542 dL_law_544 dL_law_545 dL_law_546 ?_
  refine law_arg F hX hbl h2 hl ht hL 4 0 rfl rfl 2 (by decide) dL_law_547 dL_law_548 dL_law_550 dL_law_551 dL_law_552 ?_
  refine law_arg F hX hbl h2 hl ht hL 4 0 rfl rfl 3 (by decide) dL_law_553 dL_law_554 dL_law_556 dL_law_557 dL_law_558 ?_
  refine law_arg F hX hbl h2 hl ht hL 4 0 rfl rfl 4 (by decide) dL_law_559 dL_law_560 dL_law_562 dL_law_563 dL_law_564 ?_
  refine law_arg F hX hbl h2 hl ht hL 4 0 rfl rfl 5 (by decide) dL_law_565 dL_law_566 dL_law_568 dL_law_569 dL_law_570 ?_
  refine law_arg6 F hX hbl h2 hl ht hL 4 0 rfl rfl dL_law_571 dL_law_572 dL_law_574 dL_law_576 dL_law_577 ?_
  refine tw_sys2 (Y1 := wd1) (Y2 := wd2) (as := [jm_i (xs (7 * t + 1)).toInt, jm_i (xs (7 * t + 2)).toInt, jm_i (xs (7 * t + 3)).toInt, jm_i (xs (7 * t + 4)).toInt, jm_i (xs (7 * t + 5)).toInt, jm_i (xs (7 * t + 6)).toInt]) (rest := []) F h2 (ct_X12_car N (xs (7 * t + 1)).toInt (xs (7 * t + 2)).toInt (xs (7 * t + 3)).toInt (xs (7 * t + 4)).toInt (xs (7 * t + 5)).toInt (xs (7 * t + 6)).toInt (jm_tin _) (jm_tin _) (jm_tin _) (jm_tin _) (jm_tin _) (jm_tin _)) e2 iv.1.1.1.2.1.rm2 (tw_gl kw_1393 rfl) km_X12_car kv_X12_car rfl rfl ⟨(Nat.le_of_ble_eq_true rfl), (Nat.le_of_ble_eq_true rfl)⟩ jv2_0 ko2_0 rfl rfl hl.1 rfl (Nat.le_of_ble_eq_true rfl) dL_law_578 (Nat.le_of_succ_le hc) (Nat.le_trans (Nat.le_add_right _ _) hs) (fun H locs h2 => ?_)
  refine lv_pop hx hb dL_law_581 rfl ?_
  refine lv_goto (tgt := 1891) hx hb dL_law_582 (by decide) ?_
  exact hk M1 N1 _ _ _ cells slots iv1 h2 (lv_sub hl [0, 1, 2, 3, 4] rfl) (Nat.le_succ _) (Nat.le_add_right _ _)
set_option maxHeartbeats 4000000 in
set_option maxRecDepth 100000 in
theorem law_case_7 {p : Program} {l : Launch} {e : Env} {s : State} {m : MethodId} {below : List Frame} {meth : Method} {c : Code} {G : tw_G} {b L t : Nat} {xs : Nat → Int32} (hst : l.stackTraces = false) (F : tw_F p m c code 7 s #[Value.ref b] RL G (fun q => s.heap.size ≤ q)) (hX : va_X b L xs s s.heap) (hbl : b < s.heap.size) (ht : 7 * t + 7 ≤ L) (hL : L ≤ 3584) {ad1 ad2 : Nat → Nat} {M N : jm_M} (iv : IY M N) {H : Heap} {locs : List Loc} {cells slots : Nat} {ls : Array Slot} (h2 : tw_2 G 245 ad1 (jm_c wd1 G ad1 M) 80 ad2 (jm_c wd2 G ad2 N) (fun q => s.heap.size ≤ q) s H locs) (hl : lv_has ls 7 (law_lv b (ad1 0) (ad2 0) (ad1 244) t)) (hc : cells + 1 ≤ 601024) (hs : slots + 6 ≤ 7293034) (hk : law_K p l e s m below meth c G b t ad1 ad2 cells slots) : W p l e room_1 s m #[Value.ref b] below meth c H locs cells slots (lw_Z below #[Value.ref b] s) (F0 m 585 ls []) := by
  have hx := F.1.1
  have hb := F.1.2.1
  refine lv_aload_n hx hb dL_law_585 rfl (lv_at hl 3 rfl) ?_
  refine law_arg F hX hbl h2 hl ht hL 4 0 rfl rfl 1 (by decide) dL_law_586 dL_law_587 dL_law_589 dL_law_590 dL_law_591 ?_
  refine law_arg F hX hbl h2 hl ht hL 4 0 rfl rfl 2 (by decide) dL_law_592 dL_law_593 dL_law_595 dL_law_596 dL_law_597 ?_
  refine law_arg F hX hbl h2 hl ht hL 4 0 rfl rfl 3 (by decide) dL_law_598 dL_law_599 dL_law_601 dL_law_602 dL_law_603 ?_
  obtain ⟨r, M1, u, N1, e1, e2, iv1, same⟩ := ww_tyre M N iv (xs (7 * t + 1)).toInt (xs (7 * t + 2)).toInt (xs (7 * t + 3)).toInt (jm_tin _) (jm_tin _) (jm_tin _)
  refine tw_sys1 (Y1 := wd1) (Y2 := wd2) (as := [jm_i (xs (7 * t + 1)).toInt, jm_i (xs (7 * t + 2)).toInt, jm_i (xs (7 * t + 3)).toInt]) (rest := []) F h2 (ct_X11_tyre M (xs (7 * t + 1)).toInt (xs (7 * t + 2)).toInt (xs (7 * t + 3)).toInt (jm_tin _) (jm_tin _) (jm_tin _)) e1 iv.1.1.1.1.rm (tw_gl kw_615 rfl) km_X11_tyre kv_X11_tyre rfl rfl ⟨(Nat.le_of_ble_eq_true rfl), (Nat.le_of_ble_eq_true rfl)⟩ jv1_0 ko1_0 rfl rfl hl.1 rfl (Nat.le_of_ble_eq_true rfl) dL_law_604 (Nat.le_of_succ_le hc) (Nat.le_trans (Nat.le_add_right _ _) hs) (fun H locs h2 => ?_)
  refine lv_pop hx hb dL_law_607 rfl ?_
  refine lv_aload_n hx hb dL_law_608 rfl (lv_at hl 2 rfl) ?_
  refine law_arg F hX hbl h2 hl ht hL 4 0 rfl rfl 1 (by decide) dL_law_609 dL_law_610 dL_law_612 dL_law_613 dL_law_614 ?_
  refine law_arg F hX hbl h2 hl ht hL 4 0 rfl rfl 2 (by decide) dL_law_615 dL_law_616 dL_law_618 dL_law_619 dL_law_620 ?_
  refine law_arg F hX hbl h2 hl ht hL 4 0 rfl rfl 3 (by decide) dL_law_621 dL_law_622 dL_law_624 dL_law_625 dL_law_626 ?_
  refine tw_sys2 (Y1 := wd1) (Y2 := wd2) (as := [jm_i (xs (7 * t + 1)).toInt, jm_i (xs (7 * t + 2)).toInt, jm_i (xs (7 * t + 3)).toInt]) (rest := []) F h2 (ct_X12_tyre N (xs (7 * t + 1)).toInt (xs (7 * t + 2)).toInt (xs (7 * t + 3)).toInt (jm_tin _) (jm_tin _) (jm_tin _)) e2 iv.1.1.1.2.1.rm2 (tw_gl kw_1401 rfl) km_X12_tyre kv_X12_tyre rfl rfl ⟨(Nat.le_of_ble_eq_true rfl), (Nat.le_of_ble_eq_true rfl)⟩ jv2_0 ko2_0 rfl rfl hl.1 rfl (Nat.le_of_ble_eq_true rfl) dL_law_627 (Nat.le_of_succ_le hc) (Nat.le_trans (Nat.le_add_right _ _) hs) (fun H locs h2 => ?_)
  refine lv_pop hx hb dL_law_630 rfl ?_
  refine lv_goto (tgt := 1891) hx hb dL_law_631 (by decide) ?_
  exact hk M1 N1 _ _ _ cells slots iv1 h2 (lv_sub hl [0, 1, 2, 3, 4] rfl) (Nat.le_succ _) (Nat.le_add_right _ _)
set_option maxHeartbeats 4000000 in
set_option maxRecDepth 100000 in
theorem law_case_8 {p : Program} {l : Launch} {e : Env} {s : State} {m : MethodId} {below : List Frame} {meth : Method} {c : Code} {G : tw_G} {b L t : Nat} {xs : Nat → Int32} (hst : l.stackTraces = false) (F : tw_F p m c code 7 s #[Value.ref b] RL G (fun q => s.heap.size ≤ q)) (hX : va_X b L xs s s.heap) (hbl : b < s.heap.size) (ht : 7 * t + 7 ≤ L) (hL : L ≤ 3584) {ad1 ad2 : Nat → Nat} {M N : jm_M} (iv : IY M N) {H : Heap} {locs : List Loc} {cells slots : Nat} {ls : Array Slot} (h2 : tw_2 G 245 ad1 (jm_c wd1 G ad1 M) 80 ad2 (jm_c wd2 G ad2 N) (fun q => s.heap.size ≤ q) s H locs) (hl : lv_has ls 7 (law_lv b (ad1 0) (ad2 0) (ad1 244) t)) (hc : cells + 1 ≤ 601024) (hs : slots + 6 ≤ 7293034) (hk : law_K p l e s m below meth c G b t ad1 ad2 cells slots) : W p l e room_1 s m #[Value.ref b] below meth c H locs cells slots (lw_Z below #[Value.ref b] s) (F0 m 634 ls []) := by
  have hx := F.1.1
  have hb := F.1.2.1
  refine lv_aload_n hx hb dL_law_634 rfl (lv_at hl 3 rfl) ?_
  refine law_arg F hX hbl h2 hl ht hL 4 0 rfl rfl 1 (by decide) dL_law_635 dL_law_636 dL_law_638 dL_law_639 dL_law_640 ?_
  refine law_arg F hX hbl h2 hl ht hL 4 0 rfl rfl 2 (by decide) dL_law_641 dL_law_642 dL_law_644 dL_law_645 dL_law_646 ?_
  refine law_arg F hX hbl h2 hl ht hL 4 0 rfl rfl 3 (by decide) dL_law_647 dL_law_648 dL_law_650 dL_law_651 dL_law_652 ?_
  refine law_arg F hX hbl h2 hl ht hL 4 0 rfl rfl 4 (by decide) dL_law_653 dL_law_654 dL_law_656 dL_law_657 dL_law_658 ?_
  obtain ⟨r, M1, u, N1, e1, e2, iv1, same⟩ := ww_order 4000 (by decide) M N iv (xs (7 * t + 1)).toInt (xs (7 * t + 2)).toInt (xs (7 * t + 3)).toInt (xs (7 * t + 4)).toInt (jm_tin _) (jm_tin _) (jm_tin _) (jm_tin _)
  refine tw_sys1 (Y1 := wd1) (Y2 := wd2) (as := [jm_i (xs (7 * t + 1)).toInt, jm_i (xs (7 * t + 2)).toInt, jm_i (xs (7 * t + 3)).toInt, jm_i (xs (7 * t + 4)).toInt]) (rest := []) F h2 (ct_X11_order 4000 M (xs (7 * t + 1)).toInt (xs (7 * t + 2)).toInt (xs (7 * t + 3)).toInt (xs (7 * t + 4)).toInt (jm_tin _) (jm_tin _) (jm_tin _) (jm_tin _)) e1 iv.1.1.1.1.rm (tw_gl kw_625 rfl) km_X11_order kv_X11_order rfl rfl ⟨(Nat.le_of_ble_eq_true rfl), (Nat.le_of_ble_eq_true rfl)⟩ jv1_0 ko1_0 rfl rfl hl.1 rfl (Nat.le_of_ble_eq_true rfl) dL_law_659 (Nat.le_of_succ_le hc) (Nat.le_trans (Nat.le_add_right _ _) hs) (fun H locs h2 => ?_)
  refine lv_pop hx hb dL_law_662 rfl ?_
  refine lv_aload_n hx hb dL_law_663 rfl (lv_at hl 2 rfl) ?_
  refine law_arg F hX hbl h2 hl ht hL 4 0 rfl rfl 1 (by decide) dL_law_664 dL_law_665 dL_law_667 dL_law_668 dL_law_669 ?_
  refine law_arg F hX hbl h2 hl ht hL 4 0 rfl rfl 2 (by decide) dL_law_670 dL_law_671 dL_law_673 dL_law_674 dL_law_675 ?_
  refine law_arg F hX hbl h2 hl ht hL 4 0 rfl rfl 3 (by decide) dL_law_676 dL_law_677 dL_law_679 dL_law_680 dL_law_681 ?_
  refine law_arg F hX hbl h2 hl ht hL 4 0 rfl rfl 4 (by decide) dL_law_682 dL_law_683 dL_law_685 dL_law_686 dL_law_687 ?_
  refine tw_sys2 (Y1 := wd1) (Y2 := wd2) (as := [jm_i (xs (7 * t + 1)).toInt, jm_i (xs (7 * t + 2)).toInt, jm_i (xs (7 * t + 3)).toInt, jm_i (xs (7 * t + 4)).toInt]) (rest := []) F h2 (ct_X12_order 4000 N (xs (7 * t + 1)).toInt (xs (7 * t + 2)).toInt (xs (7 * t + 3)).toInt (xs (7 * t + 4)).toInt (jm_tin _) (jm_tin _) (jm_tin _) (jm_tin _)) e2 iv.1.1.1.2.1.rm2 (tw_gl kw_1409 rfl) km_X12_order kv_X12_order rfl rfl ⟨(Nat.le_of_ble_eq_true rfl), (Nat.le_of_ble_eq_true rfl)⟩ jv2_0 ko2_0 rfl rfl hl.1 rfl (Nat.le_of_ble_eq_true rfl) dL_law_688 (Nat.le_of_succ_le hc) (Nat.le_trans (Nat.le_add_right _ _) hs) (fun H locs h2 => ?_)
  refine lv_pop hx hb dL_law_691 rfl ?_
  refine lv_goto (tgt := 1891) hx hb dL_law_692 (by decide) ?_
  exact hk M1 N1 _ _ _ cells slots iv1 h2 (lv_sub hl [0, 1, 2, 3, 4] rfl) (Nat.le_succ _) (Nat.le_add_right _ _)
set_option maxHeartbeats 4000000 in
set_option maxRecDepth 100000 in
theorem law_case_9 {p : Program} {l : Launch} {e : Env} {s : State} {m : MethodId} {below : List Frame} {meth : Method} {c : Code} {G : tw_G} {b L t : Nat} {xs : Nat → Int32} (hst : l.stackTraces = false) (F : tw_F p m c code 7 s #[Value.ref b] RL G (fun q => s.heap.size ≤ q)) (hX : va_X b L xs s s.heap) (hbl : b < s.heap.size) (ht : 7 * t + 7 ≤ L) (hL : L ≤ 3584) {ad1 ad2 : Nat → Nat} {M N : jm_M} (iv : IY M N) {H : Heap} {locs : List Loc} {cells slots : Nat} {ls : Array Slot} (h2 : tw_2 G 245 ad1 (jm_c wd1 G ad1 M) 80 ad2 (jm_c wd2 G ad2 N) (fun q => s.heap.size ≤ q) s H locs) (hl : lv_has ls 7 (law_lv b (ad1 0) (ad2 0) (ad1 244) t)) (hc : cells + 1 ≤ 601024) (hs : slots + 6 ≤ 7293034) (hk : law_K p l e s m below meth c G b t ad1 ad2 cells slots) : W p l e room_1 s m #[Value.ref b] below meth c H locs cells slots (lw_Z below #[Value.ref b] s) (F0 m 695 ls []) := by
  have hx := F.1.1
  have hb := F.1.2.1
  refine lv_aload_n hx hb dL_law_695 rfl (lv_at hl 3 rfl) ?_
  refine law_arg F hX hbl h2 hl ht hL 4 0 rfl rfl 1 (by decide) dL_law_696 dL_law_697 dL_law_699 dL_law_700 dL_law_701 ?_
  refine law_arg F hX hbl h2 hl ht hL 4 0 rfl rfl 2 (by decide) dL_law_702 dL_law_703 dL_law_705 dL_law_706 dL_law_707 ?_
  refine law_arg F hX hbl h2 hl ht hL 4 0 rfl rfl 3 (by decide) dL_law_708 dL_law_709 dL_law_711 dL_law_712 dL_law_713 ?_
  refine law_arg F hX hbl h2 hl ht hL 4 0 rfl rfl 4 (by decide) dL_law_714 dL_law_715 dL_law_717 dL_law_718 dL_law_719 ?_
  obtain ⟨r, M1, u, N1, e1, e2, iv1, same⟩ := ww_stop M N iv (xs (7 * t + 1)).toInt (xs (7 * t + 2)).toInt (xs (7 * t + 3)).toInt (xs (7 * t + 4)).toInt (jm_tin _) (jm_tin _) (jm_tin _) (jm_tin _)
  refine tw_sys1 (Y1 := wd1) (Y2 := wd2) (as := [jm_i (xs (7 * t + 1)).toInt, jm_i (xs (7 * t + 2)).toInt, jm_i (xs (7 * t + 3)).toInt, jm_i (xs (7 * t + 4)).toInt]) (rest := []) F h2 (ct_X11_stop M (xs (7 * t + 1)).toInt (xs (7 * t + 2)).toInt (xs (7 * t + 3)).toInt (xs (7 * t + 4)).toInt (jm_tin _) (jm_tin _) (jm_tin _) (jm_tin _)) e1 iv.1.1.1.1.rm (tw_gl kw_629 rfl) km_X11_stop kv_X11_stop rfl rfl ⟨(Nat.le_of_ble_eq_true rfl), (Nat.le_of_ble_eq_true rfl)⟩ jv1_0 ko1_0 rfl rfl hl.1 rfl (Nat.le_of_ble_eq_true rfl) dL_law_720 (Nat.le_of_succ_le hc) (Nat.le_trans (Nat.le_add_right _ _) hs) (fun H locs h2 => ?_)
  refine lv_pop hx hb dL_law_723 rfl ?_
  refine lv_aload_n hx hb dL_law_724 rfl (lv_at hl 2 rfl) ?_
  refine law_arg F hX hbl h2 hl ht hL 4 0 rfl rfl 1 (by decide) dL_law_725 dL_law_726 dL_law_728 dL_law_729 dL_law_730 ?_
  refine law_arg F hX hbl h2 hl ht hL 4 0 rfl rfl 2 (by decide) dL_law_731 dL_law_732 dL_law_734 dL_law_735 dL_law_736 ?_
  refine law_arg F hX hbl h2 hl ht hL 4 0 rfl rfl 3 (by decide) dL_law_737 dL_law_738 dL_law_740 dL_law_741 dL_law_742 ?_
  refine law_arg F hX hbl h2 hl ht hL 4 0 rfl rfl 4 (by decide) dL_law_743 dL_law_744 dL_law_746 dL_law_747 dL_law_748 ?_
  refine tw_sys2 (Y1 := wd1) (Y2 := wd2) (as := [jm_i (xs (7 * t + 1)).toInt, jm_i (xs (7 * t + 2)).toInt, jm_i (xs (7 * t + 3)).toInt, jm_i (xs (7 * t + 4)).toInt]) (rest := []) F h2 (ct_X12_stop N (xs (7 * t + 1)).toInt (xs (7 * t + 2)).toInt (xs (7 * t + 3)).toInt (xs (7 * t + 4)).toInt (jm_tin _) (jm_tin _) (jm_tin _) (jm_tin _)) e2 iv.1.1.1.2.1.rm2 (tw_gl kw_1417 rfl) km_X12_stop kv_X12_stop rfl rfl ⟨(Nat.le_of_ble_eq_true rfl), (Nat.le_of_ble_eq_true rfl)⟩ jv2_0 ko2_0 rfl rfl hl.1 rfl (Nat.le_of_ble_eq_true rfl) dL_law_749 (Nat.le_of_succ_le hc) (Nat.le_trans (Nat.le_add_right _ _) hs) (fun H locs h2 => ?_)
  refine lv_pop hx hb dL_law_752 rfl ?_
  refine lv_goto (tgt := 1891) hx hb dL_law_753 (by decide) ?_
  exact hk M1 N1 _ _ _ cells slots iv1 h2 (lv_sub hl [0, 1, 2, 3, 4] rfl) (Nat.le_succ _) (Nat.le_add_right _ _)
set_option maxHeartbeats 4000000 in
set_option maxRecDepth 100000 in
theorem law_case_10 {p : Program} {l : Launch} {e : Env} {s : State} {m : MethodId} {below : List Frame} {meth : Method} {c : Code} {G : tw_G} {b L t : Nat} {xs : Nat → Int32} (hst : l.stackTraces = false) (F : tw_F p m c code 7 s #[Value.ref b] RL G (fun q => s.heap.size ≤ q)) (hX : va_X b L xs s s.heap) (hbl : b < s.heap.size) (ht : 7 * t + 7 ≤ L) (hL : L ≤ 3584) {ad1 ad2 : Nat → Nat} {M N : jm_M} (iv : IY M N) {H : Heap} {locs : List Loc} {cells slots : Nat} {ls : Array Slot} (h2 : tw_2 G 245 ad1 (jm_c wd1 G ad1 M) 80 ad2 (jm_c wd2 G ad2 N) (fun q => s.heap.size ≤ q) s H locs) (hl : lv_has ls 7 (law_lv b (ad1 0) (ad2 0) (ad1 244) t)) (hc : cells + 1 ≤ 601024) (hs : slots + 6 ≤ 7293034) (hk : law_K p l e s m below meth c G b t ad1 ad2 cells slots) : W p l e room_1 s m #[Value.ref b] below meth c H locs cells slots (lw_Z below #[Value.ref b] s) (F0 m 756 ls []) := by
  have hx := F.1.1
  have hb := F.1.2.1
  refine lv_aload_n hx hb dL_law_756 rfl (lv_at hl 3 rfl) ?_
  refine law_arg F hX hbl h2 hl ht hL 4 0 rfl rfl 1 (by decide) dL_law_757 dL_law_758 dL_law_760 dL_law_761 dL_law_762 ?_
  refine law_arg F hX hbl h2 hl ht hL 4 0 rfl rfl 2 (by decide) dL_law_763 dL_law_764 dL_law_766 dL_law_767 dL_law_768 ?_
  obtain ⟨r, M1, u, N1, e1, e2, iv1, same⟩ := ww_drop 4000 (by decide) M N iv (xs (7 * t + 1)).toInt (xs (7 * t + 2)).toInt (jm_tin _) (jm_tin _)
  refine tw_sys1 (Y1 := wd1) (Y2 := wd2) (as := [jm_i (xs (7 * t + 1)).toInt, jm_i (xs (7 * t + 2)).toInt]) (rest := []) F h2 (ct_X11_drop 4000 M (xs (7 * t + 1)).toInt (xs (7 * t + 2)).toInt (jm_tin _) (jm_tin _)) e1 iv.1.1.1.1.rm (tw_gl kw_633 rfl) km_X11_drop kv_X11_drop rfl rfl ⟨(Nat.le_of_ble_eq_true rfl), (Nat.le_of_ble_eq_true rfl)⟩ jv1_0 ko1_0 rfl rfl hl.1 rfl (Nat.le_of_ble_eq_true rfl) dL_law_769 (Nat.le_of_succ_le hc) (Nat.le_trans (Nat.le_add_right _ _) hs) (fun H locs h2 => ?_)
  refine lv_pop hx hb dL_law_772 rfl ?_
  refine lv_aload_n hx hb dL_law_773 rfl (lv_at hl 2 rfl) ?_
  refine law_arg F hX hbl h2 hl ht hL 4 0 rfl rfl 1 (by decide) dL_law_774 dL_law_775 dL_law_777 dL_law_778 dL_law_779 ?_
  refine law_arg F hX hbl h2 hl ht hL 4 0 rfl rfl 2 (by decide) dL_law_780 dL_law_781 dL_law_783 dL_law_784 dL_law_785 ?_
  refine tw_sys2 (Y1 := wd1) (Y2 := wd2) (as := [jm_i (xs (7 * t + 1)).toInt, jm_i (xs (7 * t + 2)).toInt]) (rest := []) F h2 (ct_X12_drop 4000 N (xs (7 * t + 1)).toInt (xs (7 * t + 2)).toInt (jm_tin _) (jm_tin _)) e2 iv.1.1.1.2.1.rm2 (tw_gl kw_1432 rfl) km_X12_drop kv_X12_drop rfl rfl ⟨(Nat.le_of_ble_eq_true rfl), (Nat.le_of_ble_eq_true rfl)⟩ jv2_0 ko2_0 rfl rfl hl.1 rfl (Nat.le_of_ble_eq_true rfl) dL_law_786 (Nat.le_of_succ_le hc) (Nat.le_trans (Nat.le_add_right _ _) hs) (fun H locs h2 => ?_)
  refine lv_pop hx hb dL_law_789 rfl ?_
  refine lv_goto (tgt := 1891) hx hb dL_law_790 (by decide) ?_
  exact hk M1 N1 _ _ _ cells slots iv1 h2 (lv_sub hl [0, 1, 2, 3, 4] rfl) (Nat.le_succ _) (Nat.le_add_right _ _)
set_option maxHeartbeats 4000000 in
set_option maxRecDepth 100000 in
theorem law_case_11 {p : Program} {l : Launch} {e : Env} {s : State} {m : MethodId} {below : List Frame} {meth : Method} {c : Code} {G : tw_G} {b L t : Nat} {xs : Nat → Int32} (hst : l.stackTraces = false) (F : tw_F p m c code 7 s #[Value.ref b] RL G (fun q => s.heap.size ≤ q)) (hX : va_X b L xs s s.heap) (hbl : b < s.heap.size) (ht : 7 * t + 7 ≤ L) (hL : L ≤ 3584) {ad1 ad2 : Nat → Nat} {M N : jm_M} (iv : IY M N) {H : Heap} {locs : List Loc} {cells slots : Nat} {ls : Array Slot} (h2 : tw_2 G 245 ad1 (jm_c wd1 G ad1 M) 80 ad2 (jm_c wd2 G ad2 N) (fun q => s.heap.size ≤ q) s H locs) (hl : lv_has ls 7 (law_lv b (ad1 0) (ad2 0) (ad1 244) t)) (hc : cells + 1 ≤ 601024) (hs : slots + 6 ≤ 7293034) (hk : law_K p l e s m below meth c G b t ad1 ad2 cells slots) : W p l e room_1 s m #[Value.ref b] below meth c H locs cells slots (lw_Z below #[Value.ref b] s) (F0 m 793 ls []) := by
  have hx := F.1.1
  have hb := F.1.2.1
  refine lv_aload_n hx hb dL_law_793 rfl (lv_at hl 3 rfl) ?_
  refine law_arg F hX hbl h2 hl ht hL 4 0 rfl rfl 1 (by decide) dL_law_794 dL_law_795 dL_law_797 dL_law_798 dL_law_799 ?_
  obtain ⟨r, M1, u, N1, e1, e2, iv1, same⟩ := ww_plan 4000 (by decide) M N iv (xs (7 * t + 1)).toInt (jm_tin _)
  refine tw_sys1 (Y1 := wd1) (Y2 := wd2) (as := [jm_i (xs (7 * t + 1)).toInt]) (rest := []) F h2 (ct_X11_plan 4000 M (xs (7 * t + 1)).toInt (jm_tin _)) e1 iv.1.1.1.1.rm (tw_gl kw_645 rfl) km_X11_plan kv_X11_plan rfl rfl ⟨(Nat.le_of_ble_eq_true rfl), (Nat.le_of_ble_eq_true rfl)⟩ jv1_0 ko1_0 rfl rfl hl.1 rfl (Nat.le_of_ble_eq_true rfl) dL_law_800 (Nat.le_of_succ_le hc) (Nat.le_trans (Nat.le_add_right _ _) hs) (fun H locs h2 => ?_)
  refine lv_pop hx hb dL_law_803 rfl ?_
  refine lv_aload_n hx hb dL_law_804 rfl (lv_at hl 2 rfl) ?_
  refine law_arg F hX hbl h2 hl ht hL 4 0 rfl rfl 1 (by decide) dL_law_805 dL_law_806 dL_law_808 dL_law_809 dL_law_810 ?_
  refine tw_sys2 (Y1 := wd1) (Y2 := wd2) (as := [jm_i (xs (7 * t + 1)).toInt]) (rest := []) F h2 (ct_X12_plan 4000 N (xs (7 * t + 1)).toInt (jm_tin _)) e2 iv.1.1.1.2.1.rm2 (tw_gl kw_1452 rfl) km_X12_plan kv_X12_plan rfl rfl ⟨(Nat.le_of_ble_eq_true rfl), (Nat.le_of_ble_eq_true rfl)⟩ jv2_0 ko2_0 rfl rfl hl.1 rfl (Nat.le_of_ble_eq_true rfl) dL_law_811 (Nat.le_of_succ_le hc) (Nat.le_trans (Nat.le_add_right _ _) hs) (fun H locs h2 => ?_)
  refine lv_pop hx hb dL_law_814 rfl ?_
  refine lv_goto (tgt := 1891) hx hb dL_law_815 (by decide) ?_
  exact hk M1 N1 _ _ _ cells slots iv1 h2 (lv_sub hl [0, 1, 2, 3, 4] rfl) (Nat.le_succ _) (Nat.le_add_right _ _)
set_option maxHeartbeats 4000000 in
set_option maxRecDepth 100000 in
theorem law_case_12 {p : Program} {l : Launch} {e : Env} {s : State} {m : MethodId} {below : List Frame} {meth : Method} {c : Code} {G : tw_G} {b L t : Nat} {xs : Nat → Int32} (hst : l.stackTraces = false) (F : tw_F p m c code 7 s #[Value.ref b] RL G (fun q => s.heap.size ≤ q)) (hX : va_X b L xs s s.heap) (hbl : b < s.heap.size) (ht : 7 * t + 7 ≤ L) (hL : L ≤ 3584) {ad1 ad2 : Nat → Nat} {M N : jm_M} (iv : IY M N) {H : Heap} {locs : List Loc} {cells slots : Nat} {ls : Array Slot} (h2 : tw_2 G 245 ad1 (jm_c wd1 G ad1 M) 80 ad2 (jm_c wd2 G ad2 N) (fun q => s.heap.size ≤ q) s H locs) (hl : lv_has ls 7 (law_lv b (ad1 0) (ad2 0) (ad1 244) t)) (hc : cells + 1 ≤ 601024) (hs : slots + 6 ≤ 7293034) (hk : law_K p l e s m below meth c G b t ad1 ad2 cells slots) : W p l e room_1 s m #[Value.ref b] below meth c H locs cells slots (lw_Z below #[Value.ref b] s) (F0 m 818 ls []) := by
  have hx := F.1.1
  have hb := F.1.2.1
  refine lv_aload_n hx hb dL_law_818 rfl (lv_at hl 3 rfl) ?_
  refine law_arg F hX hbl h2 hl ht hL 4 0 rfl rfl 1 (by decide) dL_law_819 dL_law_820 dL_law_822 dL_law_823 dL_law_824 ?_
  obtain ⟨r, M1, u, N1, e1, e2, iv1, same⟩ := ww_unplan 4000 (by decide) M N iv (xs (7 * t + 1)).toInt (jm_tin _)
  refine tw_sys1 (Y1 := wd1) (Y2 := wd2) (as := [jm_i (xs (7 * t + 1)).toInt]) (rest := []) F h2 (ct_X11_unplan M (xs (7 * t + 1)).toInt (jm_tin _)) e1 iv.1.1.1.1.rm (tw_gl kw_836 rfl) km_X11_unplan kv_X11_unplan rfl rfl ⟨(Nat.le_of_ble_eq_true rfl), (Nat.le_of_ble_eq_true rfl)⟩ jv1_0 ko1_0 rfl rfl hl.1 rfl (Nat.le_of_ble_eq_true rfl) dL_law_825 (Nat.le_of_succ_le hc) (Nat.le_trans (Nat.le_add_right _ _) hs) (fun H locs h2 => ?_)
  refine lv_pop hx hb dL_law_828 rfl ?_
  refine lv_aload_n hx hb dL_law_829 rfl (lv_at hl 2 rfl) ?_
  refine law_arg F hX hbl h2 hl ht hL 4 0 rfl rfl 1 (by decide) dL_law_830 dL_law_831 dL_law_833 dL_law_834 dL_law_835 ?_
  refine tw_sys2 (Y1 := wd1) (Y2 := wd2) (as := [jm_i (xs (7 * t + 1)).toInt]) (rest := []) F h2 (ct_X12_unplan 4000 N (xs (7 * t + 1)).toInt (jm_tin _)) e2 iv.1.1.1.2.1.rm2 (tw_gl kw_1436 rfl) km_X12_unplan kv_X12_unplan rfl rfl ⟨(Nat.le_of_ble_eq_true rfl), (Nat.le_of_ble_eq_true rfl)⟩ jv2_0 ko2_0 rfl rfl hl.1 rfl (Nat.le_of_ble_eq_true rfl) dL_law_836 (Nat.le_of_succ_le hc) (Nat.le_trans (Nat.le_add_right _ _) hs) (fun H locs h2 => ?_)
  refine lv_pop hx hb dL_law_839 rfl ?_
  refine lv_goto (tgt := 1891) hx hb dL_law_840 (by decide) ?_
  exact hk M1 N1 _ _ _ cells slots iv1 h2 (lv_sub hl [0, 1, 2, 3, 4] rfl) (Nat.le_succ _) (Nat.le_add_right _ _)
set_option maxHeartbeats 4000000 in
set_option maxRecDepth 100000 in
theorem law_case_13 {p : Program} {l : Launch} {e : Env} {s : State} {m : MethodId} {below : List Frame} {meth : Method} {c : Code} {G : tw_G} {b L t : Nat} {xs : Nat → Int32} (hst : l.stackTraces = false) (F : tw_F p m c code 7 s #[Value.ref b] RL G (fun q => s.heap.size ≤ q)) (hX : va_X b L xs s s.heap) (hbl : b < s.heap.size) (ht : 7 * t + 7 ≤ L) (hL : L ≤ 3584) {ad1 ad2 : Nat → Nat} {M N : jm_M} (iv : IY M N) {H : Heap} {locs : List Loc} {cells slots : Nat} {ls : Array Slot} (h2 : tw_2 G 245 ad1 (jm_c wd1 G ad1 M) 80 ad2 (jm_c wd2 G ad2 N) (fun q => s.heap.size ≤ q) s H locs) (hl : lv_has ls 7 (law_lv b (ad1 0) (ad2 0) (ad1 244) t)) (hc : cells + 1 ≤ 601024) (hs : slots + 6 ≤ 7293034) (hk : law_K p l e s m below meth c G b t ad1 ad2 cells slots) : W p l e room_1 s m #[Value.ref b] below meth c H locs cells slots (lw_Z below #[Value.ref b] s) (F0 m 843 ls []) := by
  have hx := F.1.1
  have hb := F.1.2.1
  refine lv_aload_n hx hb dL_law_843 rfl (lv_at hl 3 rfl) ?_
  refine law_arg F hX hbl h2 hl ht hL 4 0 rfl rfl 1 (by decide) dL_law_844 dL_law_845 dL_law_847 dL_law_848 dL_law_849 ?_
  obtain ⟨r, M1, u, N1, e1, e2, iv1, same⟩ := ww_count 4000 (by decide) M N iv (xs (7 * t + 1)).toInt (jm_tin _)
  refine tw_sys1 (Y1 := wd1) (Y2 := wd2) (as := [jm_i (xs (7 * t + 1)).toInt]) (rest := []) F h2 (ct_X11_count 4000 M (xs (7 * t + 1)).toInt (jm_tin _)) e1 iv.1.1.1.1.rm (tw_gl kw_840 rfl) km_X11_count kv_X11_count rfl rfl ⟨(Nat.le_of_ble_eq_true rfl), (Nat.le_of_ble_eq_true rfl)⟩ jv1_0 ko1_0 rfl rfl hl.1 rfl (Nat.le_of_ble_eq_true rfl) dL_law_850 (Nat.le_of_succ_le hc) (Nat.le_trans (Nat.le_add_right _ _) hs) (fun H locs h2 => ?_)
  refine lv_aload_n hx hb dL_law_853 rfl (lv_at hl 2 rfl) ?_
  refine law_arg F hX hbl h2 hl ht hL 4 0 rfl rfl 1 (by decide) dL_law_854 dL_law_855 dL_law_857 dL_law_858 dL_law_859 ?_
  refine tw_sys2 (Y1 := wd1) (Y2 := wd2) (as := [jm_i (xs (7 * t + 1)).toInt]) (rest := [jm_i r]) F h2 (ct_X12_count 4000 N (xs (7 * t + 1)).toInt (jm_tin _)) e2 iv.1.1.1.2.1.rm2 (tw_gl kw_1440 rfl) km_X12_count kv_X12_count rfl rfl ⟨(Nat.le_of_ble_eq_true rfl), (Nat.le_of_ble_eq_true rfl)⟩ jv2_0 ko2_0 rfl rfl hl.1 rfl (Nat.le_of_ble_eq_true rfl) dL_law_860 (Nat.le_of_succ_le hc) (Nat.le_trans (Nat.le_add_right _ _) hs) (fun H locs h2 => ?_)
  refine lv_icmp_eq (tgt := 1891) hx hb dL_law_863 (by decide) (fun _ => ?_) (fun h => absurd (congrArg Int32.ofInt (same trivial)) h)
  exact hk M1 N1 _ _ _ cells slots iv1 h2 (lv_sub hl [0, 1, 2, 3, 4] rfl) (Nat.le_succ _) (Nat.le_add_right _ _)
set_option maxHeartbeats 4000000 in
set_option maxRecDepth 100000 in
theorem law_case_14 {p : Program} {l : Launch} {e : Env} {s : State} {m : MethodId} {below : List Frame} {meth : Method} {c : Code} {G : tw_G} {b L t : Nat} {xs : Nat → Int32} (hst : l.stackTraces = false) (F : tw_F p m c code 7 s #[Value.ref b] RL G (fun q => s.heap.size ≤ q)) (hX : va_X b L xs s s.heap) (hbl : b < s.heap.size) (ht : 7 * t + 7 ≤ L) (hL : L ≤ 3584) {ad1 ad2 : Nat → Nat} {M N : jm_M} (iv : IY M N) {H : Heap} {locs : List Loc} {cells slots : Nat} {ls : Array Slot} (h2 : tw_2 G 245 ad1 (jm_c wd1 G ad1 M) 80 ad2 (jm_c wd2 G ad2 N) (fun q => s.heap.size ≤ q) s H locs) (hl : lv_has ls 7 (law_lv b (ad1 0) (ad2 0) (ad1 244) t)) (hc : cells + 1 ≤ 601024) (hs : slots + 6 ≤ 7293034) (hk : law_K p l e s m below meth c G b t ad1 ad2 cells slots) : W p l e room_1 s m #[Value.ref b] below meth c H locs cells slots (lw_Z below #[Value.ref b] s) (F0 m 868 ls []) := by
  have hx := F.1.1
  have hb := F.1.2.1
  refine lv_aload_n hx hb dL_law_868 rfl (lv_at hl 3 rfl) ?_
  refine law_arg F hX hbl h2 hl ht hL 4 0 rfl rfl 1 (by decide) dL_law_869 dL_law_870 dL_law_872 dL_law_873 dL_law_874 ?_
  refine law_arg F hX hbl h2 hl ht hL 4 0 rfl rfl 2 (by decide) dL_law_875 dL_law_876 dL_law_878 dL_law_879 dL_law_880 ?_
  refine lv_aload_n hx hb dL_law_881 rfl (lv_at hl 1 rfl) ?_
  obtain ⟨r, M1, u, N1, e1, e2, iv1, same⟩ := ww_of 4000 (by decide) M N iv (xs (7 * t + 1)).toInt (xs (7 * t + 2)).toInt (jm_tin _) (jm_tin _)
  refine tw_calli_1 F h2 (tw_runSW (n := 4) (hh := [(0, 10, 13, 13)]) (As := [.ref (ad1 0), jm_i (xs (7 * t + 1)).toInt, jm_i (xs (7 * t + 2)).toInt, .ref (ad1 244)]) (rest := []) F h2.1 (c_L_of l G hst ad1 H.size M (xs (7 * t + 1)).toInt (xs (7 * t + 2)).toInt (jm_tin _) (jm_tin _) e1 iv.1.1.1.1.rm) (tw_gl kw_1252 rfl) (tw_gl kw_1253 rfl) (tw_gl kw_0 rfl) tw_g_of (by decide) rfl rfl ⟨(Nat.le_of_ble_eq_true rfl), (Nat.le_of_ble_eq_true rfl)⟩ rfl hl.1 rfl (Nat.le_of_ble_eq_true rfl) dL_law_882 ⟨hc, hs⟩) (fun rL wL H locs hp h2 => ?_)
  obtain ⟨hrin, rfl⟩ := hp
  have ivx : IY (if r = 4294967296 then M1 else jm_u M1 49 0 0 r) N1 := by
    by_cases hr : r = 4294967296
    · rw [if_pos hr]; exact iv1
    · rw [if_neg hr]; exact iv1.out (hrin hr)
  refine lv_istore (lv' := [(5, .int rL), (4, .int (Int32.ofNat (7 * t))), (3, .ref (ad1 244)), (2, .ref (ad2 0)), (1, .ref (ad1 0)), (0, .ref b)]) hx hb dL_law_885 hl (by decide) rfl (fun ls hl => ?_)
  refine lv_aload_n hx hb dL_law_887 rfl (lv_at hl 3 rfl) ?_
  refine law_arg F hX hbl h2 hl ht hL 5 1 rfl rfl 1 (by decide) dL_law_888 dL_law_889 dL_law_891 dL_law_892 dL_law_893 ?_
  refine law_arg F hX hbl h2 hl ht hL 5 1 rfl rfl 2 (by decide) dL_law_894 dL_law_895 dL_law_897 dL_law_898 dL_law_899 ?_
  refine tw_sys2 (Y1 := wd1) (Y2 := wd2) (as := [jm_i (xs (7 * t + 1)).toInt, jm_i (xs (7 * t + 2)).toInt]) (rest := []) F h2 (ct_X12_of 4000 N (xs (7 * t + 1)).toInt (xs (7 * t + 2)).toInt (jm_tin _) (jm_tin _)) e2 iv.1.1.1.2.1.rm2 (tw_gl kw_1529 rfl) km_X12_of kv_X12_of rfl rfl ⟨(Nat.le_of_ble_eq_true rfl), (Nat.le_of_ble_eq_true rfl)⟩ jv2_0 ko2_0 rfl rfl hl.1 rfl (Nat.le_of_ble_eq_true rfl) dL_law_900 hc hs (fun H locs h2 => ?_)
  refine lv_istore (lv' := [(6, jm_i u), (5, .int rL), (4, .int (Int32.ofNat (7 * t))), (3, .ref (ad1 244)), (2, .ref (ad2 0)), (1, .ref (ad1 0)), (0, .ref b)]) hx hb dL_law_903 hl (by decide) rfl (fun ls hl => ?_)
  refine lv_goto (tgt := 1891) hx hb dL_law_905 (by decide) ?_
  exact hk (if r = 4294967296 then M1 else jm_u M1 49 0 0 r) N1 _ _ _ (cells + 1) (slots + 6) ivx h2 (lv_sub hl [2, 3, 4, 5, 6] rfl) (Nat.le_refl _) (Nat.le_refl _)
set_option maxHeartbeats 4000000 in
set_option maxRecDepth 100000 in
theorem law_case_15 {p : Program} {l : Launch} {e : Env} {s : State} {m : MethodId} {below : List Frame} {meth : Method} {c : Code} {G : tw_G} {b L t : Nat} {xs : Nat → Int32} (hst : l.stackTraces = false) (F : tw_F p m c code 7 s #[Value.ref b] RL G (fun q => s.heap.size ≤ q)) (hX : va_X b L xs s s.heap) (hbl : b < s.heap.size) (ht : 7 * t + 7 ≤ L) (hL : L ≤ 3584) {ad1 ad2 : Nat → Nat} {M N : jm_M} (iv : IY M N) {H : Heap} {locs : List Loc} {cells slots : Nat} {ls : Array Slot} (h2 : tw_2 G 245 ad1 (jm_c wd1 G ad1 M) 80 ad2 (jm_c wd2 G ad2 N) (fun q => s.heap.size ≤ q) s H locs) (hl : lv_has ls 7 (law_lv b (ad1 0) (ad2 0) (ad1 244) t)) (hc : cells + 1 ≤ 601024) (hs : slots + 6 ≤ 7293034) (hk : law_K p l e s m below meth c G b t ad1 ad2 cells slots) : W p l e room_1 s m #[Value.ref b] below meth c H locs cells slots (lw_Z below #[Value.ref b] s) (F0 m 908 ls []) := by
  have hx := F.1.1
  have hb := F.1.2.1
  refine lv_aload_n hx hb dL_law_908 rfl (lv_at hl 3 rfl) ?_
  refine law_arg F hX hbl h2 hl ht hL 4 0 rfl rfl 1 (by decide) dL_law_909 dL_law_910 dL_law_912 dL_law_913 dL_law_914 ?_
  refine law_arg F hX hbl h2 hl ht hL 4 0 rfl rfl 2 (by decide) dL_law_915 dL_law_916 dL_law_918 dL_law_919 dL_law_920 ?_
  refine law_arg F hX hbl h2 hl ht hL 4 0 rfl rfl 3 (by decide) dL_law_921 dL_law_922 dL_law_924 dL_law_925 dL_law_926 ?_
  obtain ⟨r, M1, u, N1, e1, e2, iv1, same⟩ := ww_at 4000 (by decide) M N iv (xs (7 * t + 1)).toInt (xs (7 * t + 2)).toInt (xs (7 * t + 3)).toInt (jm_tin _) (jm_tin _) (jm_tin _)
  refine tw_sys1 (Y1 := wd1) (Y2 := wd2) (as := [jm_i (xs (7 * t + 1)).toInt, jm_i (xs (7 * t + 2)).toInt, jm_i (xs (7 * t + 3)).toInt]) (rest := []) F h2 (ct_X11_at 4000 M (xs (7 * t + 1)).toInt (xs (7 * t + 2)).toInt (xs (7 * t + 3)).toInt (jm_tin _) (jm_tin _) (jm_tin _)) e1 iv.1.1.1.1.rm (tw_gl kw_848 rfl) km_X11_at kv_X11_at rfl rfl ⟨(Nat.le_of_ble_eq_true rfl), (Nat.le_of_ble_eq_true rfl)⟩ jv1_0 ko1_0 rfl rfl hl.1 rfl (Nat.le_of_ble_eq_true rfl) dL_law_927 (Nat.le_of_succ_le hc) (Nat.le_trans (Nat.le_add_right _ _) hs) (fun H locs h2 => ?_)
  refine lv_pop hx hb dL_law_930 rfl ?_
  refine lv_aload_n hx hb dL_law_931 rfl (lv_at hl 2 rfl) ?_
  refine law_arg F hX hbl h2 hl ht hL 4 0 rfl rfl 1 (by decide) dL_law_932 dL_law_933 dL_law_935 dL_law_936 dL_law_937 ?_
  refine law_arg F hX hbl h2 hl ht hL 4 0 rfl rfl 2 (by decide) dL_law_938 dL_law_939 dL_law_941 dL_law_942 dL_law_943 ?_
  refine law_arg F hX hbl h2 hl ht hL 4 0 rfl rfl 3 (by decide) dL_law_944 dL_law_945 dL_law_947 dL_law_948 dL_law_949 ?_
  refine tw_sys2 (Y1 := wd1) (Y2 := wd2) (as := [jm_i (xs (7 * t + 1)).toInt, jm_i (xs (7 * t + 2)).toInt, jm_i (xs (7 * t + 3)).toInt]) (rest := []) F h2 (ct_X12_at 4000 N (xs (7 * t + 1)).toInt (xs (7 * t + 2)).toInt (xs (7 * t + 3)).toInt (jm_tin _) (jm_tin _) (jm_tin _)) e2 iv.1.1.1.2.1.rm2 (tw_gl kw_1623 rfl) km_X12_at kv_X12_at rfl rfl ⟨(Nat.le_of_ble_eq_true rfl), (Nat.le_of_ble_eq_true rfl)⟩ jv2_0 ko2_0 rfl rfl hl.1 rfl (Nat.le_of_ble_eq_true rfl) dL_law_950 (Nat.le_of_succ_le hc) (Nat.le_trans (Nat.le_add_right _ _) hs) (fun H locs h2 => ?_)
  refine lv_pop hx hb dL_law_953 rfl ?_
  refine lv_goto (tgt := 1891) hx hb dL_law_954 (by decide) ?_
  exact hk M1 N1 _ _ _ cells slots iv1 h2 (lv_sub hl [0, 1, 2, 3, 4] rfl) (Nat.le_succ _) (Nat.le_add_right _ _)
set_option maxHeartbeats 4000000 in
set_option maxRecDepth 100000 in
theorem law_case_16 {p : Program} {l : Launch} {e : Env} {s : State} {m : MethodId} {below : List Frame} {meth : Method} {c : Code} {G : tw_G} {b L t : Nat} {xs : Nat → Int32} (hst : l.stackTraces = false) (F : tw_F p m c code 7 s #[Value.ref b] RL G (fun q => s.heap.size ≤ q)) (hX : va_X b L xs s s.heap) (hbl : b < s.heap.size) (ht : 7 * t + 7 ≤ L) (hL : L ≤ 3584) {ad1 ad2 : Nat → Nat} {M N : jm_M} (iv : IY M N) {H : Heap} {locs : List Loc} {cells slots : Nat} {ls : Array Slot} (h2 : tw_2 G 245 ad1 (jm_c wd1 G ad1 M) 80 ad2 (jm_c wd2 G ad2 N) (fun q => s.heap.size ≤ q) s H locs) (hl : lv_has ls 7 (law_lv b (ad1 0) (ad2 0) (ad1 244) t)) (hc : cells + 1 ≤ 601024) (hs : slots + 6 ≤ 7293034) (hk : law_K p l e s m below meth c G b t ad1 ad2 cells slots) : W p l e room_1 s m #[Value.ref b] below meth c H locs cells slots (lw_Z below #[Value.ref b] s) (F0 m 957 ls []) := by
  have hx := F.1.1
  have hb := F.1.2.1
  refine lv_aload_n hx hb dL_law_957 rfl (lv_at hl 3 rfl) ?_
  refine law_arg F hX hbl h2 hl ht hL 4 0 rfl rfl 1 (by decide) dL_law_958 dL_law_959 dL_law_961 dL_law_962 dL_law_963 ?_
  refine law_arg F hX hbl h2 hl ht hL 4 0 rfl rfl 2 (by decide) dL_law_964 dL_law_965 dL_law_967 dL_law_968 dL_law_969 ?_
  obtain ⟨r, M1, u, N1, e1, e2, iv1, same⟩ := ww_led 4000 (by decide) M N iv (xs (7 * t + 1)).toInt (xs (7 * t + 2)).toInt (jm_tin _) (jm_tin _)
  refine tw_sys1 (Y1 := wd1) (Y2 := wd2) (as := [jm_i (xs (7 * t + 1)).toInt, jm_i (xs (7 * t + 2)).toInt]) (rest := []) F h2 (ct_X11_led 4000 M (xs (7 * t + 1)).toInt (xs (7 * t + 2)).toInt (jm_tin _) (jm_tin _)) e1 iv.1.1.1.1.rm (tw_gl kw_1023 rfl) km_X11_led kv_X11_led rfl rfl ⟨(Nat.le_of_ble_eq_true rfl), (Nat.le_of_ble_eq_true rfl)⟩ jv1_0 ko1_0 rfl rfl hl.1 rfl (Nat.le_of_ble_eq_true rfl) dL_law_970 (Nat.le_of_succ_le hc) (Nat.le_trans (Nat.le_add_right _ _) hs) (fun H locs h2 => ?_)
  refine lv_pop hx hb dL_law_973 rfl ?_
  refine lv_aload_n hx hb dL_law_974 rfl (lv_at hl 2 rfl) ?_
  refine law_arg F hX hbl h2 hl ht hL 4 0 rfl rfl 1 (by decide) dL_law_975 dL_law_976 dL_law_978 dL_law_979 dL_law_980 ?_
  refine law_arg F hX hbl h2 hl ht hL 4 0 rfl rfl 2 (by decide) dL_law_981 dL_law_982 dL_law_984 dL_law_985 dL_law_986 ?_
  refine tw_sys2 (Y1 := wd1) (Y2 := wd2) (as := [jm_i (xs (7 * t + 1)).toInt, jm_i (xs (7 * t + 2)).toInt]) (rest := []) F h2 (ct_X12_led 4000 N (xs (7 * t + 1)).toInt (xs (7 * t + 2)).toInt (jm_tin _) (jm_tin _)) e2 iv.1.1.1.2.1.rm2 (tw_gl kw_1627 rfl) km_X12_led kv_X12_led rfl rfl ⟨(Nat.le_of_ble_eq_true rfl), (Nat.le_of_ble_eq_true rfl)⟩ jv2_0 ko2_0 rfl rfl hl.1 rfl (Nat.le_of_ble_eq_true rfl) dL_law_987 (Nat.le_of_succ_le hc) (Nat.le_trans (Nat.le_add_right _ _) hs) (fun H locs h2 => ?_)
  refine lv_pop hx hb dL_law_990 rfl ?_
  refine lv_goto (tgt := 1891) hx hb dL_law_991 (by decide) ?_
  exact hk M1 N1 _ _ _ cells slots iv1 h2 (lv_sub hl [0, 1, 2, 3, 4] rfl) (Nat.le_succ _) (Nat.le_add_right _ _)
set_option maxHeartbeats 4000000 in
set_option maxRecDepth 100000 in
theorem law_case_17 {p : Program} {l : Launch} {e : Env} {s : State} {m : MethodId} {below : List Frame} {meth : Method} {c : Code} {G : tw_G} {b L t : Nat} {xs : Nat → Int32} (hst : l.stackTraces = false) (F : tw_F p m c code 7 s #[Value.ref b] RL G (fun q => s.heap.size ≤ q)) (hX : va_X b L xs s s.heap) (hbl : b < s.heap.size) (ht : 7 * t + 7 ≤ L) (hL : L ≤ 3584) {ad1 ad2 : Nat → Nat} {M N : jm_M} (iv : IY M N) {H : Heap} {locs : List Loc} {cells slots : Nat} {ls : Array Slot} (h2 : tw_2 G 245 ad1 (jm_c wd1 G ad1 M) 80 ad2 (jm_c wd2 G ad2 N) (fun q => s.heap.size ≤ q) s H locs) (hl : lv_has ls 7 (law_lv b (ad1 0) (ad2 0) (ad1 244) t)) (hc : cells + 1 ≤ 601024) (hs : slots + 6 ≤ 7293034) (hk : law_K p l e s m below meth c G b t ad1 ad2 cells slots) : W p l e room_1 s m #[Value.ref b] below meth c H locs cells slots (lw_Z below #[Value.ref b] s) (F0 m 994 ls []) := by
  have hx := F.1.1
  have hb := F.1.2.1
  refine lv_aload_n hx hb dL_law_994 rfl (lv_at hl 3 rfl) ?_
  refine law_arg F hX hbl h2 hl ht hL 4 0 rfl rfl 1 (by decide) dL_law_995 dL_law_996 dL_law_998 dL_law_999 dL_law_1000 ?_
  obtain ⟨r, M1, u, N1, e1, e2, iv1, same⟩ := ww_waited 4000 (by decide) M N iv (xs (7 * t + 1)).toInt (jm_tin _)
  refine tw_sys1 (Y1 := wd1) (Y2 := wd2) (as := [jm_i (xs (7 * t + 1)).toInt]) (rest := []) F h2 (ct_X11_waited 4000 M (xs (7 * t + 1)).toInt (jm_tin _)) e1 iv.1.1.1.1.rm (tw_gl kw_1035 rfl) km_X11_waited kv_X11_waited rfl rfl ⟨(Nat.le_of_ble_eq_true rfl), (Nat.le_of_ble_eq_true rfl)⟩ jv1_0 ko1_0 rfl rfl hl.1 rfl (Nat.le_of_ble_eq_true rfl) dL_law_1001 (Nat.le_of_succ_le hc) (Nat.le_trans (Nat.le_add_right _ _) hs) (fun H locs h2 => ?_)
  refine lv_pop hx hb dL_law_1004 rfl ?_
  refine lv_aload_n hx hb dL_law_1005 rfl (lv_at hl 2 rfl) ?_
  refine law_arg F hX hbl h2 hl ht hL 4 0 rfl rfl 1 (by decide) dL_law_1006 dL_law_1007 dL_law_1009 dL_law_1010 dL_law_1011 ?_
  refine tw_sys2 (Y1 := wd1) (Y2 := wd2) (as := [jm_i (xs (7 * t + 1)).toInt]) (rest := []) F h2 (ct_X12_waited 4000 N (xs (7 * t + 1)).toInt (jm_tin _)) e2 iv.1.1.1.2.1.rm2 (tw_gl kw_1635 rfl) km_X12_waited kv_X12_waited rfl rfl ⟨(Nat.le_of_ble_eq_true rfl), (Nat.le_of_ble_eq_true rfl)⟩ jv2_0 ko2_0 rfl rfl hl.1 rfl (Nat.le_of_ble_eq_true rfl) dL_law_1012 (Nat.le_of_succ_le hc) (Nat.le_trans (Nat.le_add_right _ _) hs) (fun H locs h2 => ?_)
  refine lv_pop hx hb dL_law_1015 rfl ?_
  refine lv_goto (tgt := 1891) hx hb dL_law_1016 (by decide) ?_
  exact hk M1 N1 _ _ _ cells slots iv1 h2 (lv_sub hl [0, 1, 2, 3, 4] rfl) (Nat.le_succ _) (Nat.le_add_right _ _)
set_option maxHeartbeats 4000000 in
set_option maxRecDepth 100000 in
theorem law_case_18 {p : Program} {l : Launch} {e : Env} {s : State} {m : MethodId} {below : List Frame} {meth : Method} {c : Code} {G : tw_G} {b L t : Nat} {xs : Nat → Int32} (hst : l.stackTraces = false) (F : tw_F p m c code 7 s #[Value.ref b] RL G (fun q => s.heap.size ≤ q)) (hX : va_X b L xs s s.heap) (hbl : b < s.heap.size) (ht : 7 * t + 7 ≤ L) (hL : L ≤ 3584) {ad1 ad2 : Nat → Nat} {M N : jm_M} (iv : IY M N) {H : Heap} {locs : List Loc} {cells slots : Nat} {ls : Array Slot} (h2 : tw_2 G 245 ad1 (jm_c wd1 G ad1 M) 80 ad2 (jm_c wd2 G ad2 N) (fun q => s.heap.size ≤ q) s H locs) (hl : lv_has ls 7 (law_lv b (ad1 0) (ad2 0) (ad1 244) t)) (hc : cells + 1 ≤ 601024) (hs : slots + 6 ≤ 7293034) (hk : law_K p l e s m below meth c G b t ad1 ad2 cells slots) : W p l e room_1 s m #[Value.ref b] below meth c H locs cells slots (lw_Z below #[Value.ref b] s) (F0 m 1019 ls []) := by
  have hx := F.1.1
  have hb := F.1.2.1
  refine lv_aload_n hx hb dL_law_1019 rfl (lv_at hl 3 rfl) ?_
  obtain ⟨r, M1, u, N1, e1, e2, iv1, same⟩ := ww_leads 4000 (by decide) M N iv  
  refine tw_sys1 (Y1 := wd1) (Y2 := wd2) (as := []) (rest := []) F h2 (ct_X11_leads 4000 M  ) e1 iv.1.1.1.1.rm (tw_gl kw_1039 rfl) km_X11_leads kv_X11_leads rfl rfl ⟨(Nat.le_of_ble_eq_true rfl), (Nat.le_of_ble_eq_true rfl)⟩ jv1_0 ko1_0 rfl rfl hl.1 rfl (Nat.le_of_ble_eq_true rfl) dL_law_1020 (Nat.le_of_succ_le hc) (Nat.le_trans (Nat.le_add_right _ _) hs) (fun H locs h2 => ?_)
  refine lv_pop hx hb dL_law_1023 rfl ?_
  refine lv_aload_n hx hb dL_law_1024 rfl (lv_at hl 2 rfl) ?_
  refine tw_sys2 (Y1 := wd1) (Y2 := wd2) (as := []) (rest := []) F h2 (ct_X12_leads 4000 N  ) e2 iv.1.1.1.2.1.rm2 (tw_gl kw_1639 rfl) km_X12_leads kv_X12_leads rfl rfl ⟨(Nat.le_of_ble_eq_true rfl), (Nat.le_of_ble_eq_true rfl)⟩ jv2_0 ko2_0 rfl rfl hl.1 rfl (Nat.le_of_ble_eq_true rfl) dL_law_1025 (Nat.le_of_succ_le hc) (Nat.le_trans (Nat.le_add_right _ _) hs) (fun H locs h2 => ?_)
  refine lv_pop hx hb dL_law_1028 rfl ?_
  refine lv_goto (tgt := 1891) hx hb dL_law_1029 (by decide) ?_
  exact hk M1 N1 _ _ _ cells slots iv1 h2 (lv_sub hl [0, 1, 2, 3, 4] rfl) (Nat.le_succ _) (Nat.le_add_right _ _)
set_option maxHeartbeats 4000000 in
set_option maxRecDepth 100000 in
theorem law_case_19 {p : Program} {l : Launch} {e : Env} {s : State} {m : MethodId} {below : List Frame} {meth : Method} {c : Code} {G : tw_G} {b L t : Nat} {xs : Nat → Int32} (hst : l.stackTraces = false) (F : tw_F p m c code 7 s #[Value.ref b] RL G (fun q => s.heap.size ≤ q)) (hX : va_X b L xs s s.heap) (hbl : b < s.heap.size) (ht : 7 * t + 7 ≤ L) (hL : L ≤ 3584) {ad1 ad2 : Nat → Nat} {M N : jm_M} (iv : IY M N) {H : Heap} {locs : List Loc} {cells slots : Nat} {ls : Array Slot} (h2 : tw_2 G 245 ad1 (jm_c wd1 G ad1 M) 80 ad2 (jm_c wd2 G ad2 N) (fun q => s.heap.size ≤ q) s H locs) (hl : lv_has ls 7 (law_lv b (ad1 0) (ad2 0) (ad1 244) t)) (hc : cells + 1 ≤ 601024) (hs : slots + 6 ≤ 7293034) (hk : law_K p l e s m below meth c G b t ad1 ad2 cells slots) : W p l e room_1 s m #[Value.ref b] below meth c H locs cells slots (lw_Z below #[Value.ref b] s) (F0 m 1032 ls []) := by
  have hx := F.1.1
  have hb := F.1.2.1
  refine lv_aload_n hx hb dL_law_1032 rfl (lv_at hl 3 rfl) ?_
  refine law_arg F hX hbl h2 hl ht hL 4 0 rfl rfl 1 (by decide) dL_law_1033 dL_law_1034 dL_law_1036 dL_law_1037 dL_law_1038 ?_
  obtain ⟨r, M1, u, N1, e1, e2, iv1, same⟩ := ww_sign 4000 (by decide) M N iv (xs (7 * t + 1)).toInt (jm_tin _)
  refine tw_sys1 (Y1 := wd1) (Y2 := wd2) (as := [jm_i (xs (7 * t + 1)).toInt]) (rest := []) F h2 (ct_X11_sign 4000 M (xs (7 * t + 1)).toInt (jm_tin _)) e1 iv.1.1.1.1.rm (tw_gl kw_1043 rfl) km_X11_sign kv_X11_sign rfl rfl ⟨(Nat.le_of_ble_eq_true rfl), (Nat.le_of_ble_eq_true rfl)⟩ jv1_0 ko1_0 rfl rfl hl.1 rfl (Nat.le_of_ble_eq_true rfl) dL_law_1039 (Nat.le_of_succ_le hc) (Nat.le_trans (Nat.le_add_right _ _) hs) (fun H locs h2 => ?_)
  refine lv_pop hx hb dL_law_1042 rfl ?_
  refine lv_aload_n hx hb dL_law_1043 rfl (lv_at hl 2 rfl) ?_
  refine law_arg F hX hbl h2 hl ht hL 4 0 rfl rfl 1 (by decide) dL_law_1044 dL_law_1045 dL_law_1047 dL_law_1048 dL_law_1049 ?_
  refine tw_sys2 (Y1 := wd1) (Y2 := wd2) (as := [jm_i (xs (7 * t + 1)).toInt]) (rest := []) F h2 (ct_X12_sign 4000 N (xs (7 * t + 1)).toInt (jm_tin _)) e2 iv.1.1.1.2.1.rm2 (tw_gl kw_1444 rfl) km_X12_sign kv_X12_sign rfl rfl ⟨(Nat.le_of_ble_eq_true rfl), (Nat.le_of_ble_eq_true rfl)⟩ jv2_0 ko2_0 rfl rfl hl.1 rfl (Nat.le_of_ble_eq_true rfl) dL_law_1050 (Nat.le_of_succ_le hc) (Nat.le_trans (Nat.le_add_right _ _) hs) (fun H locs h2 => ?_)
  refine lv_pop hx hb dL_law_1053 rfl ?_
  refine lv_goto (tgt := 1891) hx hb dL_law_1054 (by decide) ?_
  exact hk M1 N1 _ _ _ cells slots iv1 h2 (lv_sub hl [0, 1, 2, 3, 4] rfl) (Nat.le_succ _) (Nat.le_add_right _ _)
set_option maxHeartbeats 4000000 in
set_option maxRecDepth 100000 in
theorem law_case_20 {p : Program} {l : Launch} {e : Env} {s : State} {m : MethodId} {below : List Frame} {meth : Method} {c : Code} {G : tw_G} {b L t : Nat} {xs : Nat → Int32} (hst : l.stackTraces = false) (F : tw_F p m c code 7 s #[Value.ref b] RL G (fun q => s.heap.size ≤ q)) (hX : va_X b L xs s s.heap) (hbl : b < s.heap.size) (ht : 7 * t + 7 ≤ L) (hL : L ≤ 3584) {ad1 ad2 : Nat → Nat} {M N : jm_M} (iv : IY M N) {H : Heap} {locs : List Loc} {cells slots : Nat} {ls : Array Slot} (h2 : tw_2 G 245 ad1 (jm_c wd1 G ad1 M) 80 ad2 (jm_c wd2 G ad2 N) (fun q => s.heap.size ≤ q) s H locs) (hl : lv_has ls 7 (law_lv b (ad1 0) (ad2 0) (ad1 244) t)) (hc : cells + 1 ≤ 601024) (hs : slots + 6 ≤ 7293034) (hk : law_K p l e s m below meth c G b t ad1 ad2 cells slots) : W p l e room_1 s m #[Value.ref b] below meth c H locs cells slots (lw_Z below #[Value.ref b] s) (F0 m 1057 ls []) := by
  have hx := F.1.1
  have hb := F.1.2.1
  refine lv_aload_n hx hb dL_law_1057 rfl (lv_at hl 3 rfl) ?_
  refine law_arg F hX hbl h2 hl ht hL 4 0 rfl rfl 1 (by decide) dL_law_1058 dL_law_1059 dL_law_1061 dL_law_1062 dL_law_1063 ?_
  obtain ⟨r, M1, u, N1, e1, e2, iv1, same⟩ := ww_end M N iv (xs (7 * t + 1)).toInt (jm_tin _)
  refine tw_sys1 (Y1 := wd1) (Y2 := wd2) (as := [jm_i (xs (7 * t + 1)).toInt]) (rest := []) F h2 (ct_X11_end M (xs (7 * t + 1)).toInt (jm_tin _)) e1 iv.1.1.1.1.rm (tw_gl kw_1047 rfl) km_X11_end kv_X11_end rfl rfl ⟨(Nat.le_of_ble_eq_true rfl), (Nat.le_of_ble_eq_true rfl)⟩ jv1_0 ko1_0 rfl rfl hl.1 rfl (Nat.le_of_ble_eq_true rfl) dL_law_1064 (Nat.le_of_succ_le hc) (Nat.le_trans (Nat.le_add_right _ _) hs) (fun H locs h2 => ?_)
  refine lv_pop hx hb dL_law_1067 rfl ?_
  refine lv_aload_n hx hb dL_law_1068 rfl (lv_at hl 2 rfl) ?_
  refine law_arg F hX hbl h2 hl ht hL 4 0 rfl rfl 1 (by decide) dL_law_1069 dL_law_1070 dL_law_1072 dL_law_1073 dL_law_1074 ?_
  refine tw_sys2 (Y1 := wd1) (Y2 := wd2) (as := [jm_i (xs (7 * t + 1)).toInt]) (rest := []) F h2 (ct_X12_end N (xs (7 * t + 1)).toInt (jm_tin _)) e2 iv.1.1.1.2.1.rm2 (tw_gl kw_1448 rfl) km_X12_end kv_X12_end rfl rfl ⟨(Nat.le_of_ble_eq_true rfl), (Nat.le_of_ble_eq_true rfl)⟩ jv2_0 ko2_0 rfl rfl hl.1 rfl (Nat.le_of_ble_eq_true rfl) dL_law_1075 (Nat.le_of_succ_le hc) (Nat.le_trans (Nat.le_add_right _ _) hs) (fun H locs h2 => ?_)
  refine lv_pop hx hb dL_law_1078 rfl ?_
  refine lv_goto (tgt := 1891) hx hb dL_law_1079 (by decide) ?_
  exact hk M1 N1 _ _ _ cells slots iv1 h2 (lv_sub hl [0, 1, 2, 3, 4] rfl) (Nat.le_succ _) (Nat.le_add_right _ _)
set_option maxHeartbeats 4000000 in
set_option maxRecDepth 100000 in
theorem law_case_21 {p : Program} {l : Launch} {e : Env} {s : State} {m : MethodId} {below : List Frame} {meth : Method} {c : Code} {G : tw_G} {b L t : Nat} {xs : Nat → Int32} (hst : l.stackTraces = false) (F : tw_F p m c code 7 s #[Value.ref b] RL G (fun q => s.heap.size ≤ q)) (hX : va_X b L xs s s.heap) (hbl : b < s.heap.size) (ht : 7 * t + 7 ≤ L) (hL : L ≤ 3584) {ad1 ad2 : Nat → Nat} {M N : jm_M} (iv : IY M N) {H : Heap} {locs : List Loc} {cells slots : Nat} {ls : Array Slot} (h2 : tw_2 G 245 ad1 (jm_c wd1 G ad1 M) 80 ad2 (jm_c wd2 G ad2 N) (fun q => s.heap.size ≤ q) s H locs) (hl : lv_has ls 7 (law_lv b (ad1 0) (ad2 0) (ad1 244) t)) (hc : cells + 1 ≤ 601024) (hs : slots + 6 ≤ 7293034) (hk : law_K p l e s m below meth c G b t ad1 ad2 cells slots) : W p l e room_1 s m #[Value.ref b] below meth c H locs cells slots (lw_Z below #[Value.ref b] s) (F0 m 1082 ls []) := by
  have hx := F.1.1
  have hb := F.1.2.1
  refine lv_aload_n hx hb dL_law_1082 rfl (lv_at hl 3 rfl) ?_
  refine law_arg F hX hbl h2 hl ht hL 4 0 rfl rfl 1 (by decide) dL_law_1083 dL_law_1084 dL_law_1086 dL_law_1087 dL_law_1088 ?_
  obtain ⟨r, M1, u, N1, e1, e2, iv1, same⟩ := ww_rule 4000 (by decide) M N iv (xs (7 * t + 1)).toInt (jm_tin _)
  refine tw_sys1 (Y1 := wd1) (Y2 := wd2) (as := [jm_i (xs (7 * t + 1)).toInt]) (rest := []) F h2 (ct_X11_rule 4000 M (xs (7 * t + 1)).toInt (jm_tin _)) e1 iv.1.1.1.1.rm (tw_gl kw_1051 rfl) km_X11_rule kv_X11_rule rfl rfl ⟨(Nat.le_of_ble_eq_true rfl), (Nat.le_of_ble_eq_true rfl)⟩ jv1_0 ko1_0 rfl rfl hl.1 rfl (Nat.le_of_ble_eq_true rfl) dL_law_1089 (Nat.le_of_succ_le hc) (Nat.le_trans (Nat.le_add_right _ _) hs) (fun H locs h2 => ?_)
  refine lv_pop hx hb dL_law_1092 rfl ?_
  refine lv_aload_n hx hb dL_law_1093 rfl (lv_at hl 2 rfl) ?_
  refine law_arg F hX hbl h2 hl ht hL 4 0 rfl rfl 1 (by decide) dL_law_1094 dL_law_1095 dL_law_1097 dL_law_1098 dL_law_1099 ?_
  refine tw_sys2 (Y1 := wd1) (Y2 := wd2) (as := [jm_i (xs (7 * t + 1)).toInt]) (rest := []) F h2 (ct_X12_rule 4000 N (xs (7 * t + 1)).toInt (jm_tin _)) e2 iv.1.1.1.2.1.rm2 (tw_gl kw_1643 rfl) km_X12_rule kv_X12_rule rfl rfl ⟨(Nat.le_of_ble_eq_true rfl), (Nat.le_of_ble_eq_true rfl)⟩ jv2_0 ko2_0 rfl rfl hl.1 rfl (Nat.le_of_ble_eq_true rfl) dL_law_1100 (Nat.le_of_succ_le hc) (Nat.le_trans (Nat.le_add_right _ _) hs) (fun H locs h2 => ?_)
  refine lv_pop hx hb dL_law_1103 rfl ?_
  refine lv_goto (tgt := 1891) hx hb dL_law_1104 (by decide) ?_
  exact hk M1 N1 _ _ _ cells slots iv1 h2 (lv_sub hl [0, 1, 2, 3, 4] rfl) (Nat.le_succ _) (Nat.le_add_right _ _)
set_option maxHeartbeats 4000000 in
set_option maxRecDepth 100000 in
theorem law_case_22 {p : Program} {l : Launch} {e : Env} {s : State} {m : MethodId} {below : List Frame} {meth : Method} {c : Code} {G : tw_G} {b L t : Nat} {xs : Nat → Int32} (hst : l.stackTraces = false) (F : tw_F p m c code 7 s #[Value.ref b] RL G (fun q => s.heap.size ≤ q)) (hX : va_X b L xs s s.heap) (hbl : b < s.heap.size) (ht : 7 * t + 7 ≤ L) (hL : L ≤ 3584) {ad1 ad2 : Nat → Nat} {M N : jm_M} (iv : IY M N) {H : Heap} {locs : List Loc} {cells slots : Nat} {ls : Array Slot} (h2 : tw_2 G 245 ad1 (jm_c wd1 G ad1 M) 80 ad2 (jm_c wd2 G ad2 N) (fun q => s.heap.size ≤ q) s H locs) (hl : lv_has ls 7 (law_lv b (ad1 0) (ad2 0) (ad1 244) t)) (hc : cells + 1 ≤ 601024) (hs : slots + 6 ≤ 7293034) (hk : law_K p l e s m below meth c G b t ad1 ad2 cells slots) : W p l e room_1 s m #[Value.ref b] below meth c H locs cells slots (lw_Z below #[Value.ref b] s) (F0 m 1107 ls []) := by
  have hx := F.1.1
  have hb := F.1.2.1
  refine lv_aload_n hx hb dL_law_1107 rfl (lv_at hl 3 rfl) ?_
  refine law_arg F hX hbl h2 hl ht hL 4 0 rfl rfl 1 (by decide) dL_law_1108 dL_law_1109 dL_law_1111 dL_law_1112 dL_law_1113 ?_
  refine law_arg F hX hbl h2 hl ht hL 4 0 rfl rfl 2 (by decide) dL_law_1114 dL_law_1115 dL_law_1117 dL_law_1118 dL_law_1119 ?_
  refine law_arg F hX hbl h2 hl ht hL 4 0 rfl rfl 3 (by decide) dL_law_1120 dL_law_1121 dL_law_1123 dL_law_1124 dL_law_1125 ?_
  refine law_arg F hX hbl h2 hl ht hL 4 0 rfl rfl 4 (by decide) dL_law_1126 dL_law_1127 dL_law_1129 dL_law_1130 dL_law_1131 ?_
  obtain ⟨r, M1, u, N1, e1, e2, iv1, same⟩ := ww_finding 4000 (by decide) M N iv (xs (7 * t + 1)).toInt (xs (7 * t + 2)).toInt (xs (7 * t + 3)).toInt (xs (7 * t + 4)).toInt (jm_tin _) (jm_tin _) (jm_tin _) (jm_tin _)
  refine tw_sys1 (Y1 := wd1) (Y2 := wd2) (as := [jm_i (xs (7 * t + 1)).toInt, jm_i (xs (7 * t + 2)).toInt, jm_i (xs (7 * t + 3)).toInt, jm_i (xs (7 * t + 4)).toInt]) (rest := []) F h2 (ct_X11_finding 4000 M (xs (7 * t + 1)).toInt (xs (7 * t + 2)).toInt (xs (7 * t + 3)).toInt (xs (7 * t + 4)).toInt (jm_tin _) (jm_tin _) (jm_tin _) (jm_tin _)) e1 iv.1.1.1.1.rm (tw_gl kw_1063 rfl) km_X11_finding kv_X11_finding rfl rfl ⟨(Nat.le_of_ble_eq_true rfl), (Nat.le_of_ble_eq_true rfl)⟩ jv1_0 ko1_0 rfl rfl hl.1 rfl (Nat.le_of_ble_eq_true rfl) dL_law_1132 (Nat.le_of_succ_le hc) (Nat.le_trans (Nat.le_add_right _ _) hs) (fun H locs h2 => ?_)
  refine lv_pop hx hb dL_law_1135 rfl ?_
  refine lv_aload_n hx hb dL_law_1136 rfl (lv_at hl 2 rfl) ?_
  refine law_arg F hX hbl h2 hl ht hL 4 0 rfl rfl 1 (by decide) dL_law_1137 dL_law_1138 dL_law_1140 dL_law_1141 dL_law_1142 ?_
  refine law_arg F hX hbl h2 hl ht hL 4 0 rfl rfl 2 (by decide) dL_law_1143 dL_law_1144 dL_law_1146 dL_law_1147 dL_law_1148 ?_
  refine law_arg F hX hbl h2 hl ht hL 4 0 rfl rfl 3 (by decide) dL_law_1149 dL_law_1150 dL_law_1152 dL_law_1153 dL_law_1154 ?_
  refine law_arg F hX hbl h2 hl ht hL 4 0 rfl rfl 4 (by decide) dL_law_1155 dL_law_1156 dL_law_1158 dL_law_1159 dL_law_1160 ?_
  refine tw_sys2 (Y1 := wd1) (Y2 := wd2) (as := [jm_i (xs (7 * t + 1)).toInt, jm_i (xs (7 * t + 2)).toInt, jm_i (xs (7 * t + 3)).toInt, jm_i (xs (7 * t + 4)).toInt]) (rest := []) F h2 (ct_X12_finding 4000 N (xs (7 * t + 1)).toInt (xs (7 * t + 2)).toInt (xs (7 * t + 3)).toInt (xs (7 * t + 4)).toInt (jm_tin _) (jm_tin _) (jm_tin _) (jm_tin _)) e2 iv.1.1.1.2.1.rm2 (tw_gl kw_1651 rfl) km_X12_finding kv_X12_finding rfl rfl ⟨(Nat.le_of_ble_eq_true rfl), (Nat.le_of_ble_eq_true rfl)⟩ jv2_0 ko2_0 rfl rfl hl.1 rfl (Nat.le_of_ble_eq_true rfl) dL_law_1161 (Nat.le_of_succ_le hc) (Nat.le_trans (Nat.le_add_right _ _) hs) (fun H locs h2 => ?_)
  refine lv_pop hx hb dL_law_1164 rfl ?_
  refine lv_goto (tgt := 1891) hx hb dL_law_1165 (by decide) ?_
  exact hk M1 N1 _ _ _ cells slots iv1 h2 (lv_sub hl [0, 1, 2, 3, 4] rfl) (Nat.le_succ _) (Nat.le_add_right _ _)
set_option maxHeartbeats 4000000 in
set_option maxRecDepth 100000 in
theorem law_case_23 {p : Program} {l : Launch} {e : Env} {s : State} {m : MethodId} {below : List Frame} {meth : Method} {c : Code} {G : tw_G} {b L t : Nat} {xs : Nat → Int32} (hst : l.stackTraces = false) (F : tw_F p m c code 7 s #[Value.ref b] RL G (fun q => s.heap.size ≤ q)) (hX : va_X b L xs s s.heap) (hbl : b < s.heap.size) (ht : 7 * t + 7 ≤ L) (hL : L ≤ 3584) {ad1 ad2 : Nat → Nat} {M N : jm_M} (iv : IY M N) {H : Heap} {locs : List Loc} {cells slots : Nat} {ls : Array Slot} (h2 : tw_2 G 245 ad1 (jm_c wd1 G ad1 M) 80 ad2 (jm_c wd2 G ad2 N) (fun q => s.heap.size ≤ q) s H locs) (hl : lv_has ls 7 (law_lv b (ad1 0) (ad2 0) (ad1 244) t)) (hc : cells + 1 ≤ 601024) (hs : slots + 6 ≤ 7293034) (hk : law_K p l e s m below meth c G b t ad1 ad2 cells slots) : W p l e room_1 s m #[Value.ref b] below meth c H locs cells slots (lw_Z below #[Value.ref b] s) (F0 m 1168 ls []) := by
  have hx := F.1.1
  have hb := F.1.2.1
  refine lv_aload_n hx hb dL_law_1168 rfl (lv_at hl 3 rfl) ?_
  refine law_arg F hX hbl h2 hl ht hL 4 0 rfl rfl 1 (by decide) dL_law_1169 dL_law_1170 dL_law_1172 dL_law_1173 dL_law_1174 ?_
  refine law_arg F hX hbl h2 hl ht hL 4 0 rfl rfl 2 (by decide) dL_law_1175 dL_law_1176 dL_law_1178 dL_law_1179 dL_law_1180 ?_
  obtain ⟨r, M1, u, N1, e1, e2, iv1, same⟩ := ww_seconds 4000 (by decide) M N iv (xs (7 * t + 1)).toInt (xs (7 * t + 2)).toInt (jm_tin _) (jm_tin _)
  refine tw_sys1 (Y1 := wd1) (Y2 := wd2) (as := [jm_i (xs (7 * t + 1)).toInt, jm_i (xs (7 * t + 2)).toInt]) (rest := []) F h2 (ct_X11_seconds 4000 M (xs (7 * t + 1)).toInt (xs (7 * t + 2)).toInt (jm_tin _) (jm_tin _)) e1 iv.1.1.1.1.rm (tw_gl kw_1068 rfl) km_X11_seconds kv_X11_seconds rfl rfl ⟨(Nat.le_of_ble_eq_true rfl), (Nat.le_of_ble_eq_true rfl)⟩ jv1_0 ko1_0 rfl rfl hl.1 rfl (Nat.le_of_ble_eq_true rfl) dL_law_1181 (Nat.le_of_succ_le hc) (Nat.le_trans (Nat.le_add_right _ _) hs) (fun H locs h2 => ?_)
  refine lv_pop hx hb dL_law_1184 rfl ?_
  refine lv_aload_n hx hb dL_law_1185 rfl (lv_at hl 2 rfl) ?_
  refine law_arg F hX hbl h2 hl ht hL 4 0 rfl rfl 1 (by decide) dL_law_1186 dL_law_1187 dL_law_1189 dL_law_1190 dL_law_1191 ?_
  refine law_arg F hX hbl h2 hl ht hL 4 0 rfl rfl 2 (by decide) dL_law_1192 dL_law_1193 dL_law_1195 dL_law_1196 dL_law_1197 ?_
  refine tw_sys2 (Y1 := wd1) (Y2 := wd2) (as := [jm_i (xs (7 * t + 1)).toInt, jm_i (xs (7 * t + 2)).toInt]) (rest := []) F h2 (ct_X12_seconds 4000 N (xs (7 * t + 1)).toInt (xs (7 * t + 2)).toInt (jm_tin _) (jm_tin _)) e2 iv.1.1.1.2.1.rm2 (tw_gl kw_1657 rfl) km_X12_seconds kv_X12_seconds rfl rfl ⟨(Nat.le_of_ble_eq_true rfl), (Nat.le_of_ble_eq_true rfl)⟩ jv2_0 ko2_0 rfl rfl hl.1 rfl (Nat.le_of_ble_eq_true rfl) dL_law_1198 (Nat.le_of_succ_le hc) (Nat.le_trans (Nat.le_add_right _ _) hs) (fun H locs h2 => ?_)
  refine lv_pop hx hb dL_law_1201 rfl ?_
  refine lv_goto (tgt := 1891) hx hb dL_law_1202 (by decide) ?_
  exact hk M1 N1 _ _ _ cells slots iv1 h2 (lv_sub hl [0, 1, 2, 3, 4] rfl) (Nat.le_succ _) (Nat.le_add_right _ _)
set_option maxHeartbeats 4000000 in
set_option maxRecDepth 100000 in
theorem law_case_24 {p : Program} {l : Launch} {e : Env} {s : State} {m : MethodId} {below : List Frame} {meth : Method} {c : Code} {G : tw_G} {b L t : Nat} {xs : Nat → Int32} (hst : l.stackTraces = false) (F : tw_F p m c code 7 s #[Value.ref b] RL G (fun q => s.heap.size ≤ q)) (hX : va_X b L xs s s.heap) (hbl : b < s.heap.size) (ht : 7 * t + 7 ≤ L) (hL : L ≤ 3584) {ad1 ad2 : Nat → Nat} {M N : jm_M} (iv : IY M N) {H : Heap} {locs : List Loc} {cells slots : Nat} {ls : Array Slot} (h2 : tw_2 G 245 ad1 (jm_c wd1 G ad1 M) 80 ad2 (jm_c wd2 G ad2 N) (fun q => s.heap.size ≤ q) s H locs) (hl : lv_has ls 7 (law_lv b (ad1 0) (ad2 0) (ad1 244) t)) (hc : cells + 1 ≤ 601024) (hs : slots + 6 ≤ 7293034) (hk : law_K p l e s m below meth c G b t ad1 ad2 cells slots) : W p l e room_1 s m #[Value.ref b] below meth c H locs cells slots (lw_Z below #[Value.ref b] s) (F0 m 1205 ls []) := by
  have hx := F.1.1
  have hb := F.1.2.1
  refine lv_aload_n hx hb dL_law_1205 rfl (lv_at hl 3 rfl) ?_
  refine law_arg F hX hbl h2 hl ht hL 4 0 rfl rfl 1 (by decide) dL_law_1206 dL_law_1207 dL_law_1209 dL_law_1210 dL_law_1211 ?_
  refine law_arg F hX hbl h2 hl ht hL 4 0 rfl rfl 2 (by decide) dL_law_1212 dL_law_1213 dL_law_1215 dL_law_1216 dL_law_1217 ?_
  obtain ⟨r, M1, u, N1, e1, e2, iv1, same⟩ := ww_place 4000 (by decide) M N iv (xs (7 * t + 1)).toInt (xs (7 * t + 2)).toInt (jm_tin _) (jm_tin _)
  refine tw_sys1 (Y1 := wd1) (Y2 := wd2) (as := [jm_i (xs (7 * t + 1)).toInt, jm_i (xs (7 * t + 2)).toInt]) (rest := []) F h2 (ct_X11_place 4000 M (xs (7 * t + 1)).toInt (xs (7 * t + 2)).toInt (jm_tin _) (jm_tin _)) e1 iv.1.1.1.1.rm (tw_gl kw_1097 rfl) km_X11_place kv_X11_place rfl rfl ⟨(Nat.le_of_ble_eq_true rfl), (Nat.le_of_ble_eq_true rfl)⟩ jv1_0 ko1_0 rfl rfl hl.1 rfl (Nat.le_of_ble_eq_true rfl) dL_law_1218 (Nat.le_of_succ_le hc) (Nat.le_trans (Nat.le_add_right _ _) hs) (fun H locs h2 => ?_)
  refine lv_pop hx hb dL_law_1221 rfl ?_
  refine lv_aload_n hx hb dL_law_1222 rfl (lv_at hl 2 rfl) ?_
  refine law_arg F hX hbl h2 hl ht hL 4 0 rfl rfl 1 (by decide) dL_law_1223 dL_law_1224 dL_law_1226 dL_law_1227 dL_law_1228 ?_
  refine law_arg F hX hbl h2 hl ht hL 4 0 rfl rfl 2 (by decide) dL_law_1229 dL_law_1230 dL_law_1232 dL_law_1233 dL_law_1234 ?_
  refine tw_sys2 (Y1 := wd1) (Y2 := wd2) (as := [jm_i (xs (7 * t + 1)).toInt, jm_i (xs (7 * t + 2)).toInt]) (rest := []) F h2 (ct_X12_place 4000 N (xs (7 * t + 1)).toInt (xs (7 * t + 2)).toInt (jm_tin _) (jm_tin _)) e2 iv.1.1.1.2.1.rm2 (tw_gl kw_1669 rfl) km_X12_place kv_X12_place rfl rfl ⟨(Nat.le_of_ble_eq_true rfl), (Nat.le_of_ble_eq_true rfl)⟩ jv2_0 ko2_0 rfl rfl hl.1 rfl (Nat.le_of_ble_eq_true rfl) dL_law_1235 (Nat.le_of_succ_le hc) (Nat.le_trans (Nat.le_add_right _ _) hs) (fun H locs h2 => ?_)
  refine lv_pop hx hb dL_law_1238 rfl ?_
  refine lv_goto (tgt := 1891) hx hb dL_law_1239 (by decide) ?_
  exact hk M1 N1 _ _ _ cells slots iv1 h2 (lv_sub hl [0, 1, 2, 3, 4] rfl) (Nat.le_succ _) (Nat.le_add_right _ _)
set_option maxHeartbeats 4000000 in
set_option maxRecDepth 100000 in
theorem law_case_25 {p : Program} {l : Launch} {e : Env} {s : State} {m : MethodId} {below : List Frame} {meth : Method} {c : Code} {G : tw_G} {b L t : Nat} {xs : Nat → Int32} (hst : l.stackTraces = false) (F : tw_F p m c code 7 s #[Value.ref b] RL G (fun q => s.heap.size ≤ q)) (hX : va_X b L xs s s.heap) (hbl : b < s.heap.size) (ht : 7 * t + 7 ≤ L) (hL : L ≤ 3584) {ad1 ad2 : Nat → Nat} {M N : jm_M} (iv : IY M N) {H : Heap} {locs : List Loc} {cells slots : Nat} {ls : Array Slot} (h2 : tw_2 G 245 ad1 (jm_c wd1 G ad1 M) 80 ad2 (jm_c wd2 G ad2 N) (fun q => s.heap.size ≤ q) s H locs) (hl : lv_has ls 7 (law_lv b (ad1 0) (ad2 0) (ad1 244) t)) (hc : cells + 1 ≤ 601024) (hs : slots + 6 ≤ 7293034) (hk : law_K p l e s m below meth c G b t ad1 ad2 cells slots) : W p l e room_1 s m #[Value.ref b] below meth c H locs cells slots (lw_Z below #[Value.ref b] s) (F0 m 1242 ls []) := by
  have hx := F.1.1
  have hb := F.1.2.1
  refine lv_aload_n hx hb dL_law_1242 rfl (lv_at hl 3 rfl) ?_
  refine law_arg F hX hbl h2 hl ht hL 4 0 rfl rfl 1 (by decide) dL_law_1243 dL_law_1244 dL_law_1246 dL_law_1247 dL_law_1248 ?_
  refine law_arg F hX hbl h2 hl ht hL 4 0 rfl rfl 2 (by decide) dL_law_1249 dL_law_1250 dL_law_1252 dL_law_1253 dL_law_1254 ?_
  refine lv_aload_n hx hb dL_law_1255 rfl (lv_at hl 1 rfl) ?_
  obtain ⟨r, M1, u, N1, e1, e2, iv1, same⟩ := ww_sum 4000 (by decide) M N iv (xs (7 * t + 1)).toInt (xs (7 * t + 2)).toInt (jm_tin _) (jm_tin _)
  refine tw_calli_1 F h2 (tw_runSW (n := 4) (hh := [(0, 10, 13, 13)]) (As := [.ref (ad1 0), jm_i (xs (7 * t + 1)).toInt, jm_i (xs (7 * t + 2)).toInt, .ref (ad1 244)]) (rest := []) F h2.1 (c_L_sum l G hst ad1 H.size M (xs (7 * t + 1)).toInt (xs (7 * t + 2)).toInt (jm_tin _) (jm_tin _) e1 iv.1.1.1.1.rm) (tw_gl kw_1327 rfl) (tw_gl kw_1328 rfl) (tw_gl kw_0 rfl) tw_g_sum (by decide) rfl rfl ⟨(Nat.le_of_ble_eq_true rfl), (Nat.le_of_ble_eq_true rfl)⟩ rfl hl.1 rfl (Nat.le_of_ble_eq_true rfl) dL_law_1256 ⟨hc, hs⟩) (fun rL wL H locs hp h2 => ?_)
  obtain ⟨hrin, rfl⟩ := hp
  have ivx : IY (if r = 4294967296 then M1 else jm_u M1 49 0 0 r) N1 := by
    by_cases hr : r = 4294967296
    · rw [if_pos hr]; exact iv1
    · rw [if_neg hr]; exact iv1.out (hrin hr)
  refine lv_istore (lv' := [(5, .int rL), (4, .int (Int32.ofNat (7 * t))), (3, .ref (ad1 244)), (2, .ref (ad2 0)), (1, .ref (ad1 0)), (0, .ref b)]) hx hb dL_law_1259 hl (by decide) rfl (fun ls hl => ?_)
  refine lv_aload_n hx hb dL_law_1261 rfl (lv_at hl 3 rfl) ?_
  refine law_arg F hX hbl h2 hl ht hL 5 1 rfl rfl 1 (by decide) dL_law_1262 dL_law_1263 dL_law_1265 dL_law_1266 dL_law_1267 ?_
  refine law_arg F hX hbl h2 hl ht hL 5 1 rfl rfl 2 (by decide) dL_law_1268 dL_law_1269 dL_law_1271 dL_law_1272 dL_law_1273 ?_
  refine tw_sys2 (Y1 := wd1) (Y2 := wd2) (as := [jm_i (xs (7 * t + 1)).toInt, jm_i (xs (7 * t + 2)).toInt]) (rest := []) F h2 (ct_X12_sum 4000 N (xs (7 * t + 1)).toInt (xs (7 * t + 2)).toInt (jm_tin _) (jm_tin _)) e2 iv.1.1.1.2.1.rm2 (tw_gl kw_1689 rfl) km_X12_sum kv_X12_sum rfl rfl ⟨(Nat.le_of_ble_eq_true rfl), (Nat.le_of_ble_eq_true rfl)⟩ jv2_0 ko2_0 rfl rfl hl.1 rfl (Nat.le_of_ble_eq_true rfl) dL_law_1274 hc hs (fun H locs h2 => ?_)
  refine lv_istore (lv' := [(6, jm_i u), (5, .int rL), (4, .int (Int32.ofNat (7 * t))), (3, .ref (ad1 244)), (2, .ref (ad2 0)), (1, .ref (ad1 0)), (0, .ref b)]) hx hb dL_law_1277 hl (by decide) rfl (fun ls hl => ?_)
  refine lv_goto (tgt := 1891) hx hb dL_law_1279 (by decide) ?_
  exact hk (if r = 4294967296 then M1 else jm_u M1 49 0 0 r) N1 _ _ _ (cells + 1) (slots + 6) ivx h2 (lv_sub hl [2, 3, 4, 5, 6] rfl) (Nat.le_refl _) (Nat.le_refl _)
set_option maxHeartbeats 4000000 in
set_option maxRecDepth 100000 in
theorem law_case_26 {p : Program} {l : Launch} {e : Env} {s : State} {m : MethodId} {below : List Frame} {meth : Method} {c : Code} {G : tw_G} {b L t : Nat} {xs : Nat → Int32} (hst : l.stackTraces = false) (F : tw_F p m c code 7 s #[Value.ref b] RL G (fun q => s.heap.size ≤ q)) (hX : va_X b L xs s s.heap) (hbl : b < s.heap.size) (ht : 7 * t + 7 ≤ L) (hL : L ≤ 3584) {ad1 ad2 : Nat → Nat} {M N : jm_M} (iv : IY M N) {H : Heap} {locs : List Loc} {cells slots : Nat} {ls : Array Slot} (h2 : tw_2 G 245 ad1 (jm_c wd1 G ad1 M) 80 ad2 (jm_c wd2 G ad2 N) (fun q => s.heap.size ≤ q) s H locs) (hl : lv_has ls 7 (law_lv b (ad1 0) (ad2 0) (ad1 244) t)) (hc : cells + 1 ≤ 601024) (hs : slots + 6 ≤ 7293034) (hk : law_K p l e s m below meth c G b t ad1 ad2 cells slots) : W p l e room_1 s m #[Value.ref b] below meth c H locs cells slots (lw_Z below #[Value.ref b] s) (F0 m 1282 ls []) := by
  have hx := F.1.1
  have hb := F.1.2.1
  refine lv_aload_n hx hb dL_law_1282 rfl (lv_at hl 3 rfl) ?_
  refine law_arg F hX hbl h2 hl ht hL 4 0 rfl rfl 1 (by decide) dL_law_1283 dL_law_1284 dL_law_1286 dL_law_1287 dL_law_1288 ?_
  refine law_arg F hX hbl h2 hl ht hL 4 0 rfl rfl 2 (by decide) dL_law_1289 dL_law_1290 dL_law_1292 dL_law_1293 dL_law_1294 ?_
  obtain ⟨r, M1, u, N1, e1, e2, iv1, same⟩ := ww_within 4000 (by decide) M N iv (xs (7 * t + 1)).toInt (xs (7 * t + 2)).toInt (jm_tin _) (jm_tin _)
  refine tw_sys1 (Y1 := wd1) (Y2 := wd2) (as := [jm_i (xs (7 * t + 1)).toInt, jm_i (xs (7 * t + 2)).toInt]) (rest := []) F h2 (ct_X11_within 4000 M (xs (7 * t + 1)).toInt (xs (7 * t + 2)).toInt (jm_tin _) (jm_tin _)) e1 iv.1.1.1.1.rm (tw_gl kw_1121 rfl) km_X11_within kv_X11_within rfl rfl ⟨(Nat.le_of_ble_eq_true rfl), (Nat.le_of_ble_eq_true rfl)⟩ jv1_0 ko1_0 rfl rfl hl.1 rfl (Nat.le_of_ble_eq_true rfl) dL_law_1295 (Nat.le_of_succ_le hc) (Nat.le_trans (Nat.le_add_right _ _) hs) (fun H locs h2 => ?_)
  refine lv_pop hx hb dL_law_1298 rfl ?_
  refine lv_aload_n hx hb dL_law_1299 rfl (lv_at hl 2 rfl) ?_
  refine law_arg F hX hbl h2 hl ht hL 4 0 rfl rfl 1 (by decide) dL_law_1300 dL_law_1301 dL_law_1303 dL_law_1304 dL_law_1305 ?_
  refine law_arg F hX hbl h2 hl ht hL 4 0 rfl rfl 2 (by decide) dL_law_1306 dL_law_1307 dL_law_1309 dL_law_1310 dL_law_1311 ?_
  refine tw_sys2 (Y1 := wd1) (Y2 := wd2) (as := [jm_i (xs (7 * t + 1)).toInt, jm_i (xs (7 * t + 2)).toInt]) (rest := []) F h2 (ct_X12_within 4000 N (xs (7 * t + 1)).toInt (xs (7 * t + 2)).toInt (jm_tin _) (jm_tin _)) e2 iv.1.1.1.2.1.rm2 (tw_gl kw_1693 rfl) km_X12_within kv_X12_within rfl rfl ⟨(Nat.le_of_ble_eq_true rfl), (Nat.le_of_ble_eq_true rfl)⟩ jv2_0 ko2_0 rfl rfl hl.1 rfl (Nat.le_of_ble_eq_true rfl) dL_law_1312 (Nat.le_of_succ_le hc) (Nat.le_trans (Nat.le_add_right _ _) hs) (fun H locs h2 => ?_)
  refine lv_pop hx hb dL_law_1315 rfl ?_
  refine lv_goto (tgt := 1891) hx hb dL_law_1316 (by decide) ?_
  exact hk M1 N1 _ _ _ cells slots iv1 h2 (lv_sub hl [0, 1, 2, 3, 4] rfl) (Nat.le_succ _) (Nat.le_add_right _ _)
set_option maxHeartbeats 4000000 in
set_option maxRecDepth 100000 in
theorem law_case_27 {p : Program} {l : Launch} {e : Env} {s : State} {m : MethodId} {below : List Frame} {meth : Method} {c : Code} {G : tw_G} {b L t : Nat} {xs : Nat → Int32} (hst : l.stackTraces = false) (F : tw_F p m c code 7 s #[Value.ref b] RL G (fun q => s.heap.size ≤ q)) (hX : va_X b L xs s s.heap) (hbl : b < s.heap.size) (ht : 7 * t + 7 ≤ L) (hL : L ≤ 3584) {ad1 ad2 : Nat → Nat} {M N : jm_M} (iv : IY M N) {H : Heap} {locs : List Loc} {cells slots : Nat} {ls : Array Slot} (h2 : tw_2 G 245 ad1 (jm_c wd1 G ad1 M) 80 ad2 (jm_c wd2 G ad2 N) (fun q => s.heap.size ≤ q) s H locs) (hl : lv_has ls 7 (law_lv b (ad1 0) (ad2 0) (ad1 244) t)) (hc : cells + 1 ≤ 601024) (hs : slots + 6 ≤ 7293034) (hk : law_K p l e s m below meth c G b t ad1 ad2 cells slots) : W p l e room_1 s m #[Value.ref b] below meth c H locs cells slots (lw_Z below #[Value.ref b] s) (F0 m 1319 ls []) := by
  have hx := F.1.1
  have hb := F.1.2.1
  refine lv_aload_n hx hb dL_law_1319 rfl (lv_at hl 3 rfl) ?_
  refine law_arg F hX hbl h2 hl ht hL 4 0 rfl rfl 1 (by decide) dL_law_1320 dL_law_1321 dL_law_1323 dL_law_1324 dL_law_1325 ?_
  obtain ⟨r, M1, u, N1, e1, e2, iv1, same⟩ := ww_result 4000 (by decide) M N iv (xs (7 * t + 1)).toInt (jm_tin _)
  refine tw_sys1 (Y1 := wd1) (Y2 := wd2) (as := [jm_i (xs (7 * t + 1)).toInt]) (rest := []) F h2 (ct_X11_result 4000 M (xs (7 * t + 1)).toInt (jm_tin _)) e1 iv.1.1.1.1.rm (tw_gl kw_1125 rfl) km_X11_result kv_X11_result rfl rfl ⟨(Nat.le_of_ble_eq_true rfl), (Nat.le_of_ble_eq_true rfl)⟩ jv1_0 ko1_0 rfl rfl hl.1 rfl (Nat.le_of_ble_eq_true rfl) dL_law_1326 (Nat.le_of_succ_le hc) (Nat.le_trans (Nat.le_add_right _ _) hs) (fun H locs h2 => ?_)
  refine lv_pop hx hb dL_law_1329 rfl ?_
  refine lv_aload_n hx hb dL_law_1330 rfl (lv_at hl 2 rfl) ?_
  refine law_arg F hX hbl h2 hl ht hL 4 0 rfl rfl 1 (by decide) dL_law_1331 dL_law_1332 dL_law_1334 dL_law_1335 dL_law_1336 ?_
  refine tw_sys2 (Y1 := wd1) (Y2 := wd2) (as := [jm_i (xs (7 * t + 1)).toInt]) (rest := []) F h2 (ct_X12_result 4000 N (xs (7 * t + 1)).toInt (jm_tin _)) e2 iv.1.1.1.2.1.rm2 (tw_gl kw_1697 rfl) km_X12_result kv_X12_result rfl rfl ⟨(Nat.le_of_ble_eq_true rfl), (Nat.le_of_ble_eq_true rfl)⟩ jv2_0 ko2_0 rfl rfl hl.1 rfl (Nat.le_of_ble_eq_true rfl) dL_law_1337 (Nat.le_of_succ_le hc) (Nat.le_trans (Nat.le_add_right _ _) hs) (fun H locs h2 => ?_)
  refine lv_pop hx hb dL_law_1340 rfl ?_
  refine lv_goto (tgt := 1891) hx hb dL_law_1341 (by decide) ?_
  exact hk M1 N1 _ _ _ cells slots iv1 h2 (lv_sub hl [0, 1, 2, 3, 4] rfl) (Nat.le_succ _) (Nat.le_add_right _ _)
set_option maxHeartbeats 4000000 in
set_option maxRecDepth 100000 in
theorem law_case_28 {p : Program} {l : Launch} {e : Env} {s : State} {m : MethodId} {below : List Frame} {meth : Method} {c : Code} {G : tw_G} {b L t : Nat} {xs : Nat → Int32} (hst : l.stackTraces = false) (F : tw_F p m c code 7 s #[Value.ref b] RL G (fun q => s.heap.size ≤ q)) (hX : va_X b L xs s s.heap) (hbl : b < s.heap.size) (ht : 7 * t + 7 ≤ L) (hL : L ≤ 3584) {ad1 ad2 : Nat → Nat} {M N : jm_M} (iv : IY M N) {H : Heap} {locs : List Loc} {cells slots : Nat} {ls : Array Slot} (h2 : tw_2 G 245 ad1 (jm_c wd1 G ad1 M) 80 ad2 (jm_c wd2 G ad2 N) (fun q => s.heap.size ≤ q) s H locs) (hl : lv_has ls 7 (law_lv b (ad1 0) (ad2 0) (ad1 244) t)) (hc : cells + 1 ≤ 601024) (hs : slots + 6 ≤ 7293034) (hk : law_K p l e s m below meth c G b t ad1 ad2 cells slots) : W p l e room_1 s m #[Value.ref b] below meth c H locs cells slots (lw_Z below #[Value.ref b] s) (F0 m 1344 ls []) := by
  have hx := F.1.1
  have hb := F.1.2.1
  refine lv_aload_n hx hb dL_law_1344 rfl (lv_at hl 3 rfl) ?_
  refine law_arg F hX hbl h2 hl ht hL 4 0 rfl rfl 1 (by decide) dL_law_1345 dL_law_1346 dL_law_1348 dL_law_1349 dL_law_1350 ?_
  refine law_arg F hX hbl h2 hl ht hL 4 0 rfl rfl 2 (by decide) dL_law_1351 dL_law_1352 dL_law_1354 dL_law_1355 dL_law_1356 ?_
  refine law_arg F hX hbl h2 hl ht hL 4 0 rfl rfl 3 (by decide) dL_law_1357 dL_law_1358 dL_law_1360 dL_law_1361 dL_law_1362 ?_
  refine law_arg F hX hbl h2 hl ht hL 4 0 rfl rfl 4 (by decide) dL_law_1363 dL_law_1364 dL_law_1366 dL_law_1367 dL_law_1368 ?_
  obtain ⟨r, M1, u, N1, e1, e2, iv1, same⟩ := ww_move 4000 (by decide) M N iv (xs (7 * t + 1)).toInt (xs (7 * t + 2)).toInt (xs (7 * t + 3)).toInt (xs (7 * t + 4)).toInt (jm_tin _) (jm_tin _) (jm_tin _) (jm_tin _)
  refine tw_sys1 (Y1 := wd1) (Y2 := wd2) (as := [jm_i (xs (7 * t + 1)).toInt, jm_i (xs (7 * t + 2)).toInt, jm_i (xs (7 * t + 3)).toInt, jm_i (xs (7 * t + 4)).toInt]) (rest := []) F h2 (ct_X11_move 4000 M (xs (7 * t + 1)).toInt (xs (7 * t + 2)).toInt (xs (7 * t + 3)).toInt (xs (7 * t + 4)).toInt (jm_tin _) (jm_tin _) (jm_tin _) (jm_tin _)) e1 iv.1.1.1.1.rm (tw_gl kw_1129 rfl) km_X11_move kv_X11_move rfl rfl ⟨(Nat.le_of_ble_eq_true rfl), (Nat.le_of_ble_eq_true rfl)⟩ jv1_0 ko1_0 rfl rfl hl.1 rfl (Nat.le_of_ble_eq_true rfl) dL_law_1369 (Nat.le_of_succ_le hc) (Nat.le_trans (Nat.le_add_right _ _) hs) (fun H locs h2 => ?_)
  refine lv_pop hx hb dL_law_1372 rfl ?_
  refine lv_aload_n hx hb dL_law_1373 rfl (lv_at hl 2 rfl) ?_
  refine law_arg F hX hbl h2 hl ht hL 4 0 rfl rfl 1 (by decide) dL_law_1374 dL_law_1375 dL_law_1377 dL_law_1378 dL_law_1379 ?_
  refine law_arg F hX hbl h2 hl ht hL 4 0 rfl rfl 2 (by decide) dL_law_1380 dL_law_1381 dL_law_1383 dL_law_1384 dL_law_1385 ?_
  refine law_arg F hX hbl h2 hl ht hL 4 0 rfl rfl 3 (by decide) dL_law_1386 dL_law_1387 dL_law_1389 dL_law_1390 dL_law_1391 ?_
  refine law_arg F hX hbl h2 hl ht hL 4 0 rfl rfl 4 (by decide) dL_law_1392 dL_law_1393 dL_law_1395 dL_law_1396 dL_law_1397 ?_
  refine tw_sys2 (Y1 := wd1) (Y2 := wd2) (as := [jm_i (xs (7 * t + 1)).toInt, jm_i (xs (7 * t + 2)).toInt, jm_i (xs (7 * t + 3)).toInt, jm_i (xs (7 * t + 4)).toInt]) (rest := []) F h2 (ct_X12_move 4000 N (xs (7 * t + 1)).toInt (xs (7 * t + 2)).toInt (xs (7 * t + 3)).toInt (xs (7 * t + 4)).toInt (jm_tin _) (jm_tin _) (jm_tin _) (jm_tin _)) e2 iv.1.1.1.2.1.rm2 (tw_gl kw_1701 rfl) km_X12_move kv_X12_move rfl rfl ⟨(Nat.le_of_ble_eq_true rfl), (Nat.le_of_ble_eq_true rfl)⟩ jv2_0 ko2_0 rfl rfl hl.1 rfl (Nat.le_of_ble_eq_true rfl) dL_law_1398 (Nat.le_of_succ_le hc) (Nat.le_trans (Nat.le_add_right _ _) hs) (fun H locs h2 => ?_)
  refine lv_pop hx hb dL_law_1401 rfl ?_
  refine lv_goto (tgt := 1891) hx hb dL_law_1402 (by decide) ?_
  exact hk M1 N1 _ _ _ cells slots iv1 h2 (lv_sub hl [0, 1, 2, 3, 4] rfl) (Nat.le_succ _) (Nat.le_add_right _ _)
set_option maxHeartbeats 4000000 in
set_option maxRecDepth 100000 in
theorem law_case_29 {p : Program} {l : Launch} {e : Env} {s : State} {m : MethodId} {below : List Frame} {meth : Method} {c : Code} {G : tw_G} {b L t : Nat} {xs : Nat → Int32} (hst : l.stackTraces = false) (F : tw_F p m c code 7 s #[Value.ref b] RL G (fun q => s.heap.size ≤ q)) (hX : va_X b L xs s s.heap) (hbl : b < s.heap.size) (ht : 7 * t + 7 ≤ L) (hL : L ≤ 3584) {ad1 ad2 : Nat → Nat} {M N : jm_M} (iv : IY M N) {H : Heap} {locs : List Loc} {cells slots : Nat} {ls : Array Slot} (h2 : tw_2 G 245 ad1 (jm_c wd1 G ad1 M) 80 ad2 (jm_c wd2 G ad2 N) (fun q => s.heap.size ≤ q) s H locs) (hl : lv_has ls 7 (law_lv b (ad1 0) (ad2 0) (ad1 244) t)) (hc : cells + 1 ≤ 601024) (hs : slots + 6 ≤ 7293034) (hk : law_K p l e s m below meth c G b t ad1 ad2 cells slots) : W p l e room_1 s m #[Value.ref b] below meth c H locs cells slots (lw_Z below #[Value.ref b] s) (F0 m 1405 ls []) := by
  have hx := F.1.1
  have hb := F.1.2.1
  refine lv_aload_n hx hb dL_law_1405 rfl (lv_at hl 3 rfl) ?_
  refine law_arg F hX hbl h2 hl ht hL 4 0 rfl rfl 1 (by decide) dL_law_1406 dL_law_1407 dL_law_1409 dL_law_1410 dL_law_1411 ?_
  refine law_arg F hX hbl h2 hl ht hL 4 0 rfl rfl 2 (by decide) dL_law_1412 dL_law_1413 dL_law_1415 dL_law_1416 dL_law_1417 ?_
  refine law_arg F hX hbl h2 hl ht hL 4 0 rfl rfl 3 (by decide) dL_law_1418 dL_law_1419 dL_law_1421 dL_law_1422 dL_law_1423 ?_
  obtain ⟨r, M1, u, N1, e1, e2, iv1, same⟩ := ww_best 4000 (by decide) M N iv (xs (7 * t + 1)).toInt (xs (7 * t + 2)).toInt (xs (7 * t + 3)).toInt (jm_tin _) (jm_tin _) (jm_tin _)
  refine tw_sys1 (Y1 := wd1) (Y2 := wd2) (as := [jm_i (xs (7 * t + 1)).toInt, jm_i (xs (7 * t + 2)).toInt, jm_i (xs (7 * t + 3)).toInt]) (rest := []) F h2 (ct_X11_best 4000 M (xs (7 * t + 1)).toInt (xs (7 * t + 2)).toInt (xs (7 * t + 3)).toInt (jm_tin _) (jm_tin _) (jm_tin _)) e1 iv.1.1.1.1.rm (tw_gl kw_1136 rfl) km_X11_best kv_X11_best rfl rfl ⟨(Nat.le_of_ble_eq_true rfl), (Nat.le_of_ble_eq_true rfl)⟩ jv1_0 ko1_0 rfl rfl hl.1 rfl (Nat.le_of_ble_eq_true rfl) dL_law_1424 (Nat.le_of_succ_le hc) (Nat.le_trans (Nat.le_add_right _ _) hs) (fun H locs h2 => ?_)
  refine lv_pop hx hb dL_law_1427 rfl ?_
  refine lv_aload_n hx hb dL_law_1428 rfl (lv_at hl 2 rfl) ?_
  refine law_arg F hX hbl h2 hl ht hL 4 0 rfl rfl 1 (by decide) dL_law_1429 dL_law_1430 dL_law_1432 dL_law_1433 dL_law_1434 ?_
  refine law_arg F hX hbl h2 hl ht hL 4 0 rfl rfl 2 (by decide) dL_law_1435 dL_law_1436 dL_law_1438 dL_law_1439 dL_law_1440 ?_
  refine law_arg F hX hbl h2 hl ht hL 4 0 rfl rfl 3 (by decide) dL_law_1441 dL_law_1442 dL_law_1444 dL_law_1445 dL_law_1446 ?_
  refine tw_sys2 (Y1 := wd1) (Y2 := wd2) (as := [jm_i (xs (7 * t + 1)).toInt, jm_i (xs (7 * t + 2)).toInt, jm_i (xs (7 * t + 3)).toInt]) (rest := []) F h2 (ct_X12_best 4000 N (xs (7 * t + 1)).toInt (xs (7 * t + 2)).toInt (xs (7 * t + 3)).toInt (jm_tin _) (jm_tin _) (jm_tin _)) e2 iv.1.1.1.2.1.rm2 (tw_gl kw_1705 rfl) km_X12_best kv_X12_best rfl rfl ⟨(Nat.le_of_ble_eq_true rfl), (Nat.le_of_ble_eq_true rfl)⟩ jv2_0 ko2_0 rfl rfl hl.1 rfl (Nat.le_of_ble_eq_true rfl) dL_law_1447 (Nat.le_of_succ_le hc) (Nat.le_trans (Nat.le_add_right _ _) hs) (fun H locs h2 => ?_)
  refine lv_pop hx hb dL_law_1450 rfl ?_
  refine lv_goto (tgt := 1891) hx hb dL_law_1451 (by decide) ?_
  exact hk M1 N1 _ _ _ cells slots iv1 h2 (lv_sub hl [0, 1, 2, 3, 4] rfl) (Nat.le_succ _) (Nat.le_add_right _ _)
set_option maxHeartbeats 4000000 in
set_option maxRecDepth 100000 in
theorem law_case_30 {p : Program} {l : Launch} {e : Env} {s : State} {m : MethodId} {below : List Frame} {meth : Method} {c : Code} {G : tw_G} {b L t : Nat} {xs : Nat → Int32} (hst : l.stackTraces = false) (F : tw_F p m c code 7 s #[Value.ref b] RL G (fun q => s.heap.size ≤ q)) (hX : va_X b L xs s s.heap) (hbl : b < s.heap.size) (ht : 7 * t + 7 ≤ L) (hL : L ≤ 3584) {ad1 ad2 : Nat → Nat} {M N : jm_M} (iv : IY M N) {H : Heap} {locs : List Loc} {cells slots : Nat} {ls : Array Slot} (h2 : tw_2 G 245 ad1 (jm_c wd1 G ad1 M) 80 ad2 (jm_c wd2 G ad2 N) (fun q => s.heap.size ≤ q) s H locs) (hl : lv_has ls 7 (law_lv b (ad1 0) (ad2 0) (ad1 244) t)) (hc : cells + 1 ≤ 601024) (hs : slots + 6 ≤ 7293034) (hk : law_K p l e s m below meth c G b t ad1 ad2 cells slots) : W p l e room_1 s m #[Value.ref b] below meth c H locs cells slots (lw_Z below #[Value.ref b] s) (F0 m 1454 ls []) := by
  have hx := F.1.1
  have hb := F.1.2.1
  refine lv_aload_n hx hb dL_law_1454 rfl (lv_at hl 3 rfl) ?_
  refine law_arg F hX hbl h2 hl ht hL 4 0 rfl rfl 1 (by decide) dL_law_1455 dL_law_1456 dL_law_1458 dL_law_1459 dL_law_1460 ?_
  refine law_arg F hX hbl h2 hl ht hL 4 0 rfl rfl 2 (by decide) dL_law_1461 dL_law_1462 dL_law_1464 dL_law_1465 dL_law_1466 ?_
  refine law_arg F hX hbl h2 hl ht hL 4 0 rfl rfl 3 (by decide) dL_law_1467 dL_law_1468 dL_law_1470 dL_law_1471 dL_law_1472 ?_
  obtain ⟨r, M1, u, N1, e1, e2, iv1, same⟩ := ww_gain 4000 (by decide) M N iv (xs (7 * t + 1)).toInt (xs (7 * t + 2)).toInt (xs (7 * t + 3)).toInt (jm_tin _) (jm_tin _) (jm_tin _)
  refine tw_sys1 (Y1 := wd1) (Y2 := wd2) (as := [jm_i (xs (7 * t + 1)).toInt, jm_i (xs (7 * t + 2)).toInt, jm_i (xs (7 * t + 3)).toInt]) (rest := []) F h2 (ct_X11_gain 4000 M (xs (7 * t + 1)).toInt (xs (7 * t + 2)).toInt (xs (7 * t + 3)).toInt (jm_tin _) (jm_tin _) (jm_tin _)) e1 iv.1.1.1.1.rm (tw_gl kw_1178 rfl) km_X11_gain kv_X11_gain rfl rfl ⟨(Nat.le_of_ble_eq_true rfl), (Nat.le_of_ble_eq_true rfl)⟩ jv1_0 ko1_0 rfl rfl hl.1 rfl (Nat.le_of_ble_eq_true rfl) dL_law_1473 (Nat.le_of_succ_le hc) (Nat.le_trans (Nat.le_add_right _ _) hs) (fun H locs h2 => ?_)
  refine lv_pop hx hb dL_law_1476 rfl ?_
  refine lv_aload_n hx hb dL_law_1477 rfl (lv_at hl 2 rfl) ?_
  refine law_arg F hX hbl h2 hl ht hL 4 0 rfl rfl 1 (by decide) dL_law_1478 dL_law_1479 dL_law_1481 dL_law_1482 dL_law_1483 ?_
  refine law_arg F hX hbl h2 hl ht hL 4 0 rfl rfl 2 (by decide) dL_law_1484 dL_law_1485 dL_law_1487 dL_law_1488 dL_law_1489 ?_
  refine law_arg F hX hbl h2 hl ht hL 4 0 rfl rfl 3 (by decide) dL_law_1490 dL_law_1491 dL_law_1493 dL_law_1494 dL_law_1495 ?_
  refine tw_sys2 (Y1 := wd1) (Y2 := wd2) (as := [jm_i (xs (7 * t + 1)).toInt, jm_i (xs (7 * t + 2)).toInt, jm_i (xs (7 * t + 3)).toInt]) (rest := []) F h2 (ct_X12_gain 4000 N (xs (7 * t + 1)).toInt (xs (7 * t + 2)).toInt (xs (7 * t + 3)).toInt (jm_tin _) (jm_tin _) (jm_tin _)) e2 iv.1.1.1.2.1.rm2 (tw_gl kw_1732 rfl) km_X12_gain kv_X12_gain rfl rfl ⟨(Nat.le_of_ble_eq_true rfl), (Nat.le_of_ble_eq_true rfl)⟩ jv2_0 ko2_0 rfl rfl hl.1 rfl (Nat.le_of_ble_eq_true rfl) dL_law_1496 (Nat.le_of_succ_le hc) (Nat.le_trans (Nat.le_add_right _ _) hs) (fun H locs h2 => ?_)
  refine lv_pop hx hb dL_law_1499 rfl ?_
  refine lv_goto (tgt := 1891) hx hb dL_law_1500 (by decide) ?_
  exact hk M1 N1 _ _ _ cells slots iv1 h2 (lv_sub hl [0, 1, 2, 3, 4] rfl) (Nat.le_succ _) (Nat.le_add_right _ _)
set_option maxHeartbeats 4000000 in
set_option maxRecDepth 100000 in
theorem law_case_31 {p : Program} {l : Launch} {e : Env} {s : State} {m : MethodId} {below : List Frame} {meth : Method} {c : Code} {G : tw_G} {b L t : Nat} {xs : Nat → Int32} (hst : l.stackTraces = false) (F : tw_F p m c code 7 s #[Value.ref b] RL G (fun q => s.heap.size ≤ q)) (hX : va_X b L xs s s.heap) (hbl : b < s.heap.size) (ht : 7 * t + 7 ≤ L) (hL : L ≤ 3584) {ad1 ad2 : Nat → Nat} {M N : jm_M} (iv : IY M N) {H : Heap} {locs : List Loc} {cells slots : Nat} {ls : Array Slot} (h2 : tw_2 G 245 ad1 (jm_c wd1 G ad1 M) 80 ad2 (jm_c wd2 G ad2 N) (fun q => s.heap.size ≤ q) s H locs) (hl : lv_has ls 7 (law_lv b (ad1 0) (ad2 0) (ad1 244) t)) (hc : cells + 1 ≤ 601024) (hs : slots + 6 ≤ 7293034) (hk : law_K p l e s m below meth c G b t ad1 ad2 cells slots) : W p l e room_1 s m #[Value.ref b] below meth c H locs cells slots (lw_Z below #[Value.ref b] s) (F0 m 1503 ls []) := by
  have hx := F.1.1
  have hb := F.1.2.1
  refine lv_aload_n hx hb dL_law_1503 rfl (lv_at hl 3 rfl) ?_
  refine law_arg F hX hbl h2 hl ht hL 4 0 rfl rfl 1 (by decide) dL_law_1504 dL_law_1505 dL_law_1507 dL_law_1508 dL_law_1509 ?_
  refine law_arg F hX hbl h2 hl ht hL 4 0 rfl rfl 2 (by decide) dL_law_1510 dL_law_1511 dL_law_1513 dL_law_1514 dL_law_1515 ?_
  refine law_arg F hX hbl h2 hl ht hL 4 0 rfl rfl 3 (by decide) dL_law_1516 dL_law_1517 dL_law_1519 dL_law_1520 dL_law_1521 ?_
  obtain ⟨r, M1, u, N1, e1, e2, iv1, same⟩ := ww_option 4000 (by decide) M N iv (xs (7 * t + 1)).toInt (xs (7 * t + 2)).toInt (xs (7 * t + 3)).toInt (jm_tin _) (jm_tin _) (jm_tin _)
  refine tw_sys1 (Y1 := wd1) (Y2 := wd2) (as := [jm_i (xs (7 * t + 1)).toInt, jm_i (xs (7 * t + 2)).toInt, jm_i (xs (7 * t + 3)).toInt]) (rest := []) F h2 (ct_X11_option M (xs (7 * t + 1)).toInt (xs (7 * t + 2)).toInt (xs (7 * t + 3)).toInt (jm_tin _) (jm_tin _) (jm_tin _)) e1 iv.1.1.1.1.rm (tw_gl kw_1184 rfl) km_X11_option kv_X11_option rfl rfl ⟨(Nat.le_of_ble_eq_true rfl), (Nat.le_of_ble_eq_true rfl)⟩ jv1_0 ko1_0 rfl rfl hl.1 rfl (Nat.le_of_ble_eq_true rfl) dL_law_1522 (Nat.le_of_succ_le hc) (Nat.le_trans (Nat.le_add_right _ _) hs) (fun H locs h2 => ?_)
  refine lv_pop hx hb dL_law_1525 rfl ?_
  refine lv_aload_n hx hb dL_law_1526 rfl (lv_at hl 2 rfl) ?_
  refine law_arg F hX hbl h2 hl ht hL 4 0 rfl rfl 1 (by decide) dL_law_1527 dL_law_1528 dL_law_1530 dL_law_1531 dL_law_1532 ?_
  refine law_arg F hX hbl h2 hl ht hL 4 0 rfl rfl 2 (by decide) dL_law_1533 dL_law_1534 dL_law_1536 dL_law_1537 dL_law_1538 ?_
  refine law_arg F hX hbl h2 hl ht hL 4 0 rfl rfl 3 (by decide) dL_law_1539 dL_law_1540 dL_law_1542 dL_law_1543 dL_law_1544 ?_
  refine tw_sys2 (Y1 := wd1) (Y2 := wd2) (as := [jm_i (xs (7 * t + 1)).toInt, jm_i (xs (7 * t + 2)).toInt, jm_i (xs (7 * t + 3)).toInt]) (rest := []) F h2 (ct_X12_option 4000 N (xs (7 * t + 1)).toInt (xs (7 * t + 2)).toInt (xs (7 * t + 3)).toInt (jm_tin _) (jm_tin _) (jm_tin _)) e2 iv.1.1.1.2.1.rm2 (tw_gl kw_1736 rfl) km_X12_option kv_X12_option rfl rfl ⟨(Nat.le_of_ble_eq_true rfl), (Nat.le_of_ble_eq_true rfl)⟩ jv2_0 ko2_0 rfl rfl hl.1 rfl (Nat.le_of_ble_eq_true rfl) dL_law_1545 (Nat.le_of_succ_le hc) (Nat.le_trans (Nat.le_add_right _ _) hs) (fun H locs h2 => ?_)
  refine lv_pop hx hb dL_law_1548 rfl ?_
  refine lv_goto (tgt := 1891) hx hb dL_law_1549 (by decide) ?_
  exact hk M1 N1 _ _ _ cells slots iv1 h2 (lv_sub hl [0, 1, 2, 3, 4] rfl) (Nat.le_succ _) (Nat.le_add_right _ _)
set_option maxHeartbeats 4000000 in
set_option maxRecDepth 100000 in
theorem law_case_32 {p : Program} {l : Launch} {e : Env} {s : State} {m : MethodId} {below : List Frame} {meth : Method} {c : Code} {G : tw_G} {b L t : Nat} {xs : Nat → Int32} (hst : l.stackTraces = false) (F : tw_F p m c code 7 s #[Value.ref b] RL G (fun q => s.heap.size ≤ q)) (hX : va_X b L xs s s.heap) (hbl : b < s.heap.size) (ht : 7 * t + 7 ≤ L) (hL : L ≤ 3584) {ad1 ad2 : Nat → Nat} {M N : jm_M} (iv : IY M N) {H : Heap} {locs : List Loc} {cells slots : Nat} {ls : Array Slot} (h2 : tw_2 G 245 ad1 (jm_c wd1 G ad1 M) 80 ad2 (jm_c wd2 G ad2 N) (fun q => s.heap.size ≤ q) s H locs) (hl : lv_has ls 7 (law_lv b (ad1 0) (ad2 0) (ad1 244) t)) (hc : cells + 1 ≤ 601024) (hs : slots + 6 ≤ 7293034) (hk : law_K p l e s m below meth c G b t ad1 ad2 cells slots) : W p l e room_1 s m #[Value.ref b] below meth c H locs cells slots (lw_Z below #[Value.ref b] s) (F0 m 1552 ls []) := by
  have hx := F.1.1
  have hb := F.1.2.1
  refine lv_aload_n hx hb dL_law_1552 rfl (lv_at hl 3 rfl) ?_
  obtain ⟨r, M1, u, N1, e1, e2, iv1, same⟩ := ww_clear 4000 (by decide) M N iv  
  refine tw_sys1 (Y1 := wd1) (Y2 := wd2) (as := []) (rest := []) F h2 (ct_X11_clear 4000 M  ) e1 iv.1.1.1.1.rm (tw_gl kw_1188 rfl) km_X11_clear kv_X11_clear rfl rfl ⟨(Nat.le_of_ble_eq_true rfl), (Nat.le_of_ble_eq_true rfl)⟩ jv1_0 ko1_0 rfl rfl hl.1 rfl (Nat.le_of_ble_eq_true rfl) dL_law_1553 (Nat.le_of_succ_le hc) (Nat.le_trans (Nat.le_add_right _ _) hs) (fun H locs h2 => ?_)
  refine lv_pop hx hb dL_law_1556 rfl ?_
  refine lv_aload_n hx hb dL_law_1557 rfl (lv_at hl 2 rfl) ?_
  refine tw_sys2 (Y1 := wd1) (Y2 := wd2) (as := []) (rest := []) F h2 (ct_X12_clear 4000 N  ) e2 iv.1.1.1.2.1.rm2 (tw_gl kw_1740 rfl) km_X12_clear kv_X12_clear rfl rfl ⟨(Nat.le_of_ble_eq_true rfl), (Nat.le_of_ble_eq_true rfl)⟩ jv2_0 ko2_0 rfl rfl hl.1 rfl (Nat.le_of_ble_eq_true rfl) dL_law_1558 (Nat.le_of_succ_le hc) (Nat.le_trans (Nat.le_add_right _ _) hs) (fun H locs h2 => ?_)
  refine lv_pop hx hb dL_law_1561 rfl ?_
  refine lv_goto (tgt := 1891) hx hb dL_law_1562 (by decide) ?_
  exact hk M1 N1 _ _ _ cells slots iv1 h2 (lv_sub hl [0, 1, 2, 3, 4] rfl) (Nat.le_succ _) (Nat.le_add_right _ _)
set_option maxHeartbeats 4000000 in
set_option maxRecDepth 100000 in
theorem law_case_33 {p : Program} {l : Launch} {e : Env} {s : State} {m : MethodId} {below : List Frame} {meth : Method} {c : Code} {G : tw_G} {b L t : Nat} {xs : Nat → Int32} (hst : l.stackTraces = false) (F : tw_F p m c code 7 s #[Value.ref b] RL G (fun q => s.heap.size ≤ q)) (hX : va_X b L xs s s.heap) (hbl : b < s.heap.size) (ht : 7 * t + 7 ≤ L) (hL : L ≤ 3584) {ad1 ad2 : Nat → Nat} {M N : jm_M} (iv : IY M N) {H : Heap} {locs : List Loc} {cells slots : Nat} {ls : Array Slot} (h2 : tw_2 G 245 ad1 (jm_c wd1 G ad1 M) 80 ad2 (jm_c wd2 G ad2 N) (fun q => s.heap.size ≤ q) s H locs) (hl : lv_has ls 7 (law_lv b (ad1 0) (ad2 0) (ad1 244) t)) (hc : cells + 1 ≤ 601024) (hs : slots + 6 ≤ 7293034) (hk : law_K p l e s m below meth c G b t ad1 ad2 cells slots) : W p l e room_1 s m #[Value.ref b] below meth c H locs cells slots (lw_Z below #[Value.ref b] s) (F0 m 1565 ls []) := by
  have hx := F.1.1
  have hb := F.1.2.1
  refine lv_aload_n hx hb dL_law_1565 rfl (lv_at hl 3 rfl) ?_
  refine law_arg F hX hbl h2 hl ht hL 4 0 rfl rfl 1 (by decide) dL_law_1566 dL_law_1567 dL_law_1569 dL_law_1570 dL_law_1571 ?_
  refine law_arg F hX hbl h2 hl ht hL 4 0 rfl rfl 2 (by decide) dL_law_1572 dL_law_1573 dL_law_1575 dL_law_1576 dL_law_1577 ?_
  refine law_arg F hX hbl h2 hl ht hL 4 0 rfl rfl 3 (by decide) dL_law_1578 dL_law_1579 dL_law_1581 dL_law_1582 dL_law_1583 ?_
  obtain ⟨r, M1, u, N1, e1, e2, iv1, same⟩ := ww_settle 4000 (by decide) M N iv (xs (7 * t + 1)).toInt (xs (7 * t + 2)).toInt (xs (7 * t + 3)).toInt (jm_tin _) (jm_tin _) (jm_tin _)
  refine tw_sys1 (Y1 := wd1) (Y2 := wd2) (as := [jm_i (xs (7 * t + 1)).toInt, jm_i (xs (7 * t + 2)).toInt, jm_i (xs (7 * t + 3)).toInt]) (rest := []) F h2 (ct_X11_settle 4000 M (xs (7 * t + 1)).toInt (xs (7 * t + 2)).toInt (xs (7 * t + 3)).toInt (jm_tin _) (jm_tin _) (jm_tin _)) e1 iv.1.1.1.1.rm (tw_gl kw_1192 rfl) km_X11_settle kv_X11_settle rfl rfl ⟨(Nat.le_of_ble_eq_true rfl), (Nat.le_of_ble_eq_true rfl)⟩ jv1_0 ko1_0 rfl rfl hl.1 rfl (Nat.le_of_ble_eq_true rfl) dL_law_1584 (Nat.le_of_succ_le hc) (Nat.le_trans (Nat.le_add_right _ _) hs) (fun H locs h2 => ?_)
  refine lv_pop hx hb dL_law_1587 rfl ?_
  refine lv_aload_n hx hb dL_law_1588 rfl (lv_at hl 2 rfl) ?_
  refine law_arg F hX hbl h2 hl ht hL 4 0 rfl rfl 1 (by decide) dL_law_1589 dL_law_1590 dL_law_1592 dL_law_1593 dL_law_1594 ?_
  refine law_arg F hX hbl h2 hl ht hL 4 0 rfl rfl 2 (by decide) dL_law_1595 dL_law_1596 dL_law_1598 dL_law_1599 dL_law_1600 ?_
  refine law_arg F hX hbl h2 hl ht hL 4 0 rfl rfl 3 (by decide) dL_law_1601 dL_law_1602 dL_law_1604 dL_law_1605 dL_law_1606 ?_
  refine tw_sys2 (Y1 := wd1) (Y2 := wd2) (as := [jm_i (xs (7 * t + 1)).toInt, jm_i (xs (7 * t + 2)).toInt, jm_i (xs (7 * t + 3)).toInt]) (rest := []) F h2 (ct_X12_settle 4000 N (xs (7 * t + 1)).toInt (xs (7 * t + 2)).toInt (xs (7 * t + 3)).toInt (jm_tin _) (jm_tin _) (jm_tin _)) e2 iv.1.1.1.2.1.rm2 (tw_gl kw_1744 rfl) km_X12_settle kv_X12_settle rfl rfl ⟨(Nat.le_of_ble_eq_true rfl), (Nat.le_of_ble_eq_true rfl)⟩ jv2_0 ko2_0 rfl rfl hl.1 rfl (Nat.le_of_ble_eq_true rfl) dL_law_1607 (Nat.le_of_succ_le hc) (Nat.le_trans (Nat.le_add_right _ _) hs) (fun H locs h2 => ?_)
  refine lv_pop hx hb dL_law_1610 rfl ?_
  refine lv_goto (tgt := 1891) hx hb dL_law_1611 (by decide) ?_
  exact hk M1 N1 _ _ _ cells slots iv1 h2 (lv_sub hl [0, 1, 2, 3, 4] rfl) (Nat.le_succ _) (Nat.le_add_right _ _)
set_option maxHeartbeats 4000000 in
set_option maxRecDepth 100000 in
theorem law_case_34 {p : Program} {l : Launch} {e : Env} {s : State} {m : MethodId} {below : List Frame} {meth : Method} {c : Code} {G : tw_G} {b L t : Nat} {xs : Nat → Int32} (hst : l.stackTraces = false) (F : tw_F p m c code 7 s #[Value.ref b] RL G (fun q => s.heap.size ≤ q)) (hX : va_X b L xs s s.heap) (hbl : b < s.heap.size) (ht : 7 * t + 7 ≤ L) (hL : L ≤ 3584) {ad1 ad2 : Nat → Nat} {M N : jm_M} (iv : IY M N) {H : Heap} {locs : List Loc} {cells slots : Nat} {ls : Array Slot} (h2 : tw_2 G 245 ad1 (jm_c wd1 G ad1 M) 80 ad2 (jm_c wd2 G ad2 N) (fun q => s.heap.size ≤ q) s H locs) (hl : lv_has ls 7 (law_lv b (ad1 0) (ad2 0) (ad1 244) t)) (hc : cells + 1 ≤ 601024) (hs : slots + 6 ≤ 7293034) (hk : law_K p l e s m below meth c G b t ad1 ad2 cells slots) : W p l e room_1 s m #[Value.ref b] below meth c H locs cells slots (lw_Z below #[Value.ref b] s) (F0 m 1614 ls []) := by
  have hx := F.1.1
  have hb := F.1.2.1
  refine lv_aload_n hx hb dL_law_1614 rfl (lv_at hl 3 rfl) ?_
  refine law_arg F hX hbl h2 hl ht hL 4 0 rfl rfl 1 (by decide) dL_law_1615 dL_law_1616 dL_law_1618 dL_law_1619 dL_law_1620 ?_
  refine law_arg F hX hbl h2 hl ht hL 4 0 rfl rfl 2 (by decide) dL_law_1621 dL_law_1622 dL_law_1624 dL_law_1625 dL_law_1626 ?_
  refine lv_if_eq (tgt := 1634) hx hb dL_law_1627 (by decide) (fun z => ?_) (fun z => ?_)
  · skip
    refine lv_iconst (v := Int32.ofInt 0) hx hb dL_law_1634 rfl ?_
    obtain ⟨r, M1, u, N1, e1, e2, iv1, same⟩ := ww_lost M N iv (xs (7 * t + 1)).toInt 0 (jm_tin _) (by decide)
    refine tw_sys1 (Y1 := wd1) (Y2 := wd2) (as := [jm_i (xs (7 * t + 1)).toInt, jm_i 0]) (rest := []) F h2 (ct_X11_lost M (xs (7 * t + 1)).toInt 0 (jm_tin _) (jm_inL (by decide) (by decide))) e1 iv.1.1.1.1.rm (tw_gl kw_1215 rfl) km_X11_lost kv_X11_lost rfl rfl ⟨(Nat.le_of_ble_eq_true rfl), (Nat.le_of_ble_eq_true rfl)⟩ jv1_0 ko1_0 rfl rfl hl.1 rfl (Nat.le_of_ble_eq_true rfl) dL_law_1635 (Nat.le_of_succ_le hc) (Nat.le_trans (Nat.le_add_right _ _) hs) (fun H locs h2 => ?_)
    refine lv_pop hx hb dL_law_1638 rfl ?_
    refine lv_aload_n hx hb dL_law_1639 rfl (lv_at hl 2 rfl) ?_
    refine law_arg F hX hbl h2 hl ht hL 4 0 rfl rfl 1 (by decide) dL_law_1640 dL_law_1641 dL_law_1643 dL_law_1644 dL_law_1645 ?_
    refine law_arg F hX hbl h2 hl ht hL 4 0 rfl rfl 2 (by decide) dL_law_1646 dL_law_1647 dL_law_1649 dL_law_1650 dL_law_1651 ?_
    refine lv_if_eq (tgt := 1659) hx hb dL_law_1652 (by decide) (fun _ => ?_) (fun h => absurd z h)
    refine lv_iconst (v := Int32.ofInt 0) hx hb dL_law_1659 rfl ?_
    refine tw_sys2 (Y1 := wd1) (Y2 := wd2) (as := [jm_i (xs (7 * t + 1)).toInt, jm_i 0]) (rest := []) F h2 (ct_X12_lost N (xs (7 * t + 1)).toInt 0 (jm_tin _) (jm_inL (by decide) (by decide))) e2 iv.1.1.1.2.1.rm2 (tw_gl kw_1756 rfl) km_X12_lost kv_X12_lost rfl rfl ⟨(Nat.le_of_ble_eq_true rfl), (Nat.le_of_ble_eq_true rfl)⟩ jv2_0 ko2_0 rfl rfl hl.1 rfl (Nat.le_of_ble_eq_true rfl) dL_law_1660 (Nat.le_of_succ_le hc) (Nat.le_trans (Nat.le_add_right _ _) hs) (fun H locs h2 => ?_)
    refine lv_pop hx hb dL_law_1663 rfl ?_
    refine lv_goto (tgt := 1891) hx hb dL_law_1664 (by decide) ?_
    exact hk M1 N1 _ _ _ cells slots iv1 h2 (lv_sub hl [0, 1, 2, 3, 4] rfl) (Nat.le_succ _) (Nat.le_add_right _ _)
  · skip
    refine lv_iconst (v := Int32.ofInt 1) hx hb dL_law_1630 rfl ?_
    refine lv_goto (tgt := 1635) hx hb dL_law_1631 (by decide) ?_
    obtain ⟨r, M1, u, N1, e1, e2, iv1, same⟩ := ww_lost M N iv (xs (7 * t + 1)).toInt 1 (jm_tin _) (by decide)
    refine tw_sys1 (Y1 := wd1) (Y2 := wd2) (as := [jm_i (xs (7 * t + 1)).toInt, jm_i 1]) (rest := []) F h2 (ct_X11_lost M (xs (7 * t + 1)).toInt 1 (jm_tin _) (jm_inL (by decide) (by decide))) e1 iv.1.1.1.1.rm (tw_gl kw_1215 rfl) km_X11_lost kv_X11_lost rfl rfl ⟨(Nat.le_of_ble_eq_true rfl), (Nat.le_of_ble_eq_true rfl)⟩ jv1_0 ko1_0 rfl rfl hl.1 rfl (Nat.le_of_ble_eq_true rfl) dL_law_1635 (Nat.le_of_succ_le hc) (Nat.le_trans (Nat.le_add_right _ _) hs) (fun H locs h2 => ?_)
    refine lv_pop hx hb dL_law_1638 rfl ?_
    refine lv_aload_n hx hb dL_law_1639 rfl (lv_at hl 2 rfl) ?_
    refine law_arg F hX hbl h2 hl ht hL 4 0 rfl rfl 1 (by decide) dL_law_1640 dL_law_1641 dL_law_1643 dL_law_1644 dL_law_1645 ?_
    refine law_arg F hX hbl h2 hl ht hL 4 0 rfl rfl 2 (by decide) dL_law_1646 dL_law_1647 dL_law_1649 dL_law_1650 dL_law_1651 ?_
    refine lv_if_eq (tgt := 1659) hx hb dL_law_1652 (by decide) (fun h => absurd h z) (fun _ => ?_)
    refine lv_iconst (v := Int32.ofInt 1) hx hb dL_law_1655 rfl ?_
    refine lv_goto (tgt := 1660) hx hb dL_law_1656 (by decide) ?_
    refine tw_sys2 (Y1 := wd1) (Y2 := wd2) (as := [jm_i (xs (7 * t + 1)).toInt, jm_i 1]) (rest := []) F h2 (ct_X12_lost N (xs (7 * t + 1)).toInt 1 (jm_tin _) (jm_inL (by decide) (by decide))) e2 iv.1.1.1.2.1.rm2 (tw_gl kw_1756 rfl) km_X12_lost kv_X12_lost rfl rfl ⟨(Nat.le_of_ble_eq_true rfl), (Nat.le_of_ble_eq_true rfl)⟩ jv2_0 ko2_0 rfl rfl hl.1 rfl (Nat.le_of_ble_eq_true rfl) dL_law_1660 (Nat.le_of_succ_le hc) (Nat.le_trans (Nat.le_add_right _ _) hs) (fun H locs h2 => ?_)
    refine lv_pop hx hb dL_law_1663 rfl ?_
    refine lv_goto (tgt := 1891) hx hb dL_law_1664 (by decide) ?_
    exact hk M1 N1 _ _ _ cells slots iv1 h2 (lv_sub hl [0, 1, 2, 3, 4] rfl) (Nat.le_succ _) (Nat.le_add_right _ _)
set_option maxHeartbeats 4000000 in
set_option maxRecDepth 100000 in
theorem law_case_35 {p : Program} {l : Launch} {e : Env} {s : State} {m : MethodId} {below : List Frame} {meth : Method} {c : Code} {G : tw_G} {b L t : Nat} {xs : Nat → Int32} (hst : l.stackTraces = false) (F : tw_F p m c code 7 s #[Value.ref b] RL G (fun q => s.heap.size ≤ q)) (hX : va_X b L xs s s.heap) (hbl : b < s.heap.size) (ht : 7 * t + 7 ≤ L) (hL : L ≤ 3584) {ad1 ad2 : Nat → Nat} {M N : jm_M} (iv : IY M N) {H : Heap} {locs : List Loc} {cells slots : Nat} {ls : Array Slot} (h2 : tw_2 G 245 ad1 (jm_c wd1 G ad1 M) 80 ad2 (jm_c wd2 G ad2 N) (fun q => s.heap.size ≤ q) s H locs) (hl : lv_has ls 7 (law_lv b (ad1 0) (ad2 0) (ad1 244) t)) (hc : cells + 1 ≤ 601024) (hs : slots + 6 ≤ 7293034) (hk : law_K p l e s m below meth c G b t ad1 ad2 cells slots) : W p l e room_1 s m #[Value.ref b] below meth c H locs cells slots (lw_Z below #[Value.ref b] s) (F0 m 1667 ls []) := by
  have hx := F.1.1
  have hb := F.1.2.1
  refine lv_aload_n hx hb dL_law_1667 rfl (lv_at hl 3 rfl) ?_
  refine law_arg F hX hbl h2 hl ht hL 4 0 rfl rfl 1 (by decide) dL_law_1668 dL_law_1669 dL_law_1671 dL_law_1672 dL_law_1673 ?_
  refine law_arg F hX hbl h2 hl ht hL 4 0 rfl rfl 2 (by decide) dL_law_1674 dL_law_1675 dL_law_1677 dL_law_1678 dL_law_1679 ?_
  refine law_arg F hX hbl h2 hl ht hL 4 0 rfl rfl 3 (by decide) dL_law_1680 dL_law_1681 dL_law_1683 dL_law_1684 dL_law_1685 ?_
  refine law_arg F hX hbl h2 hl ht hL 4 0 rfl rfl 4 (by decide) dL_law_1686 dL_law_1687 dL_law_1689 dL_law_1690 dL_law_1691 ?_
  obtain ⟨r, M1, u, N1, e1, e2, iv1, same⟩ := ww_known 4000 (by decide) M N iv (xs (7 * t + 1)).toInt (xs (7 * t + 2)).toInt (xs (7 * t + 3)).toInt (xs (7 * t + 4)).toInt (jm_tin _) (jm_tin _) (jm_tin _) (jm_tin _)
  refine tw_sys1 (Y1 := wd1) (Y2 := wd2) (as := [jm_i (xs (7 * t + 1)).toInt, jm_i (xs (7 * t + 2)).toInt, jm_i (xs (7 * t + 3)).toInt, jm_i (xs (7 * t + 4)).toInt]) (rest := []) F h2 (ct_X11_known 4000 M (xs (7 * t + 1)).toInt (xs (7 * t + 2)).toInt (xs (7 * t + 3)).toInt (xs (7 * t + 4)).toInt (jm_tin _) (jm_tin _) (jm_tin _) (jm_tin _)) e1 iv.1.1.1.1.rm (tw_gl kw_1219 rfl) km_X11_known kv_X11_known rfl rfl ⟨(Nat.le_of_ble_eq_true rfl), (Nat.le_of_ble_eq_true rfl)⟩ jv1_0 ko1_0 rfl rfl hl.1 rfl (Nat.le_of_ble_eq_true rfl) dL_law_1692 (Nat.le_of_succ_le hc) (Nat.le_trans (Nat.le_add_right _ _) hs) (fun H locs h2 => ?_)
  refine lv_pop hx hb dL_law_1695 rfl ?_
  refine lv_aload_n hx hb dL_law_1696 rfl (lv_at hl 2 rfl) ?_
  refine law_arg F hX hbl h2 hl ht hL 4 0 rfl rfl 1 (by decide) dL_law_1697 dL_law_1698 dL_law_1700 dL_law_1701 dL_law_1702 ?_
  refine law_arg F hX hbl h2 hl ht hL 4 0 rfl rfl 2 (by decide) dL_law_1703 dL_law_1704 dL_law_1706 dL_law_1707 dL_law_1708 ?_
  refine law_arg F hX hbl h2 hl ht hL 4 0 rfl rfl 3 (by decide) dL_law_1709 dL_law_1710 dL_law_1712 dL_law_1713 dL_law_1714 ?_
  refine law_arg F hX hbl h2 hl ht hL 4 0 rfl rfl 4 (by decide) dL_law_1715 dL_law_1716 dL_law_1718 dL_law_1719 dL_law_1720 ?_
  refine tw_sys2 (Y1 := wd1) (Y2 := wd2) (as := [jm_i (xs (7 * t + 1)).toInt, jm_i (xs (7 * t + 2)).toInt, jm_i (xs (7 * t + 3)).toInt, jm_i (xs (7 * t + 4)).toInt]) (rest := []) F h2 (ct_X12_known 4000 N (xs (7 * t + 1)).toInt (xs (7 * t + 2)).toInt (xs (7 * t + 3)).toInt (xs (7 * t + 4)).toInt (jm_tin _) (jm_tin _) (jm_tin _) (jm_tin _)) e2 iv.1.1.1.2.1.rm2 (tw_gl kw_1760 rfl) km_X12_known kv_X12_known rfl rfl ⟨(Nat.le_of_ble_eq_true rfl), (Nat.le_of_ble_eq_true rfl)⟩ jv2_0 ko2_0 rfl rfl hl.1 rfl (Nat.le_of_ble_eq_true rfl) dL_law_1721 (Nat.le_of_succ_le hc) (Nat.le_trans (Nat.le_add_right _ _) hs) (fun H locs h2 => ?_)
  refine lv_pop hx hb dL_law_1724 rfl ?_
  refine lv_goto (tgt := 1891) hx hb dL_law_1725 (by decide) ?_
  exact hk M1 N1 _ _ _ cells slots iv1 h2 (lv_sub hl [0, 1, 2, 3, 4] rfl) (Nat.le_succ _) (Nat.le_add_right _ _)
set_option maxHeartbeats 4000000 in
set_option maxRecDepth 100000 in
theorem law_case_36 {p : Program} {l : Launch} {e : Env} {s : State} {m : MethodId} {below : List Frame} {meth : Method} {c : Code} {G : tw_G} {b L t : Nat} {xs : Nat → Int32} (hst : l.stackTraces = false) (F : tw_F p m c code 7 s #[Value.ref b] RL G (fun q => s.heap.size ≤ q)) (hX : va_X b L xs s s.heap) (hbl : b < s.heap.size) (ht : 7 * t + 7 ≤ L) (hL : L ≤ 3584) {ad1 ad2 : Nat → Nat} {M N : jm_M} (iv : IY M N) {H : Heap} {locs : List Loc} {cells slots : Nat} {ls : Array Slot} (h2 : tw_2 G 245 ad1 (jm_c wd1 G ad1 M) 80 ad2 (jm_c wd2 G ad2 N) (fun q => s.heap.size ≤ q) s H locs) (hl : lv_has ls 7 (law_lv b (ad1 0) (ad2 0) (ad1 244) t)) (hc : cells + 1 ≤ 601024) (hs : slots + 6 ≤ 7293034) (hk : law_K p l e s m below meth c G b t ad1 ad2 cells slots) : W p l e room_1 s m #[Value.ref b] below meth c H locs cells slots (lw_Z below #[Value.ref b] s) (F0 m 1728 ls []) := by
  have hx := F.1.1
  have hb := F.1.2.1
  refine lv_aload_n hx hb dL_law_1728 rfl (lv_at hl 3 rfl) ?_
  refine law_arg F hX hbl h2 hl ht hL 4 0 rfl rfl 1 (by decide) dL_law_1729 dL_law_1730 dL_law_1732 dL_law_1733 dL_law_1734 ?_
  refine law_arg F hX hbl h2 hl ht hL 4 0 rfl rfl 2 (by decide) dL_law_1735 dL_law_1736 dL_law_1738 dL_law_1739 dL_law_1740 ?_
  refine law_arg F hX hbl h2 hl ht hL 4 0 rfl rfl 3 (by decide) dL_law_1741 dL_law_1742 dL_law_1744 dL_law_1745 dL_law_1746 ?_
  refine law_arg F hX hbl h2 hl ht hL 4 0 rfl rfl 4 (by decide) dL_law_1747 dL_law_1748 dL_law_1750 dL_law_1751 dL_law_1752 ?_
  obtain ⟨r, M1, u, N1, e1, e2, iv1, same⟩ := ww_ahead 4000 (by decide) M N iv (xs (7 * t + 1)).toInt (xs (7 * t + 2)).toInt (xs (7 * t + 3)).toInt (xs (7 * t + 4)).toInt (jm_tin _) (jm_tin _) (jm_tin _) (jm_tin _)
  refine tw_sys1 (Y1 := wd1) (Y2 := wd2) (as := [jm_i (xs (7 * t + 1)).toInt, jm_i (xs (7 * t + 2)).toInt, jm_i (xs (7 * t + 3)).toInt, jm_i (xs (7 * t + 4)).toInt]) (rest := []) F h2 (ct_X11_ahead 4000 M (xs (7 * t + 1)).toInt (xs (7 * t + 2)).toInt (xs (7 * t + 3)).toInt (xs (7 * t + 4)).toInt (jm_tin _) (jm_tin _) (jm_tin _) (jm_tin _)) e1 iv.1.1.1.1.rm (tw_gl kw_1232 rfl) km_X11_ahead kv_X11_ahead rfl rfl ⟨(Nat.le_of_ble_eq_true rfl), (Nat.le_of_ble_eq_true rfl)⟩ jv1_0 ko1_0 rfl rfl hl.1 rfl (Nat.le_of_ble_eq_true rfl) dL_law_1753 (Nat.le_of_succ_le hc) (Nat.le_trans (Nat.le_add_right _ _) hs) (fun H locs h2 => ?_)
  refine lv_pop hx hb dL_law_1756 rfl ?_
  refine lv_aload_n hx hb dL_law_1757 rfl (lv_at hl 2 rfl) ?_
  refine law_arg F hX hbl h2 hl ht hL 4 0 rfl rfl 1 (by decide) dL_law_1758 dL_law_1759 dL_law_1761 dL_law_1762 dL_law_1763 ?_
  refine law_arg F hX hbl h2 hl ht hL 4 0 rfl rfl 2 (by decide) dL_law_1764 dL_law_1765 dL_law_1767 dL_law_1768 dL_law_1769 ?_
  refine law_arg F hX hbl h2 hl ht hL 4 0 rfl rfl 3 (by decide) dL_law_1770 dL_law_1771 dL_law_1773 dL_law_1774 dL_law_1775 ?_
  refine law_arg F hX hbl h2 hl ht hL 4 0 rfl rfl 4 (by decide) dL_law_1776 dL_law_1777 dL_law_1779 dL_law_1780 dL_law_1781 ?_
  refine tw_sys2 (Y1 := wd1) (Y2 := wd2) (as := [jm_i (xs (7 * t + 1)).toInt, jm_i (xs (7 * t + 2)).toInt, jm_i (xs (7 * t + 3)).toInt, jm_i (xs (7 * t + 4)).toInt]) (rest := []) F h2 (ct_X12_ahead 4000 N (xs (7 * t + 1)).toInt (xs (7 * t + 2)).toInt (xs (7 * t + 3)).toInt (xs (7 * t + 4)).toInt (jm_tin _) (jm_tin _) (jm_tin _) (jm_tin _)) e2 iv.1.1.1.2.1.rm2 (tw_gl kw_1768 rfl) km_X12_ahead kv_X12_ahead rfl rfl ⟨(Nat.le_of_ble_eq_true rfl), (Nat.le_of_ble_eq_true rfl)⟩ jv2_0 ko2_0 rfl rfl hl.1 rfl (Nat.le_of_ble_eq_true rfl) dL_law_1782 (Nat.le_of_succ_le hc) (Nat.le_trans (Nat.le_add_right _ _) hs) (fun H locs h2 => ?_)
  refine lv_pop hx hb dL_law_1785 rfl ?_
  refine lv_goto (tgt := 1891) hx hb dL_law_1786 (by decide) ?_
  exact hk M1 N1 _ _ _ cells slots iv1 h2 (lv_sub hl [0, 1, 2, 3, 4] rfl) (Nat.le_succ _) (Nat.le_add_right _ _)
set_option maxHeartbeats 4000000 in
set_option maxRecDepth 100000 in
theorem law_case_37 {p : Program} {l : Launch} {e : Env} {s : State} {m : MethodId} {below : List Frame} {meth : Method} {c : Code} {G : tw_G} {b L t : Nat} {xs : Nat → Int32} (hst : l.stackTraces = false) (F : tw_F p m c code 7 s #[Value.ref b] RL G (fun q => s.heap.size ≤ q)) (hX : va_X b L xs s s.heap) (hbl : b < s.heap.size) (ht : 7 * t + 7 ≤ L) (hL : L ≤ 3584) {ad1 ad2 : Nat → Nat} {M N : jm_M} (iv : IY M N) {H : Heap} {locs : List Loc} {cells slots : Nat} {ls : Array Slot} (h2 : tw_2 G 245 ad1 (jm_c wd1 G ad1 M) 80 ad2 (jm_c wd2 G ad2 N) (fun q => s.heap.size ≤ q) s H locs) (hl : lv_has ls 7 (law_lv b (ad1 0) (ad2 0) (ad1 244) t)) (hc : cells + 1 ≤ 601024) (hs : slots + 6 ≤ 7293034) (hk : law_K p l e s m below meth c G b t ad1 ad2 cells slots) : W p l e room_1 s m #[Value.ref b] below meth c H locs cells slots (lw_Z below #[Value.ref b] s) (F0 m 1789 ls []) := by
  have hx := F.1.1
  have hb := F.1.2.1
  refine lv_aload_n hx hb dL_law_1789 rfl (lv_at hl 3 rfl) ?_
  refine law_arg F hX hbl h2 hl ht hL 4 0 rfl rfl 1 (by decide) dL_law_1790 dL_law_1791 dL_law_1793 dL_law_1794 dL_law_1795 ?_
  refine law_arg F hX hbl h2 hl ht hL 4 0 rfl rfl 2 (by decide) dL_law_1796 dL_law_1797 dL_law_1799 dL_law_1800 dL_law_1801 ?_
  obtain ⟨r, M1, u, N1, e1, e2, iv1, same⟩ := ww_wall 4000 (by decide) M N iv (xs (7 * t + 1)).toInt (xs (7 * t + 2)).toInt (jm_tin _) (jm_tin _)
  refine tw_sys1 (Y1 := wd1) (Y2 := wd2) (as := [jm_i (xs (7 * t + 1)).toInt, jm_i (xs (7 * t + 2)).toInt]) (rest := []) F h2 (ct_X11_wall 4000 M (xs (7 * t + 1)).toInt (xs (7 * t + 2)).toInt (jm_tin _) (jm_tin _)) e1 iv.1.1.1.1.rm (tw_gl kw_1236 rfl) km_X11_wall kv_X11_wall rfl rfl ⟨(Nat.le_of_ble_eq_true rfl), (Nat.le_of_ble_eq_true rfl)⟩ jv1_0 ko1_0 rfl rfl hl.1 rfl (Nat.le_of_ble_eq_true rfl) dL_law_1802 (Nat.le_of_succ_le hc) (Nat.le_trans (Nat.le_add_right _ _) hs) (fun H locs h2 => ?_)
  refine lv_pop hx hb dL_law_1805 rfl ?_
  refine lv_aload_n hx hb dL_law_1806 rfl (lv_at hl 2 rfl) ?_
  refine law_arg F hX hbl h2 hl ht hL 4 0 rfl rfl 1 (by decide) dL_law_1807 dL_law_1808 dL_law_1810 dL_law_1811 dL_law_1812 ?_
  refine law_arg F hX hbl h2 hl ht hL 4 0 rfl rfl 2 (by decide) dL_law_1813 dL_law_1814 dL_law_1816 dL_law_1817 dL_law_1818 ?_
  refine tw_sys2 (Y1 := wd1) (Y2 := wd2) (as := [jm_i (xs (7 * t + 1)).toInt, jm_i (xs (7 * t + 2)).toInt]) (rest := []) F h2 (ct_X12_wall 4000 N (xs (7 * t + 1)).toInt (xs (7 * t + 2)).toInt (jm_tin _) (jm_tin _)) e2 iv.1.1.1.2.1.rm2 (tw_gl kw_1772 rfl) km_X12_wall kv_X12_wall rfl rfl ⟨(Nat.le_of_ble_eq_true rfl), (Nat.le_of_ble_eq_true rfl)⟩ jv2_0 ko2_0 rfl rfl hl.1 rfl (Nat.le_of_ble_eq_true rfl) dL_law_1819 (Nat.le_of_succ_le hc) (Nat.le_trans (Nat.le_add_right _ _) hs) (fun H locs h2 => ?_)
  refine lv_pop hx hb dL_law_1822 rfl ?_
  refine lv_goto (tgt := 1891) hx hb dL_law_1823 (by decide) ?_
  exact hk M1 N1 _ _ _ cells slots iv1 h2 (lv_sub hl [0, 1, 2, 3, 4] rfl) (Nat.le_succ _) (Nat.le_add_right _ _)
set_option maxHeartbeats 4000000 in
set_option maxRecDepth 100000 in
theorem law_case_38 {p : Program} {l : Launch} {e : Env} {s : State} {m : MethodId} {below : List Frame} {meth : Method} {c : Code} {G : tw_G} {b L t : Nat} {xs : Nat → Int32} (hst : l.stackTraces = false) (F : tw_F p m c code 7 s #[Value.ref b] RL G (fun q => s.heap.size ≤ q)) (hX : va_X b L xs s s.heap) (hbl : b < s.heap.size) (ht : 7 * t + 7 ≤ L) (hL : L ≤ 3584) {ad1 ad2 : Nat → Nat} {M N : jm_M} (iv : IY M N) {H : Heap} {locs : List Loc} {cells slots : Nat} {ls : Array Slot} (h2 : tw_2 G 245 ad1 (jm_c wd1 G ad1 M) 80 ad2 (jm_c wd2 G ad2 N) (fun q => s.heap.size ≤ q) s H locs) (hl : lv_has ls 7 (law_lv b (ad1 0) (ad2 0) (ad1 244) t)) (hc : cells + 1 ≤ 601024) (hs : slots + 6 ≤ 7293034) (hk : law_K p l e s m below meth c G b t ad1 ad2 cells slots) : W p l e room_1 s m #[Value.ref b] below meth c H locs cells slots (lw_Z below #[Value.ref b] s) (F0 m 1826 ls []) := by
  have hx := F.1.1
  have hb := F.1.2.1
  refine lv_aload_n hx hb dL_law_1826 rfl (lv_at hl 3 rfl) ?_
  refine law_arg F hX hbl h2 hl ht hL 4 0 rfl rfl 1 (by decide) dL_law_1827 dL_law_1828 dL_law_1830 dL_law_1831 dL_law_1832 ?_
  refine law_arg F hX hbl h2 hl ht hL 4 0 rfl rfl 2 (by decide) dL_law_1833 dL_law_1834 dL_law_1836 dL_law_1837 dL_law_1838 ?_
  obtain ⟨r, M1, u, N1, e1, e2, iv1, same⟩ := ww_why 4000 (by decide) M N iv (xs (7 * t + 1)).toInt (xs (7 * t + 2)).toInt (jm_tin _) (jm_tin _)
  refine tw_sys1 (Y1 := wd1) (Y2 := wd2) (as := [jm_i (xs (7 * t + 1)).toInt, jm_i (xs (7 * t + 2)).toInt]) (rest := []) F h2 (ct_X11_why 4000 M (xs (7 * t + 1)).toInt (xs (7 * t + 2)).toInt (jm_tin _) (jm_tin _)) e1 iv.1.1.1.1.rm (tw_gl kw_1248 rfl) km_X11_why kv_X11_why rfl rfl ⟨(Nat.le_of_ble_eq_true rfl), (Nat.le_of_ble_eq_true rfl)⟩ jv1_0 ko1_0 rfl rfl hl.1 rfl (Nat.le_of_ble_eq_true rfl) dL_law_1839 (Nat.le_of_succ_le hc) (Nat.le_trans (Nat.le_add_right _ _) hs) (fun H locs h2 => ?_)
  refine lv_pop hx hb dL_law_1842 rfl ?_
  refine lv_aload_n hx hb dL_law_1843 rfl (lv_at hl 2 rfl) ?_
  refine law_arg F hX hbl h2 hl ht hL 4 0 rfl rfl 1 (by decide) dL_law_1844 dL_law_1845 dL_law_1847 dL_law_1848 dL_law_1849 ?_
  refine law_arg F hX hbl h2 hl ht hL 4 0 rfl rfl 2 (by decide) dL_law_1850 dL_law_1851 dL_law_1853 dL_law_1854 dL_law_1855 ?_
  refine tw_sys2 (Y1 := wd1) (Y2 := wd2) (as := [jm_i (xs (7 * t + 1)).toInt, jm_i (xs (7 * t + 2)).toInt]) (rest := []) F h2 (ct_X12_why 4000 N (xs (7 * t + 1)).toInt (xs (7 * t + 2)).toInt (jm_tin _) (jm_tin _)) e2 iv.1.1.1.2.1.rm2 (tw_gl kw_1780 rfl) km_X12_why kv_X12_why rfl rfl ⟨(Nat.le_of_ble_eq_true rfl), (Nat.le_of_ble_eq_true rfl)⟩ jv2_0 ko2_0 rfl rfl hl.1 rfl (Nat.le_of_ble_eq_true rfl) dL_law_1856 (Nat.le_of_succ_le hc) (Nat.le_trans (Nat.le_add_right _ _) hs) (fun H locs h2 => ?_)
  refine lv_pop hx hb dL_law_1859 rfl ?_
  refine lv_goto (tgt := 1891) hx hb dL_law_1860 (by decide) ?_
  exact hk M1 N1 _ _ _ cells slots iv1 h2 (lv_sub hl [0, 1, 2, 3, 4] rfl) (Nat.le_succ _) (Nat.le_add_right _ _)
set_option maxHeartbeats 4000000 in
set_option maxRecDepth 100000 in
theorem law_case_39 {p : Program} {l : Launch} {e : Env} {s : State} {m : MethodId} {below : List Frame} {meth : Method} {c : Code} {G : tw_G} {b L t : Nat} {xs : Nat → Int32} (hst : l.stackTraces = false) (F : tw_F p m c code 7 s #[Value.ref b] RL G (fun q => s.heap.size ≤ q)) (hX : va_X b L xs s s.heap) (hbl : b < s.heap.size) (ht : 7 * t + 7 ≤ L) (hL : L ≤ 3584) {ad1 ad2 : Nat → Nat} {M N : jm_M} (iv : IY M N) {H : Heap} {locs : List Loc} {cells slots : Nat} {ls : Array Slot} (h2 : tw_2 G 245 ad1 (jm_c wd1 G ad1 M) 80 ad2 (jm_c wd2 G ad2 N) (fun q => s.heap.size ≤ q) s H locs) (hl : lv_has ls 7 (law_lv b (ad1 0) (ad2 0) (ad1 244) t)) (hc : cells + 1 ≤ 601024) (hs : slots + 6 ≤ 7293034) (hk : law_K p l e s m below meth c G b t ad1 ad2 cells slots) : W p l e room_1 s m #[Value.ref b] below meth c H locs cells slots (lw_Z below #[Value.ref b] s) (F0 m 1863 ls []) := by
  have hx := F.1.1
  have hb := F.1.2.1
  refine lv_aload_n hx hb dL_law_1863 rfl (lv_at hl 3 rfl) ?_
  refine law_arg F hX hbl h2 hl ht hL 4 0 rfl rfl 1 (by decide) dL_law_1864 dL_law_1865 dL_law_1867 dL_law_1868 dL_law_1869 ?_
  refine lv_aload_n hx hb dL_law_1870 rfl (lv_at hl 1 rfl) ?_
  obtain ⟨r, M1, u, N1, e1, e2, iv1, same⟩ := ww_row M N iv (xs (7 * t + 1)).toInt (jm_tin _)
  refine tw_calli_1 F h2 (tw_runSW (n := 3) (hh := [(0, 9, 12, 13)]) (As := [.ref (ad1 0), jm_i (xs (7 * t + 1)).toInt, .ref (ad1 244)]) (rest := []) F h2.1 (c_L_row l G hst ad1 H.size M (xs (7 * t + 1)).toInt (jm_tin _) e1 iv.1.1.1.1.rm) (tw_gl kw_1334 rfl) (tw_gl kw_1335 rfl) (tw_gl kw_0 rfl) tw_g_row (by decide) rfl rfl ⟨(Nat.le_of_ble_eq_true rfl), (Nat.le_of_ble_eq_true rfl)⟩ rfl hl.1 rfl (Nat.le_of_ble_eq_true rfl) dL_law_1871 ⟨hc, hs⟩) (fun rL wL H locs hp h2 => ?_)
  obtain ⟨hrin, rfl⟩ := hp
  have ivx : IY (if r = 4294967296 then M1 else jm_u M1 49 0 0 r) N1 := by
    by_cases hr : r = 4294967296
    · rw [if_pos hr]; exact iv1
    · rw [if_neg hr]; exact iv1.out (hrin hr)
  refine lv_istore (lv' := [(5, .int rL), (4, .int (Int32.ofNat (7 * t))), (3, .ref (ad1 244)), (2, .ref (ad2 0)), (1, .ref (ad1 0)), (0, .ref b)]) hx hb dL_law_1874 hl (by decide) rfl (fun ls hl => ?_)
  refine lv_aload_n hx hb dL_law_1876 rfl (lv_at hl 3 rfl) ?_
  refine law_arg F hX hbl h2 hl ht hL 5 1 rfl rfl 1 (by decide) dL_law_1877 dL_law_1878 dL_law_1880 dL_law_1881 dL_law_1882 ?_
  refine tw_sys2 (Y1 := wd1) (Y2 := wd2) (as := [jm_i (xs (7 * t + 1)).toInt]) (rest := []) F h2 (ct_X12_row N (xs (7 * t + 1)).toInt (jm_tin _)) e2 iv.1.1.1.2.1.rm2 (tw_gl kw_2082 rfl) km_X12_row kv_X12_row rfl rfl ⟨(Nat.le_of_ble_eq_true rfl), (Nat.le_of_ble_eq_true rfl)⟩ jv2_0 ko2_0 rfl rfl hl.1 rfl (Nat.le_of_ble_eq_true rfl) dL_law_1883 hc hs (fun H locs h2 => ?_)
  refine lv_istore (lv' := [(6, jm_i u), (5, .int rL), (4, .int (Int32.ofNat (7 * t))), (3, .ref (ad1 244)), (2, .ref (ad2 0)), (1, .ref (ad1 0)), (0, .ref b)]) hx hb dL_law_1886 hl (by decide) rfl (fun ls hl => ?_)
  refine lv_goto (tgt := 1891) hx hb dL_law_1888 (by decide) ?_
  exact hk (if r = 4294967296 then M1 else jm_u M1 49 0 0 r) N1 _ _ _ (cells + 1) (slots + 6) ivx h2 (lv_sub hl [2, 3, 4, 5, 6] rfl) (Nat.le_refl _) (Nat.le_refl _)
