set_option maxHeartbeats 4000000 in
set_option maxRecDepth 100000 in
theorem law_case_0 {p : Program} {l : Launch} {e : Env} {s : State} {m : MethodId} {below : List Frame} {meth : Method} {c : Code} {G : tw_G} {b : Nat} {xs : Nat → Int32} (hst : l.stackTraces = false) (F : tw_F p m c code 7 s #[Value.ref b] RL G (fun q => s.heap.size ≤ q)) (hr : meth.sig.returnType = ret) (hlk : meth.locks = false) (hX : va_X b 7 xs s s.heap) (hbl : b < s.heap.size) {ad1 ad2 : Nat → Nat} {w1 w2 : Nat → va_E} {ao : Nat} (k1_0 : w1 0 = .inr (11, [.ref (ad1 4), .ref (ad1 14), .ref (ad1 156), .ref (ad1 221), .ref (ad1 225), .ref (ad1 233), .ref (ad1 236), .int (0 : Int32), .ref (ad1 237), .int (0 : Int32), .ref (ad1 238)])) (k1_4 : w1 4 = .inr (9, [.int (2 : Int32), .int (1 : Int32), .ref (ad1 5), .ref (ad1 6), .ref (ad1 7), .ref (ad1 8), .ref (ad1 9), .ref (ad1 10), .ref (ad1 12)])) (k1_5 : w1 5 = .inl (G.2.1 0, 5, .inl (upd (upd (upd (upd (upd (fun _ => 0) 0 (20000 : Int32)) 1 (20000 : Int32)) 2 (20000 : Int32)) 3 (20000 : Int32)) 4 (20000 : Int32)))) (k1_6 : w1 6 = .inl (G.2.1 0, 5, .inl (upd (upd (upd (upd (upd (fun _ => 0) 0 (300 : Int32)) 1 (300 : Int32)) 2 (300 : Int32)) 3 (300 : Int32)) 4 (300 : Int32)))) (k1_7 : w1 7 = .inl (G.2.1 1, 5, .inl (upd (upd (upd (upd (upd (fun _ => 0) 0 (0 : Int32)) 1 (0 : Int32)) 2 (0 : Int32)) 3 (0 : Int32)) 4 (0 : Int32)))) (k1_10 : w1 10 = .inr (7, [.int (30 : Int32), .int (3 : Int32), .ref (ad1 11), .int (0 : Int32)])) (k1_12 : w1 12 = .inr (7, [.int (20 : Int32), .int (4 : Int32), .ref (ad1 13), .int (0 : Int32)])) (k1_14 : w1 14 = .inr (2, [.ref (ad1 4), .ref (ad1 1), .ref (ad1 15), .ref (ad1 16), .ref (ad1 17), .int (0 : Int32), .int (0 : Int32), .int (0 : Int32)])) (k1_156 : w1 156 = .inr (0, [.ref (ad1 1), .ref (ad1 157), .ref (ad1 158), .int (0 : Int32), .ref (ad1 159)])) (k1_159 : w1 159 = .inr (7, [.int (20 : Int32), .int (4 : Int32), .ref (ad1 160), .int (0 : Int32)])) (k2_0 : w2 0 = .inr (12, [.int (0 : Int32), .int (2 : Int32), .int (1 : Int32), .ref (ad2 1), .ref (ad2 2), .ref (ad2 3), .ref (ad2 4), .ref (ad2 5), .int (0 : Int32), .ref (ad2 6), .ref (ad2 7), .ref (ad2 8), .int (0 : Int32), .ref (ad2 9), .ref (ad2 10), .ref (ad2 11), .ref (ad2 12), .int (0 : Int32), .ref (ad2 13), .ref (ad2 14), .ref (ad2 15), .ref (ad2 16), .ref (ad2 17), .ref (ad2 18), .ref (ad2 19), .ref (ad2 20), .ref (ad2 21), .ref (ad2 22), .ref (ad2 23), .ref (ad2 24), .ref (ad2 25), .ref (ad2 26), .ref (ad2 27), .ref (ad2 28), .ref (ad2 29), .ref (ad2 30), .ref (ad2 31), .ref (ad2 32), .ref (ad2 33), .ref (ad2 34), .int (0 : Int32), .int (0 : Int32), .int (0 : Int32), .ref (G.2.2 (100 + 10)), .ref (ad2 35), .ref (ad2 36), .ref (ad2 37), .int (0 : Int32), .ref (ad2 38), .ref (ad2 39), .ref (ad2 40), .ref (ad2 41), .ref (ad2 42), .ref (ad2 43), .ref (ad2 44), .ref (ad2 45), .ref (ad2 46), .ref (ad2 47), .ref (ad2 48), .ref (ad2 49), .ref (ad2 50), .ref (ad2 51), .ref (ad2 52), .ref (ad2 53), .ref (ad2 54), .ref (ad2 55), .ref (ad2 56), .ref (ad2 57), .ref (ad2 58), .ref (ad2 59), .int (0 : Int32), .ref (ad2 60), .int (0 : Int32), .ref (ad2 61), .ref (ad2 62), .int (0 : Int32), .ref (ad2 63), .ref (ad2 64), .ref (ad2 65), .ref (ad2 66), .ref (ad2 67), .ref (ad2 68), .int (0 : Int32), .ref (ad2 69), .ref (ad2 70), .ref (ad2 71), .ref (ad2 72), .ref (ad2 73), .int (0 : Int32), .int (0 : Int32), .int (0 : Int32), .ref (ad2 74), .ref (ad2 75), .ref (ad2 76), .ref (ad2 77), .ref (ad2 78), .ref (ad2 79)])) (k2_1 : w2 1 = .inl (G.2.1 0, 5, .inl (upd (upd (upd (upd (upd (fun _ => 0) 0 (20000 : Int32)) 1 (20000 : Int32)) 2 (20000 : Int32)) 3 (20000 : Int32)) 4 (20000 : Int32)))) (k2_2 : w2 2 = .inl (G.2.1 0, 5, .inl (upd (upd (upd (upd (upd (fun _ => 0) 0 (300 : Int32)) 1 (300 : Int32)) 2 (300 : Int32)) 3 (300 : Int32)) 4 (300 : Int32)))) (k2_3 : w2 3 = .inl (G.2.1 1, 5, .inl (upd (upd (upd (upd (upd (fun _ => 0) 0 (0 : Int32)) 1 (0 : Int32)) 2 (0 : Int32)) 3 (0 : Int32)) 4 (0 : Int32)))) (k2_31 : w2 31 = .inl (G.2.1 0, 6, .inl (upd (upd (upd (upd (upd (upd (fun _ => 0) 0 (0 : Int32)) 1 (0 : Int32)) 2 (0 : Int32)) 3 (0 : Int32)) 4 (0 : Int32)) 5 (0 : Int32)))) {H : Heap} {locs : List Loc} (h2 : tw_2 G 244 ad1 w1 80 ad2 w2 (fun q => s.heap.size ≤ q) s H locs) {ls : Array Slot} (hl : lv_has ls 7 [(4, .int (0 : Int32)), (3, .ref ao), (2, .ref (ad2 0)), (1, .ref (ad1 0)), (0, .ref b)]) {cells slots : Nat} (h3 : cells ≤ 1000) (h4 : slots ≤ 20000) : W p l e room_1 s m #[Value.ref b] below meth c H locs cells slots (lw_Z below #[Value.ref b] s) (F0 m 216 ls []) := by
  refine W.widen (k := 1000) (n := 20000) h3 h4 ?_
  have hx := F.1.1
  have hb := F.1.2.1
  have hbA : ¬ (fun q : Nat => s.heap.size ≤ q) b := Nat.not_le.mpr hbl
  refine lv_aload_n hx hb dL_law_216 rfl (lv_at hl 3 rfl) ?_
  refine lv_aload_n hx hb dL_law_217 rfl (lv_at hl 4 rfl) ?_
  refine lv_iload hx hb dL_law_218 (lv_at hl 0 rfl) ?_
  refine lv_iconst (v := 1) hx hb dL_law_220 (by decide) ?_
  refine lv_iadd hx hb dL_law_221 ?_
  refine tw_cv (v := (1 : Int32)) (by decide) ?_
  refine va_sld hx hb hX hbl hbA h2.1.2.2 (tw_ix (j := 1) (by decide) (by decide)).1 dL_law_222 ?_
  refine tw_cv (v := xs 1) rfl ?_
  refine lv_aload_n hx hb dL_law_223 rfl (lv_at hl 4 rfl) ?_
  refine lv_iload hx hb dL_law_224 (lv_at hl 0 rfl) ?_
  refine lv_iconst (v := 2) hx hb dL_law_226 (by decide) ?_
  refine lv_iadd hx hb dL_law_227 ?_
  refine tw_cv (v := (2 : Int32)) (by decide) ?_
  refine va_sld hx hb hX hbl hbA h2.1.2.2 (tw_ix (j := 2) (by decide) (by decide)).1 dL_law_228 ?_
  refine tw_cv (v := xs 2) rfl ?_
  refine tw_calli_1 F h2 (tw_runV (r := 0) (As := [.int (xs 1), .int (xs 2)]) (rest := []) F h2.1 (c_X11_track l G ad1 w1 H.size (xs 1) ((xs 1).toInt) rfl (xs 2) ((xs 2).toInt) rfl k1_0 k1_4 k1_5 k1_6 k1_7 k1_10 k1_12 k1_14 k1_156 k1_159) (tw_gl kw_548 rfl) km_X11_track kv_X11_track rfl rfl ⟨(Nat.le_of_ble_eq_true rfl), (Nat.le_of_ble_eq_true rfl)⟩ (by decide) k1_0 rfl rfl hl.1 rfl (Nat.le_of_ble_eq_true rfl) dL_law_229 ⟨(Nat.le_of_ble_eq_true rfl), (Nat.le_of_ble_eq_true rfl)⟩) (fun r1 wv2 H locs hp3 h2 => ?_)
  rcases hp3 with ⟨rfl, hc4⟩ | ⟨rfl, hc5⟩
  · skip
    refine lv_aload_n hx hb dL_law_232 rfl (lv_at hl 2 rfl) ?_
    refine lv_aload_n hx hb dL_law_233 rfl (lv_at hl 4 rfl) ?_
    refine lv_iload hx hb dL_law_234 (lv_at hl 0 rfl) ?_
    refine lv_iconst (v := 1) hx hb dL_law_236 (by decide) ?_
    refine lv_iadd hx hb dL_law_237 ?_
    refine tw_cv (v := (1 : Int32)) (by decide) ?_
    refine va_sld hx hb hX hbl hbA h2.1.2.2 (tw_ix (j := 1) (by decide) (by decide)).1 dL_law_238 ?_
    refine tw_cv (v := xs 1) rfl ?_
    refine lv_aload_n hx hb dL_law_239 rfl (lv_at hl 4 rfl) ?_
    refine lv_iload hx hb dL_law_240 (lv_at hl 0 rfl) ?_
    refine lv_iconst (v := 2) hx hb dL_law_242 (by decide) ?_
    refine lv_iadd hx hb dL_law_243 ?_
    refine tw_cv (v := (2 : Int32)) (by decide) ?_
    refine va_sld hx hb hX hbl hbA h2.1.2.2 (tw_ix (j := 2) (by decide) (by decide)).1 dL_law_244 ?_
    refine tw_cv (v := xs 2) rfl ?_
    refine tw_calli_2 F h2 (tw_runV (r := 0) (As := [.int (xs 1), .int (xs 2)]) (rest := [.int (0 : Int32)]) F h2.2.1 (c_X12_track l G ad2 w2 H.size (xs 1) ((xs 1).toInt) rfl (xs 2) ((xs 2).toInt) rfl k2_0 k2_1 k2_2 k2_3 k2_31) (tw_gl kw_1345 rfl) km_X12_track kv_X12_track rfl rfl ⟨(Nat.le_of_ble_eq_true rfl), (Nat.le_of_ble_eq_true rfl)⟩ (by decide) k2_0 rfl rfl hl.1 rfl (Nat.le_of_ble_eq_true rfl) dL_law_245 ⟨(Nat.le_of_ble_eq_true rfl), (Nat.le_of_ble_eq_true rfl)⟩) (fun r6 wv7 H locs hp8 h2 => ?_)
    rcases hp8 with ⟨rfl, hc9⟩ | ⟨rfl, hc10⟩
    · skip
      refine lv_icmp_eq (tgt := 1975) hx hb dL_law_248 (by decide) (fun _ => ?_) (fun c => absurd c (by decide))
      exact law_tail F hr hlk hX hbl h2.1.2.2 (Nat.le_of_ble_eq_true rfl) (Nat.le_of_ble_eq_true rfl) (lv_sub hl [0, 1, 2, 3, 4] rfl)
    · exfalso; omega
  · skip
    refine lv_aload_n hx hb dL_law_232 rfl (lv_at hl 2 rfl) ?_
    refine lv_aload_n hx hb dL_law_233 rfl (lv_at hl 4 rfl) ?_
    refine lv_iload hx hb dL_law_234 (lv_at hl 0 rfl) ?_
    refine lv_iconst (v := 1) hx hb dL_law_236 (by decide) ?_
    refine lv_iadd hx hb dL_law_237 ?_
    refine tw_cv (v := (1 : Int32)) (by decide) ?_
    refine va_sld hx hb hX hbl hbA h2.1.2.2 (tw_ix (j := 1) (by decide) (by decide)).1 dL_law_238 ?_
    refine tw_cv (v := xs 1) rfl ?_
    refine lv_aload_n hx hb dL_law_239 rfl (lv_at hl 4 rfl) ?_
    refine lv_iload hx hb dL_law_240 (lv_at hl 0 rfl) ?_
    refine lv_iconst (v := 2) hx hb dL_law_242 (by decide) ?_
    refine lv_iadd hx hb dL_law_243 ?_
    refine tw_cv (v := (2 : Int32)) (by decide) ?_
    refine va_sld hx hb hX hbl hbA h2.1.2.2 (tw_ix (j := 2) (by decide) (by decide)).1 dL_law_244 ?_
    refine tw_cv (v := xs 2) rfl ?_
    refine tw_calli_2 F h2 (tw_runV (r := 0) (As := [.int (xs 1), .int (xs 2)]) (rest := [.int (1 : Int32)]) F h2.2.1 (c_X12_track l G ad2 w2 H.size (xs 1) ((xs 1).toInt) rfl (xs 2) ((xs 2).toInt) rfl k2_0 k2_1 k2_2 k2_3 k2_31) (tw_gl kw_1345 rfl) km_X12_track kv_X12_track rfl rfl ⟨(Nat.le_of_ble_eq_true rfl), (Nat.le_of_ble_eq_true rfl)⟩ (by decide) k2_0 rfl rfl hl.1 rfl (Nat.le_of_ble_eq_true rfl) dL_law_245 ⟨(Nat.le_of_ble_eq_true rfl), (Nat.le_of_ble_eq_true rfl)⟩) (fun r11 wv12 H locs hp13 h2 => ?_)
    rcases hp13 with ⟨rfl, hc14⟩ | ⟨rfl, hc15⟩
    · exfalso; omega
    · skip
      refine lv_icmp_eq (tgt := 1975) hx hb dL_law_248 (by decide) (fun _ => ?_) (fun c => absurd c (by decide))
      exact law_tail F hr hlk hX hbl h2.1.2.2 (Nat.le_of_ble_eq_true rfl) (Nat.le_of_ble_eq_true rfl) (lv_sub hl [0, 1, 2, 3, 4] rfl)
set_option maxHeartbeats 4000000 in
set_option maxRecDepth 100000 in
theorem law_case_1 {p : Program} {l : Launch} {e : Env} {s : State} {m : MethodId} {below : List Frame} {meth : Method} {c : Code} {G : tw_G} {b : Nat} {xs : Nat → Int32} (hst : l.stackTraces = false) (F : tw_F p m c code 7 s #[Value.ref b] RL G (fun q => s.heap.size ≤ q)) (hr : meth.sig.returnType = ret) (hlk : meth.locks = false) (hX : va_X b 7 xs s s.heap) (hbl : b < s.heap.size) {ad1 ad2 : Nat → Nat} {w1 w2 : Nat → va_E} {ao : Nat} (k1_0 : w1 0 = .inr (11, [.ref (ad1 4), .ref (ad1 14), .ref (ad1 156), .ref (ad1 221), .ref (ad1 225), .ref (ad1 233), .ref (ad1 236), .int (0 : Int32), .ref (ad1 237), .int (0 : Int32), .ref (ad1 238)])) (k1_4 : w1 4 = .inr (9, [.int (2 : Int32), .int (1 : Int32), .ref (ad1 5), .ref (ad1 6), .ref (ad1 7), .ref (ad1 8), .ref (ad1 9), .ref (ad1 10), .ref (ad1 12)])) (k1_5 : w1 5 = .inl (G.2.1 0, 5, .inl (upd (upd (upd (upd (upd (fun _ => 0) 0 (20000 : Int32)) 1 (20000 : Int32)) 2 (20000 : Int32)) 3 (20000 : Int32)) 4 (20000 : Int32)))) (k1_6 : w1 6 = .inl (G.2.1 0, 5, .inl (upd (upd (upd (upd (upd (fun _ => 0) 0 (300 : Int32)) 1 (300 : Int32)) 2 (300 : Int32)) 3 (300 : Int32)) 4 (300 : Int32)))) (k1_14 : w1 14 = .inr (2, [.ref (ad1 4), .ref (ad1 1), .ref (ad1 15), .ref (ad1 16), .ref (ad1 17), .int (0 : Int32), .int (0 : Int32), .int (0 : Int32)])) (k2_0 : w2 0 = .inr (12, [.int (0 : Int32), .int (2 : Int32), .int (1 : Int32), .ref (ad2 1), .ref (ad2 2), .ref (ad2 3), .ref (ad2 4), .ref (ad2 5), .int (0 : Int32), .ref (ad2 6), .ref (ad2 7), .ref (ad2 8), .int (0 : Int32), .ref (ad2 9), .ref (ad2 10), .ref (ad2 11), .ref (ad2 12), .int (0 : Int32), .ref (ad2 13), .ref (ad2 14), .ref (ad2 15), .ref (ad2 16), .ref (ad2 17), .ref (ad2 18), .ref (ad2 19), .ref (ad2 20), .ref (ad2 21), .ref (ad2 22), .ref (ad2 23), .ref (ad2 24), .ref (ad2 25), .ref (ad2 26), .ref (ad2 27), .ref (ad2 28), .ref (ad2 29), .ref (ad2 30), .ref (ad2 31), .ref (ad2 32), .ref (ad2 33), .ref (ad2 34), .int (0 : Int32), .int (0 : Int32), .int (0 : Int32), .ref (G.2.2 (100 + 10)), .ref (ad2 35), .ref (ad2 36), .ref (ad2 37), .int (0 : Int32), .ref (ad2 38), .ref (ad2 39), .ref (ad2 40), .ref (ad2 41), .ref (ad2 42), .ref (ad2 43), .ref (ad2 44), .ref (ad2 45), .ref (ad2 46), .ref (ad2 47), .ref (ad2 48), .ref (ad2 49), .ref (ad2 50), .ref (ad2 51), .ref (ad2 52), .ref (ad2 53), .ref (ad2 54), .ref (ad2 55), .ref (ad2 56), .ref (ad2 57), .ref (ad2 58), .ref (ad2 59), .int (0 : Int32), .ref (ad2 60), .int (0 : Int32), .ref (ad2 61), .ref (ad2 62), .int (0 : Int32), .ref (ad2 63), .ref (ad2 64), .ref (ad2 65), .ref (ad2 66), .ref (ad2 67), .ref (ad2 68), .int (0 : Int32), .ref (ad2 69), .ref (ad2 70), .ref (ad2 71), .ref (ad2 72), .ref (ad2 73), .int (0 : Int32), .int (0 : Int32), .int (0 : Int32), .ref (ad2 74), .ref (ad2 75), .ref (ad2 76), .ref (ad2 77), .ref (ad2 78), .ref (ad2 79)])) (k2_1 : w2 1 = .inl (G.2.1 0, 5, .inl (upd (upd (upd (upd (upd (fun _ => 0) 0 (20000 : Int32)) 1 (20000 : Int32)) 2 (20000 : Int32)) 3 (20000 : Int32)) 4 (20000 : Int32)))) (k2_2 : w2 2 = .inl (G.2.1 0, 5, .inl (upd (upd (upd (upd (upd (fun _ => 0) 0 (300 : Int32)) 1 (300 : Int32)) 2 (300 : Int32)) 3 (300 : Int32)) 4 (300 : Int32)))) {H : Heap} {locs : List Loc} (h2 : tw_2 G 244 ad1 w1 80 ad2 w2 (fun q => s.heap.size ≤ q) s H locs) {ls : Array Slot} (hl : lv_has ls 7 [(4, .int (0 : Int32)), (3, .ref ao), (2, .ref (ad2 0)), (1, .ref (ad1 0)), (0, .ref b)]) {cells slots : Nat} (h3 : cells ≤ 1000) (h4 : slots ≤ 20000) : W p l e room_1 s m #[Value.ref b] below meth c H locs cells slots (lw_Z below #[Value.ref b] s) (F0 m 253 ls []) := by
  refine W.widen (k := 1000) (n := 20000) h3 h4 ?_
  have hx := F.1.1
  have hb := F.1.2.1
  have hbA : ¬ (fun q : Nat => s.heap.size ≤ q) b := Nat.not_le.mpr hbl
  refine lv_aload_n hx hb dL_law_253 rfl (lv_at hl 3 rfl) ?_
  refine lv_aload_n hx hb dL_law_254 rfl (lv_at hl 4 rfl) ?_
  refine lv_iload hx hb dL_law_255 (lv_at hl 0 rfl) ?_
  refine lv_iconst (v := 1) hx hb dL_law_257 (by decide) ?_
  refine lv_iadd hx hb dL_law_258 ?_
  refine tw_cv (v := (1 : Int32)) (by decide) ?_
  refine va_sld hx hb hX hbl hbA h2.1.2.2 (tw_ix (j := 1) (by decide) (by decide)).1 dL_law_259 ?_
  refine tw_cv (v := xs 1) rfl ?_
  refine lv_aload_n hx hb dL_law_260 rfl (lv_at hl 4 rfl) ?_
  refine lv_iload hx hb dL_law_261 (lv_at hl 0 rfl) ?_
  refine lv_iconst (v := 2) hx hb dL_law_263 (by decide) ?_
  refine lv_iadd hx hb dL_law_264 ?_
  refine tw_cv (v := (2 : Int32)) (by decide) ?_
  refine va_sld hx hb hX hbl hbA h2.1.2.2 (tw_ix (j := 2) (by decide) (by decide)).1 dL_law_265 ?_
  refine tw_cv (v := xs 2) rfl ?_
  refine lv_aload_n hx hb dL_law_266 rfl (lv_at hl 4 rfl) ?_
  refine lv_iload hx hb dL_law_267 (lv_at hl 0 rfl) ?_
  refine lv_iconst (v := 3) hx hb dL_law_269 (by decide) ?_
  refine lv_iadd hx hb dL_law_270 ?_
  refine tw_cv (v := (3 : Int32)) (by decide) ?_
  refine va_sld hx hb hX hbl hbA h2.1.2.2 (tw_ix (j := 3) (by decide) (by decide)).1 dL_law_271 ?_
  refine tw_cv (v := xs 3) rfl ?_
  refine tw_calli_1 F h2 (tw_runV (r := 0) (As := [.int (xs 1), .int (xs 2), .int (xs 3)]) (rest := []) F h2.1 (c_X11_sector l G ad1 w1 H.size (xs 1) ((xs 1).toInt) rfl (xs 2) ((xs 2).toInt) rfl (xs 3) ((xs 3).toInt) rfl k1_0 k1_4 k1_5 k1_6 k1_14) (tw_gl kw_553 rfl) km_X11_sector kv_X11_sector rfl rfl ⟨(Nat.le_of_ble_eq_true rfl), (Nat.le_of_ble_eq_true rfl)⟩ (by decide) k1_0 rfl rfl hl.1 rfl (Nat.le_of_ble_eq_true rfl) dL_law_272 ⟨(Nat.le_of_ble_eq_true rfl), (Nat.le_of_ble_eq_true rfl)⟩) (fun r1 wv2 H locs hp3 h2 => ?_)
  rcases hp3 with ⟨rfl, hc4⟩ | ⟨rfl, hc5⟩
  · skip
    refine lv_aload_n hx hb dL_law_275 rfl (lv_at hl 2 rfl) ?_
    refine lv_aload_n hx hb dL_law_276 rfl (lv_at hl 4 rfl) ?_
    refine lv_iload hx hb dL_law_277 (lv_at hl 0 rfl) ?_
    refine lv_iconst (v := 1) hx hb dL_law_279 (by decide) ?_
    refine lv_iadd hx hb dL_law_280 ?_
    refine tw_cv (v := (1 : Int32)) (by decide) ?_
    refine va_sld hx hb hX hbl hbA h2.1.2.2 (tw_ix (j := 1) (by decide) (by decide)).1 dL_law_281 ?_
    refine tw_cv (v := xs 1) rfl ?_
    refine lv_aload_n hx hb dL_law_282 rfl (lv_at hl 4 rfl) ?_
    refine lv_iload hx hb dL_law_283 (lv_at hl 0 rfl) ?_
    refine lv_iconst (v := 2) hx hb dL_law_285 (by decide) ?_
    refine lv_iadd hx hb dL_law_286 ?_
    refine tw_cv (v := (2 : Int32)) (by decide) ?_
    refine va_sld hx hb hX hbl hbA h2.1.2.2 (tw_ix (j := 2) (by decide) (by decide)).1 dL_law_287 ?_
    refine tw_cv (v := xs 2) rfl ?_
    refine lv_aload_n hx hb dL_law_288 rfl (lv_at hl 4 rfl) ?_
    refine lv_iload hx hb dL_law_289 (lv_at hl 0 rfl) ?_
    refine lv_iconst (v := 3) hx hb dL_law_291 (by decide) ?_
    refine lv_iadd hx hb dL_law_292 ?_
    refine tw_cv (v := (3 : Int32)) (by decide) ?_
    refine va_sld hx hb hX hbl hbA h2.1.2.2 (tw_ix (j := 3) (by decide) (by decide)).1 dL_law_293 ?_
    refine tw_cv (v := xs 3) rfl ?_
    refine tw_calli_2 F h2 (tw_runV (r := 0) (As := [.int (xs 1), .int (xs 2), .int (xs 3)]) (rest := [.int (0 : Int32)]) F h2.2.1 (c_X12_sector l G ad2 w2 H.size (xs 1) ((xs 1).toInt) rfl (xs 2) ((xs 2).toInt) rfl (xs 3) ((xs 3).toInt) rfl k2_0 k2_1 k2_2) (tw_gl kw_1360 rfl) km_X12_sector kv_X12_sector rfl rfl ⟨(Nat.le_of_ble_eq_true rfl), (Nat.le_of_ble_eq_true rfl)⟩ (by decide) k2_0 rfl rfl hl.1 rfl (Nat.le_of_ble_eq_true rfl) dL_law_294 ⟨(Nat.le_of_ble_eq_true rfl), (Nat.le_of_ble_eq_true rfl)⟩) (fun r6 wv7 H locs hp8 h2 => ?_)
    rcases hp8 with ⟨rfl, hc9⟩ | ⟨rfl, hc10⟩
    · skip
      refine lv_icmp_eq (tgt := 1975) hx hb dL_law_297 (by decide) (fun _ => ?_) (fun c => absurd c (by decide))
      exact law_tail F hr hlk hX hbl h2.1.2.2 (Nat.le_of_ble_eq_true rfl) (Nat.le_of_ble_eq_true rfl) (lv_sub hl [0, 1, 2, 3, 4] rfl)
    · exfalso; omega
  · skip
    refine lv_aload_n hx hb dL_law_275 rfl (lv_at hl 2 rfl) ?_
    refine lv_aload_n hx hb dL_law_276 rfl (lv_at hl 4 rfl) ?_
    refine lv_iload hx hb dL_law_277 (lv_at hl 0 rfl) ?_
    refine lv_iconst (v := 1) hx hb dL_law_279 (by decide) ?_
    refine lv_iadd hx hb dL_law_280 ?_
    refine tw_cv (v := (1 : Int32)) (by decide) ?_
    refine va_sld hx hb hX hbl hbA h2.1.2.2 (tw_ix (j := 1) (by decide) (by decide)).1 dL_law_281 ?_
    refine tw_cv (v := xs 1) rfl ?_
    refine lv_aload_n hx hb dL_law_282 rfl (lv_at hl 4 rfl) ?_
    refine lv_iload hx hb dL_law_283 (lv_at hl 0 rfl) ?_
    refine lv_iconst (v := 2) hx hb dL_law_285 (by decide) ?_
    refine lv_iadd hx hb dL_law_286 ?_
    refine tw_cv (v := (2 : Int32)) (by decide) ?_
    refine va_sld hx hb hX hbl hbA h2.1.2.2 (tw_ix (j := 2) (by decide) (by decide)).1 dL_law_287 ?_
    refine tw_cv (v := xs 2) rfl ?_
    refine lv_aload_n hx hb dL_law_288 rfl (lv_at hl 4 rfl) ?_
    refine lv_iload hx hb dL_law_289 (lv_at hl 0 rfl) ?_
    refine lv_iconst (v := 3) hx hb dL_law_291 (by decide) ?_
    refine lv_iadd hx hb dL_law_292 ?_
    refine tw_cv (v := (3 : Int32)) (by decide) ?_
    refine va_sld hx hb hX hbl hbA h2.1.2.2 (tw_ix (j := 3) (by decide) (by decide)).1 dL_law_293 ?_
    refine tw_cv (v := xs 3) rfl ?_
    refine tw_calli_2 F h2 (tw_runV (r := 0) (As := [.int (xs 1), .int (xs 2), .int (xs 3)]) (rest := [.int (1 : Int32)]) F h2.2.1 (c_X12_sector l G ad2 w2 H.size (xs 1) ((xs 1).toInt) rfl (xs 2) ((xs 2).toInt) rfl (xs 3) ((xs 3).toInt) rfl k2_0 k2_1 k2_2) (tw_gl kw_1360 rfl) km_X12_sector kv_X12_sector rfl rfl ⟨(Nat.le_of_ble_eq_true rfl), (Nat.le_of_ble_eq_true rfl)⟩ (by decide) k2_0 rfl rfl hl.1 rfl (Nat.le_of_ble_eq_true rfl) dL_law_294 ⟨(Nat.le_of_ble_eq_true rfl), (Nat.le_of_ble_eq_true rfl)⟩) (fun r11 wv12 H locs hp13 h2 => ?_)
    rcases hp13 with ⟨rfl, hc14⟩ | ⟨rfl, hc15⟩
    · exfalso; omega
    · skip
      refine lv_icmp_eq (tgt := 1975) hx hb dL_law_297 (by decide) (fun _ => ?_) (fun c => absurd c (by decide))
      exact law_tail F hr hlk hX hbl h2.1.2.2 (Nat.le_of_ble_eq_true rfl) (Nat.le_of_ble_eq_true rfl) (lv_sub hl [0, 1, 2, 3, 4] rfl)
set_option maxHeartbeats 4000000 in
set_option maxRecDepth 100000 in
theorem law_case_2 {p : Program} {l : Launch} {e : Env} {s : State} {m : MethodId} {below : List Frame} {meth : Method} {c : Code} {G : tw_G} {b : Nat} {xs : Nat → Int32} (hst : l.stackTraces = false) (F : tw_F p m c code 7 s #[Value.ref b] RL G (fun q => s.heap.size ≤ q)) (hr : meth.sig.returnType = ret) (hlk : meth.locks = false) (hX : va_X b 7 xs s s.heap) (hbl : b < s.heap.size) {ad1 ad2 : Nat → Nat} {w1 w2 : Nat → va_E} {ao : Nat} (k1_0 : w1 0 = .inr (11, [.ref (ad1 4), .ref (ad1 14), .ref (ad1 156), .ref (ad1 221), .ref (ad1 225), .ref (ad1 233), .ref (ad1 236), .int (0 : Int32), .ref (ad1 237), .int (0 : Int32), .ref (ad1 238)])) (k1_4 : w1 4 = .inr (9, [.int (2 : Int32), .int (1 : Int32), .ref (ad1 5), .ref (ad1 6), .ref (ad1 7), .ref (ad1 8), .ref (ad1 9), .ref (ad1 10), .ref (ad1 12)])) (k1_8 : w1 8 = .inl (G.2.1 0, 24, .inl (upd (upd (upd (upd (upd (upd (upd (upd (upd (upd (upd (upd (upd (upd (upd (upd (upd (upd (upd (upd (upd (upd (upd (upd (fun _ => 0) 0 (0 : Int32)) 1 (10 : Int32)) 2 (40 : Int32)) 3 (1000 : Int32)) 4 (0 : Int32)) 5 (5 : Int32)) 6 (0 : Int32)) 7 (10 : Int32)) 8 (40 : Int32)) 9 (1000 : Int32)) 10 (0 : Int32)) 11 (5 : Int32)) 12 (0 : Int32)) 13 (10 : Int32)) 14 (40 : Int32)) 15 (1000 : Int32)) 16 (0 : Int32)) 17 (5 : Int32)) 18 (0 : Int32)) 19 (10 : Int32)) 20 (40 : Int32)) 21 (1000 : Int32)) 22 (0 : Int32)) 23 (5 : Int32)))) (k1_14 : w1 14 = .inr (2, [.ref (ad1 4), .ref (ad1 1), .ref (ad1 15), .ref (ad1 16), .ref (ad1 17), .int (0 : Int32), .int (0 : Int32), .int (0 : Int32)])) (k2_0 : w2 0 = .inr (12, [.int (0 : Int32), .int (2 : Int32), .int (1 : Int32), .ref (ad2 1), .ref (ad2 2), .ref (ad2 3), .ref (ad2 4), .ref (ad2 5), .int (0 : Int32), .ref (ad2 6), .ref (ad2 7), .ref (ad2 8), .int (0 : Int32), .ref (ad2 9), .ref (ad2 10), .ref (ad2 11), .ref (ad2 12), .int (0 : Int32), .ref (ad2 13), .ref (ad2 14), .ref (ad2 15), .ref (ad2 16), .ref (ad2 17), .ref (ad2 18), .ref (ad2 19), .ref (ad2 20), .ref (ad2 21), .ref (ad2 22), .ref (ad2 23), .ref (ad2 24), .ref (ad2 25), .ref (ad2 26), .ref (ad2 27), .ref (ad2 28), .ref (ad2 29), .ref (ad2 30), .ref (ad2 31), .ref (ad2 32), .ref (ad2 33), .ref (ad2 34), .int (0 : Int32), .int (0 : Int32), .int (0 : Int32), .ref (G.2.2 (100 + 10)), .ref (ad2 35), .ref (ad2 36), .ref (ad2 37), .int (0 : Int32), .ref (ad2 38), .ref (ad2 39), .ref (ad2 40), .ref (ad2 41), .ref (ad2 42), .ref (ad2 43), .ref (ad2 44), .ref (ad2 45), .ref (ad2 46), .ref (ad2 47), .ref (ad2 48), .ref (ad2 49), .ref (ad2 50), .ref (ad2 51), .ref (ad2 52), .ref (ad2 53), .ref (ad2 54), .ref (ad2 55), .ref (ad2 56), .ref (ad2 57), .ref (ad2 58), .ref (ad2 59), .int (0 : Int32), .ref (ad2 60), .int (0 : Int32), .ref (ad2 61), .ref (ad2 62), .int (0 : Int32), .ref (ad2 63), .ref (ad2 64), .ref (ad2 65), .ref (ad2 66), .ref (ad2 67), .ref (ad2 68), .int (0 : Int32), .ref (ad2 69), .ref (ad2 70), .ref (ad2 71), .ref (ad2 72), .ref (ad2 73), .int (0 : Int32), .int (0 : Int32), .int (0 : Int32), .ref (ad2 74), .ref (ad2 75), .ref (ad2 76), .ref (ad2 77), .ref (ad2 78), .ref (ad2 79)])) (k2_4 : w2 4 = .inl (G.2.1 0, 24, .inl (upd (upd (upd (upd (upd (upd (upd (upd (upd (upd (upd (upd (upd (upd (upd (upd (fun _ => 0) 1 (10 : Int32)) 2 (40 : Int32)) 3 (1000 : Int32)) 5 (5 : Int32)) 7 (10 : Int32)) 8 (40 : Int32)) 9 (1000 : Int32)) 11 (5 : Int32)) 13 (10 : Int32)) 14 (40 : Int32)) 15 (1000 : Int32)) 17 (5 : Int32)) 19 (10 : Int32)) 20 (40 : Int32)) 21 (1000 : Int32)) 23 (5 : Int32)))) {H : Heap} {locs : List Loc} (h2 : tw_2 G 244 ad1 w1 80 ad2 w2 (fun q => s.heap.size ≤ q) s H locs) {ls : Array Slot} (hl : lv_has ls 7 [(4, .int (0 : Int32)), (3, .ref ao), (2, .ref (ad2 0)), (1, .ref (ad1 0)), (0, .ref b)]) {cells slots : Nat} (h3 : cells ≤ 1000) (h4 : slots ≤ 20000) : W p l e room_1 s m #[Value.ref b] below meth c H locs cells slots (lw_Z below #[Value.ref b] s) (F0 m 302 ls []) := by
  refine W.widen (k := 1000) (n := 20000) h3 h4 ?_
  have hx := F.1.1
  have hb := F.1.2.1
  have hbA : ¬ (fun q : Nat => s.heap.size ≤ q) b := Nat.not_le.mpr hbl
  refine lv_aload_n hx hb dL_law_302 rfl (lv_at hl 3 rfl) ?_
  refine lv_aload_n hx hb dL_law_303 rfl (lv_at hl 4 rfl) ?_
  refine lv_iload hx hb dL_law_304 (lv_at hl 0 rfl) ?_
  refine lv_iconst (v := 1) hx hb dL_law_306 (by decide) ?_
  refine lv_iadd hx hb dL_law_307 ?_
  refine tw_cv (v := (1 : Int32)) (by decide) ?_
  refine va_sld hx hb hX hbl hbA h2.1.2.2 (tw_ix (j := 1) (by decide) (by decide)).1 dL_law_308 ?_
  refine tw_cv (v := xs 1) rfl ?_
  refine lv_aload_n hx hb dL_law_309 rfl (lv_at hl 4 rfl) ?_
  refine lv_iload hx hb dL_law_310 (lv_at hl 0 rfl) ?_
  refine lv_iconst (v := 2) hx hb dL_law_312 (by decide) ?_
  refine lv_iadd hx hb dL_law_313 ?_
  refine tw_cv (v := (2 : Int32)) (by decide) ?_
  refine va_sld hx hb hX hbl hbA h2.1.2.2 (tw_ix (j := 2) (by decide) (by decide)).1 dL_law_314 ?_
  refine tw_cv (v := xs 2) rfl ?_
  refine lv_aload_n hx hb dL_law_315 rfl (lv_at hl 4 rfl) ?_
  refine lv_iload hx hb dL_law_316 (lv_at hl 0 rfl) ?_
  refine lv_iconst (v := 3) hx hb dL_law_318 (by decide) ?_
  refine lv_iadd hx hb dL_law_319 ?_
  refine tw_cv (v := (3 : Int32)) (by decide) ?_
  refine va_sld hx hb hX hbl hbA h2.1.2.2 (tw_ix (j := 3) (by decide) (by decide)).1 dL_law_320 ?_
  refine tw_cv (v := xs 3) rfl ?_
  refine tw_calli_1 F h2 (tw_runV (r := 0) (As := [.int (xs 1), .int (xs 2), .int (xs 3)]) (rest := []) F h2.1 (c_X11_tyres l G ad1 w1 H.size (xs 1) ((xs 1).toInt) rfl (xs 2) ((xs 2).toInt) rfl (xs 3) ((xs 3).toInt) rfl k1_0 k1_4 k1_8 k1_14) (tw_gl kw_568 rfl) km_X11_tyres kv_X11_tyres rfl rfl ⟨(Nat.le_of_ble_eq_true rfl), (Nat.le_of_ble_eq_true rfl)⟩ (by decide) k1_0 rfl rfl hl.1 rfl (Nat.le_of_ble_eq_true rfl) dL_law_321 ⟨(Nat.le_of_ble_eq_true rfl), (Nat.le_of_ble_eq_true rfl)⟩) (fun r1 wv2 H locs hp3 h2 => ?_)
  rcases hp3 with ⟨rfl, hc4⟩ | ⟨rfl, hc5⟩ | ⟨rfl, hc6⟩ | ⟨rfl, hc7⟩ | ⟨rfl, hc8⟩ | ⟨rfl, hc9⟩
  · skip
    refine lv_aload_n hx hb dL_law_324 rfl (lv_at hl 2 rfl) ?_
    refine lv_aload_n hx hb dL_law_325 rfl (lv_at hl 4 rfl) ?_
    refine lv_iload hx hb dL_law_326 (lv_at hl 0 rfl) ?_
    refine lv_iconst (v := 1) hx hb dL_law_328 (by decide) ?_
    refine lv_iadd hx hb dL_law_329 ?_
    refine tw_cv (v := (1 : Int32)) (by decide) ?_
    refine va_sld hx hb hX hbl hbA h2.1.2.2 (tw_ix (j := 1) (by decide) (by decide)).1 dL_law_330 ?_
    refine tw_cv (v := xs 1) rfl ?_
    refine lv_aload_n hx hb dL_law_331 rfl (lv_at hl 4 rfl) ?_
    refine lv_iload hx hb dL_law_332 (lv_at hl 0 rfl) ?_
    refine lv_iconst (v := 2) hx hb dL_law_334 (by decide) ?_
    refine lv_iadd hx hb dL_law_335 ?_
    refine tw_cv (v := (2 : Int32)) (by decide) ?_
    refine va_sld hx hb hX hbl hbA h2.1.2.2 (tw_ix (j := 2) (by decide) (by decide)).1 dL_law_336 ?_
    refine tw_cv (v := xs 2) rfl ?_
    refine lv_aload_n hx hb dL_law_337 rfl (lv_at hl 4 rfl) ?_
    refine lv_iload hx hb dL_law_338 (lv_at hl 0 rfl) ?_
    refine lv_iconst (v := 3) hx hb dL_law_340 (by decide) ?_
    refine lv_iadd hx hb dL_law_341 ?_
    refine tw_cv (v := (3 : Int32)) (by decide) ?_
    refine va_sld hx hb hX hbl hbA h2.1.2.2 (tw_ix (j := 3) (by decide) (by decide)).1 dL_law_342 ?_
    refine tw_cv (v := xs 3) rfl ?_
    refine tw_calli_2 F h2 (tw_runV (r := 0) (As := [.int (xs 1), .int (xs 2), .int (xs 3)]) (rest := [.int (-1 : Int32)]) F h2.2.1 (c_X12_tyres l G ad2 w2 H.size (xs 1) ((xs 1).toInt) rfl (xs 2) ((xs 2).toInt) rfl (xs 3) ((xs 3).toInt) rfl k2_0 k2_4) (tw_gl kw_1371 rfl) km_X12_tyres kv_X12_tyres rfl rfl ⟨(Nat.le_of_ble_eq_true rfl), (Nat.le_of_ble_eq_true rfl)⟩ (by decide) k2_0 rfl rfl hl.1 rfl (Nat.le_of_ble_eq_true rfl) dL_law_343 ⟨(Nat.le_of_ble_eq_true rfl), (Nat.le_of_ble_eq_true rfl)⟩) (fun r10 wv11 H locs hp12 h2 => ?_)
    rcases hp12 with ⟨rfl, hc13⟩ | ⟨rfl, hc14⟩ | ⟨rfl, hc15⟩ | ⟨rfl, hc16⟩ | ⟨rfl, hc17⟩ | ⟨rfl, hc18⟩
    · skip
      refine lv_icmp_eq (tgt := 1975) hx hb dL_law_346 (by decide) (fun _ => ?_) (fun c => absurd c (by decide))
      exact law_tail F hr hlk hX hbl h2.1.2.2 (Nat.le_of_ble_eq_true rfl) (Nat.le_of_ble_eq_true rfl) (lv_sub hl [0, 1, 2, 3, 4] rfl)
    · exfalso; omega
    · exfalso; omega
    · exfalso; omega
    · exfalso; omega
    · exfalso; omega
  · skip
    refine lv_aload_n hx hb dL_law_324 rfl (lv_at hl 2 rfl) ?_
    refine lv_aload_n hx hb dL_law_325 rfl (lv_at hl 4 rfl) ?_
    refine lv_iload hx hb dL_law_326 (lv_at hl 0 rfl) ?_
    refine lv_iconst (v := 1) hx hb dL_law_328 (by decide) ?_
    refine lv_iadd hx hb dL_law_329 ?_
    refine tw_cv (v := (1 : Int32)) (by decide) ?_
    refine va_sld hx hb hX hbl hbA h2.1.2.2 (tw_ix (j := 1) (by decide) (by decide)).1 dL_law_330 ?_
    refine tw_cv (v := xs 1) rfl ?_
    refine lv_aload_n hx hb dL_law_331 rfl (lv_at hl 4 rfl) ?_
    refine lv_iload hx hb dL_law_332 (lv_at hl 0 rfl) ?_
    refine lv_iconst (v := 2) hx hb dL_law_334 (by decide) ?_
    refine lv_iadd hx hb dL_law_335 ?_
    refine tw_cv (v := (2 : Int32)) (by decide) ?_
    refine va_sld hx hb hX hbl hbA h2.1.2.2 (tw_ix (j := 2) (by decide) (by decide)).1 dL_law_336 ?_
    refine tw_cv (v := xs 2) rfl ?_
    refine lv_aload_n hx hb dL_law_337 rfl (lv_at hl 4 rfl) ?_
    refine lv_iload hx hb dL_law_338 (lv_at hl 0 rfl) ?_
    refine lv_iconst (v := 3) hx hb dL_law_340 (by decide) ?_
    refine lv_iadd hx hb dL_law_341 ?_
    refine tw_cv (v := (3 : Int32)) (by decide) ?_
    refine va_sld hx hb hX hbl hbA h2.1.2.2 (tw_ix (j := 3) (by decide) (by decide)).1 dL_law_342 ?_
    refine tw_cv (v := xs 3) rfl ?_
    refine tw_calli_2 F h2 (tw_runV (r := 0) (As := [.int (xs 1), .int (xs 2), .int (xs 3)]) (rest := [.int (0 : Int32)]) F h2.2.1 (c_X12_tyres l G ad2 w2 H.size (xs 1) ((xs 1).toInt) rfl (xs 2) ((xs 2).toInt) rfl (xs 3) ((xs 3).toInt) rfl k2_0 k2_4) (tw_gl kw_1371 rfl) km_X12_tyres kv_X12_tyres rfl rfl ⟨(Nat.le_of_ble_eq_true rfl), (Nat.le_of_ble_eq_true rfl)⟩ (by decide) k2_0 rfl rfl hl.1 rfl (Nat.le_of_ble_eq_true rfl) dL_law_343 ⟨(Nat.le_of_ble_eq_true rfl), (Nat.le_of_ble_eq_true rfl)⟩) (fun r19 wv20 H locs hp21 h2 => ?_)
    rcases hp21 with ⟨rfl, hc22⟩ | ⟨rfl, hc23⟩ | ⟨rfl, hc24⟩ | ⟨rfl, hc25⟩ | ⟨rfl, hc26⟩ | ⟨rfl, hc27⟩
    · exfalso; omega
    · exfalso; omega
    · skip
      refine lv_icmp_eq (tgt := 1975) hx hb dL_law_346 (by decide) (fun _ => ?_) (fun c => absurd c (by decide))
      exact law_tail F hr hlk hX hbl h2.1.2.2 (Nat.le_of_ble_eq_true rfl) (Nat.le_of_ble_eq_true rfl) (lv_sub hl [0, 1, 2, 3, 4] rfl)
    · exfalso; omega
    · exfalso; omega
    · exfalso; omega
  · skip
    refine lv_aload_n hx hb dL_law_324 rfl (lv_at hl 2 rfl) ?_
    refine lv_aload_n hx hb dL_law_325 rfl (lv_at hl 4 rfl) ?_
    refine lv_iload hx hb dL_law_326 (lv_at hl 0 rfl) ?_
    refine lv_iconst (v := 1) hx hb dL_law_328 (by decide) ?_
    refine lv_iadd hx hb dL_law_329 ?_
    refine tw_cv (v := (1 : Int32)) (by decide) ?_
    refine va_sld hx hb hX hbl hbA h2.1.2.2 (tw_ix (j := 1) (by decide) (by decide)).1 dL_law_330 ?_
    refine tw_cv (v := xs 1) rfl ?_
    refine lv_aload_n hx hb dL_law_331 rfl (lv_at hl 4 rfl) ?_
    refine lv_iload hx hb dL_law_332 (lv_at hl 0 rfl) ?_
    refine lv_iconst (v := 2) hx hb dL_law_334 (by decide) ?_
    refine lv_iadd hx hb dL_law_335 ?_
    refine tw_cv (v := (2 : Int32)) (by decide) ?_
    refine va_sld hx hb hX hbl hbA h2.1.2.2 (tw_ix (j := 2) (by decide) (by decide)).1 dL_law_336 ?_
    refine tw_cv (v := xs 2) rfl ?_
    refine lv_aload_n hx hb dL_law_337 rfl (lv_at hl 4 rfl) ?_
    refine lv_iload hx hb dL_law_338 (lv_at hl 0 rfl) ?_
    refine lv_iconst (v := 3) hx hb dL_law_340 (by decide) ?_
    refine lv_iadd hx hb dL_law_341 ?_
    refine tw_cv (v := (3 : Int32)) (by decide) ?_
    refine va_sld hx hb hX hbl hbA h2.1.2.2 (tw_ix (j := 3) (by decide) (by decide)).1 dL_law_342 ?_
    refine tw_cv (v := xs 3) rfl ?_
    refine tw_calli_2 F h2 (tw_runV (r := 0) (As := [.int (xs 1), .int (xs 2), .int (xs 3)]) (rest := [.int (10 : Int32)]) F h2.2.1 (c_X12_tyres l G ad2 w2 H.size (xs 1) ((xs 1).toInt) rfl (xs 2) ((xs 2).toInt) rfl (xs 3) ((xs 3).toInt) rfl k2_0 k2_4) (tw_gl kw_1371 rfl) km_X12_tyres kv_X12_tyres rfl rfl ⟨(Nat.le_of_ble_eq_true rfl), (Nat.le_of_ble_eq_true rfl)⟩ (by decide) k2_0 rfl rfl hl.1 rfl (Nat.le_of_ble_eq_true rfl) dL_law_343 ⟨(Nat.le_of_ble_eq_true rfl), (Nat.le_of_ble_eq_true rfl)⟩) (fun r28 wv29 H locs hp30 h2 => ?_)
    rcases hp30 with ⟨rfl, hc31⟩ | ⟨rfl, hc32⟩ | ⟨rfl, hc33⟩ | ⟨rfl, hc34⟩ | ⟨rfl, hc35⟩ | ⟨rfl, hc36⟩
    · exfalso; omega
    · skip
      refine lv_icmp_eq (tgt := 1975) hx hb dL_law_346 (by decide) (fun _ => ?_) (fun c => absurd c (by decide))
      exact law_tail F hr hlk hX hbl h2.1.2.2 (Nat.le_of_ble_eq_true rfl) (Nat.le_of_ble_eq_true rfl) (lv_sub hl [0, 1, 2, 3, 4] rfl)
    · exfalso; omega
    · exfalso; omega
    · exfalso; omega
    · exfalso; omega
  · skip
    refine lv_aload_n hx hb dL_law_324 rfl (lv_at hl 2 rfl) ?_
    refine lv_aload_n hx hb dL_law_325 rfl (lv_at hl 4 rfl) ?_
    refine lv_iload hx hb dL_law_326 (lv_at hl 0 rfl) ?_
    refine lv_iconst (v := 1) hx hb dL_law_328 (by decide) ?_
    refine lv_iadd hx hb dL_law_329 ?_
    refine tw_cv (v := (1 : Int32)) (by decide) ?_
    refine va_sld hx hb hX hbl hbA h2.1.2.2 (tw_ix (j := 1) (by decide) (by decide)).1 dL_law_330 ?_
    refine tw_cv (v := xs 1) rfl ?_
    refine lv_aload_n hx hb dL_law_331 rfl (lv_at hl 4 rfl) ?_
    refine lv_iload hx hb dL_law_332 (lv_at hl 0 rfl) ?_
    refine lv_iconst (v := 2) hx hb dL_law_334 (by decide) ?_
    refine lv_iadd hx hb dL_law_335 ?_
    refine tw_cv (v := (2 : Int32)) (by decide) ?_
    refine va_sld hx hb hX hbl hbA h2.1.2.2 (tw_ix (j := 2) (by decide) (by decide)).1 dL_law_336 ?_
    refine tw_cv (v := xs 2) rfl ?_
    refine lv_aload_n hx hb dL_law_337 rfl (lv_at hl 4 rfl) ?_
    refine lv_iload hx hb dL_law_338 (lv_at hl 0 rfl) ?_
    refine lv_iconst (v := 3) hx hb dL_law_340 (by decide) ?_
    refine lv_iadd hx hb dL_law_341 ?_
    refine tw_cv (v := (3 : Int32)) (by decide) ?_
    refine va_sld hx hb hX hbl hbA h2.1.2.2 (tw_ix (j := 3) (by decide) (by decide)).1 dL_law_342 ?_
    refine tw_cv (v := xs 3) rfl ?_
    refine tw_calli_2 F h2 (tw_runV (r := 0) (As := [.int (xs 1), .int (xs 2), .int (xs 3)]) (rest := [.int (40 : Int32)]) F h2.2.1 (c_X12_tyres l G ad2 w2 H.size (xs 1) ((xs 1).toInt) rfl (xs 2) ((xs 2).toInt) rfl (xs 3) ((xs 3).toInt) rfl k2_0 k2_4) (tw_gl kw_1371 rfl) km_X12_tyres kv_X12_tyres rfl rfl ⟨(Nat.le_of_ble_eq_true rfl), (Nat.le_of_ble_eq_true rfl)⟩ (by decide) k2_0 rfl rfl hl.1 rfl (Nat.le_of_ble_eq_true rfl) dL_law_343 ⟨(Nat.le_of_ble_eq_true rfl), (Nat.le_of_ble_eq_true rfl)⟩) (fun r37 wv38 H locs hp39 h2 => ?_)
    rcases hp39 with ⟨rfl, hc40⟩ | ⟨rfl, hc41⟩ | ⟨rfl, hc42⟩ | ⟨rfl, hc43⟩ | ⟨rfl, hc44⟩ | ⟨rfl, hc45⟩
    · exfalso; omega
    · exfalso; omega
    · exfalso; omega
    · exfalso; omega
    · exfalso; omega
    · skip
      refine lv_icmp_eq (tgt := 1975) hx hb dL_law_346 (by decide) (fun _ => ?_) (fun c => absurd c (by decide))
      exact law_tail F hr hlk hX hbl h2.1.2.2 (Nat.le_of_ble_eq_true rfl) (Nat.le_of_ble_eq_true rfl) (lv_sub hl [0, 1, 2, 3, 4] rfl)
  · skip
    refine lv_aload_n hx hb dL_law_324 rfl (lv_at hl 2 rfl) ?_
    refine lv_aload_n hx hb dL_law_325 rfl (lv_at hl 4 rfl) ?_
    refine lv_iload hx hb dL_law_326 (lv_at hl 0 rfl) ?_
    refine lv_iconst (v := 1) hx hb dL_law_328 (by decide) ?_
    refine lv_iadd hx hb dL_law_329 ?_
    refine tw_cv (v := (1 : Int32)) (by decide) ?_
    refine va_sld hx hb hX hbl hbA h2.1.2.2 (tw_ix (j := 1) (by decide) (by decide)).1 dL_law_330 ?_
    refine tw_cv (v := xs 1) rfl ?_
    refine lv_aload_n hx hb dL_law_331 rfl (lv_at hl 4 rfl) ?_
    refine lv_iload hx hb dL_law_332 (lv_at hl 0 rfl) ?_
    refine lv_iconst (v := 2) hx hb dL_law_334 (by decide) ?_
    refine lv_iadd hx hb dL_law_335 ?_
    refine tw_cv (v := (2 : Int32)) (by decide) ?_
    refine va_sld hx hb hX hbl hbA h2.1.2.2 (tw_ix (j := 2) (by decide) (by decide)).1 dL_law_336 ?_
    refine tw_cv (v := xs 2) rfl ?_
    refine lv_aload_n hx hb dL_law_337 rfl (lv_at hl 4 rfl) ?_
    refine lv_iload hx hb dL_law_338 (lv_at hl 0 rfl) ?_
    refine lv_iconst (v := 3) hx hb dL_law_340 (by decide) ?_
    refine lv_iadd hx hb dL_law_341 ?_
    refine tw_cv (v := (3 : Int32)) (by decide) ?_
    refine va_sld hx hb hX hbl hbA h2.1.2.2 (tw_ix (j := 3) (by decide) (by decide)).1 dL_law_342 ?_
    refine tw_cv (v := xs 3) rfl ?_
    refine tw_calli_2 F h2 (tw_runV (r := 0) (As := [.int (xs 1), .int (xs 2), .int (xs 3)]) (rest := [.int (1000 : Int32)]) F h2.2.1 (c_X12_tyres l G ad2 w2 H.size (xs 1) ((xs 1).toInt) rfl (xs 2) ((xs 2).toInt) rfl (xs 3) ((xs 3).toInt) rfl k2_0 k2_4) (tw_gl kw_1371 rfl) km_X12_tyres kv_X12_tyres rfl rfl ⟨(Nat.le_of_ble_eq_true rfl), (Nat.le_of_ble_eq_true rfl)⟩ (by decide) k2_0 rfl rfl hl.1 rfl (Nat.le_of_ble_eq_true rfl) dL_law_343 ⟨(Nat.le_of_ble_eq_true rfl), (Nat.le_of_ble_eq_true rfl)⟩) (fun r46 wv47 H locs hp48 h2 => ?_)
    rcases hp48 with ⟨rfl, hc49⟩ | ⟨rfl, hc50⟩ | ⟨rfl, hc51⟩ | ⟨rfl, hc52⟩ | ⟨rfl, hc53⟩ | ⟨rfl, hc54⟩
    · exfalso; omega
    · exfalso; omega
    · exfalso; omega
    · exfalso; omega
    · skip
      refine lv_icmp_eq (tgt := 1975) hx hb dL_law_346 (by decide) (fun _ => ?_) (fun c => absurd c (by decide))
      exact law_tail F hr hlk hX hbl h2.1.2.2 (Nat.le_of_ble_eq_true rfl) (Nat.le_of_ble_eq_true rfl) (lv_sub hl [0, 1, 2, 3, 4] rfl)
    · exfalso; omega
  · skip
    refine lv_aload_n hx hb dL_law_324 rfl (lv_at hl 2 rfl) ?_
    refine lv_aload_n hx hb dL_law_325 rfl (lv_at hl 4 rfl) ?_
    refine lv_iload hx hb dL_law_326 (lv_at hl 0 rfl) ?_
    refine lv_iconst (v := 1) hx hb dL_law_328 (by decide) ?_
    refine lv_iadd hx hb dL_law_329 ?_
    refine tw_cv (v := (1 : Int32)) (by decide) ?_
    refine va_sld hx hb hX hbl hbA h2.1.2.2 (tw_ix (j := 1) (by decide) (by decide)).1 dL_law_330 ?_
    refine tw_cv (v := xs 1) rfl ?_
    refine lv_aload_n hx hb dL_law_331 rfl (lv_at hl 4 rfl) ?_
    refine lv_iload hx hb dL_law_332 (lv_at hl 0 rfl) ?_
    refine lv_iconst (v := 2) hx hb dL_law_334 (by decide) ?_
    refine lv_iadd hx hb dL_law_335 ?_
    refine tw_cv (v := (2 : Int32)) (by decide) ?_
    refine va_sld hx hb hX hbl hbA h2.1.2.2 (tw_ix (j := 2) (by decide) (by decide)).1 dL_law_336 ?_
    refine tw_cv (v := xs 2) rfl ?_
    refine lv_aload_n hx hb dL_law_337 rfl (lv_at hl 4 rfl) ?_
    refine lv_iload hx hb dL_law_338 (lv_at hl 0 rfl) ?_
    refine lv_iconst (v := 3) hx hb dL_law_340 (by decide) ?_
    refine lv_iadd hx hb dL_law_341 ?_
    refine tw_cv (v := (3 : Int32)) (by decide) ?_
    refine va_sld hx hb hX hbl hbA h2.1.2.2 (tw_ix (j := 3) (by decide) (by decide)).1 dL_law_342 ?_
    refine tw_cv (v := xs 3) rfl ?_
    refine tw_calli_2 F h2 (tw_runV (r := 0) (As := [.int (xs 1), .int (xs 2), .int (xs 3)]) (rest := [.int (5 : Int32)]) F h2.2.1 (c_X12_tyres l G ad2 w2 H.size (xs 1) ((xs 1).toInt) rfl (xs 2) ((xs 2).toInt) rfl (xs 3) ((xs 3).toInt) rfl k2_0 k2_4) (tw_gl kw_1371 rfl) km_X12_tyres kv_X12_tyres rfl rfl ⟨(Nat.le_of_ble_eq_true rfl), (Nat.le_of_ble_eq_true rfl)⟩ (by decide) k2_0 rfl rfl hl.1 rfl (Nat.le_of_ble_eq_true rfl) dL_law_343 ⟨(Nat.le_of_ble_eq_true rfl), (Nat.le_of_ble_eq_true rfl)⟩) (fun r55 wv56 H locs hp57 h2 => ?_)
    rcases hp57 with ⟨rfl, hc58⟩ | ⟨rfl, hc59⟩ | ⟨rfl, hc60⟩ | ⟨rfl, hc61⟩ | ⟨rfl, hc62⟩ | ⟨rfl, hc63⟩
    · exfalso; omega
    · exfalso; omega
    · exfalso; omega
    · skip
      refine lv_icmp_eq (tgt := 1975) hx hb dL_law_346 (by decide) (fun _ => ?_) (fun c => absurd c (by decide))
      exact law_tail F hr hlk hX hbl h2.1.2.2 (Nat.le_of_ble_eq_true rfl) (Nat.le_of_ble_eq_true rfl) (lv_sub hl [0, 1, 2, 3, 4] rfl)
    · exfalso; omega
    · exfalso; omega
set_option maxHeartbeats 4000000 in
set_option maxRecDepth 100000 in
theorem law_case_3 {p : Program} {l : Launch} {e : Env} {s : State} {m : MethodId} {below : List Frame} {meth : Method} {c : Code} {G : tw_G} {b : Nat} {xs : Nat → Int32} (hst : l.stackTraces = false) (F : tw_F p m c code 7 s #[Value.ref b] RL G (fun q => s.heap.size ≤ q)) (hr : meth.sig.returnType = ret) (hlk : meth.locks = false) (hX : va_X b 7 xs s s.heap) (hbl : b < s.heap.size) {ad1 ad2 : Nat → Nat} {w1 w2 : Nat → va_E} {ao : Nat} (k1_0 : w1 0 = .inr (11, [.ref (ad1 4), .ref (ad1 14), .ref (ad1 156), .ref (ad1 221), .ref (ad1 225), .ref (ad1 233), .ref (ad1 236), .int (0 : Int32), .ref (ad1 237), .int (0 : Int32), .ref (ad1 238)])) (k1_4 : w1 4 = .inr (9, [.int (2 : Int32), .int (1 : Int32), .ref (ad1 5), .ref (ad1 6), .ref (ad1 7), .ref (ad1 8), .ref (ad1 9), .ref (ad1 10), .ref (ad1 12)])) (k1_9 : w1 9 = .inl (G.2.1 0, 8, .inl (upd (upd (upd (upd (upd (upd (upd (upd (fun _ => 0) 0 (500 : Int32)) 1 (5 : Int32)) 2 (200 : Int32)) 3 (15000 : Int32)) 4 (3000 : Int32)) 5 (50 : Int32)) 6 (300 : Int32)) 7 (0 : Int32)))) (k1_14 : w1 14 = .inr (2, [.ref (ad1 4), .ref (ad1 1), .ref (ad1 15), .ref (ad1 16), .ref (ad1 17), .int (0 : Int32), .int (0 : Int32), .int (0 : Int32)])) (k2_0 : w2 0 = .inr (12, [.int (0 : Int32), .int (2 : Int32), .int (1 : Int32), .ref (ad2 1), .ref (ad2 2), .ref (ad2 3), .ref (ad2 4), .ref (ad2 5), .int (0 : Int32), .ref (ad2 6), .ref (ad2 7), .ref (ad2 8), .int (0 : Int32), .ref (ad2 9), .ref (ad2 10), .ref (ad2 11), .ref (ad2 12), .int (0 : Int32), .ref (ad2 13), .ref (ad2 14), .ref (ad2 15), .ref (ad2 16), .ref (ad2 17), .ref (ad2 18), .ref (ad2 19), .ref (ad2 20), .ref (ad2 21), .ref (ad2 22), .ref (ad2 23), .ref (ad2 24), .ref (ad2 25), .ref (ad2 26), .ref (ad2 27), .ref (ad2 28), .ref (ad2 29), .ref (ad2 30), .ref (ad2 31), .ref (ad2 32), .ref (ad2 33), .ref (ad2 34), .int (0 : Int32), .int (0 : Int32), .int (0 : Int32), .ref (G.2.2 (100 + 10)), .ref (ad2 35), .ref (ad2 36), .ref (ad2 37), .int (0 : Int32), .ref (ad2 38), .ref (ad2 39), .ref (ad2 40), .ref (ad2 41), .ref (ad2 42), .ref (ad2 43), .ref (ad2 44), .ref (ad2 45), .ref (ad2 46), .ref (ad2 47), .ref (ad2 48), .ref (ad2 49), .ref (ad2 50), .ref (ad2 51), .ref (ad2 52), .ref (ad2 53), .ref (ad2 54), .ref (ad2 55), .ref (ad2 56), .ref (ad2 57), .ref (ad2 58), .ref (ad2 59), .int (0 : Int32), .ref (ad2 60), .int (0 : Int32), .ref (ad2 61), .ref (ad2 62), .int (0 : Int32), .ref (ad2 63), .ref (ad2 64), .ref (ad2 65), .ref (ad2 66), .ref (ad2 67), .ref (ad2 68), .int (0 : Int32), .ref (ad2 69), .ref (ad2 70), .ref (ad2 71), .ref (ad2 72), .ref (ad2 73), .int (0 : Int32), .int (0 : Int32), .int (0 : Int32), .ref (ad2 74), .ref (ad2 75), .ref (ad2 76), .ref (ad2 77), .ref (ad2 78), .ref (ad2 79)])) (k2_5 : w2 5 = .inl (G.2.1 0, 8, .inl (upd (upd (upd (upd (upd (upd (upd (fun _ => 0) 0 (500 : Int32)) 1 (5 : Int32)) 2 (200 : Int32)) 3 (15000 : Int32)) 4 (3000 : Int32)) 5 (50 : Int32)) 6 (300 : Int32)))) {H : Heap} {locs : List Loc} (h2 : tw_2 G 244 ad1 w1 80 ad2 w2 (fun q => s.heap.size ≤ q) s H locs) {ls : Array Slot} (hl : lv_has ls 7 [(4, .int (0 : Int32)), (3, .ref ao), (2, .ref (ad2 0)), (1, .ref (ad1 0)), (0, .ref b)]) {cells slots : Nat} (h3 : cells ≤ 1000) (h4 : slots ≤ 20000) : W p l e room_1 s m #[Value.ref b] below meth c H locs cells slots (lw_Z below #[Value.ref b] s) (F0 m 351 ls []) := by
  refine W.widen (k := 1000) (n := 20000) h3 h4 ?_
  have hx := F.1.1
  have hb := F.1.2.1
  have hbA : ¬ (fun q : Nat => s.heap.size ≤ q) b := Nat.not_le.mpr hbl
  refine lv_aload_n hx hb dL_law_351 rfl (lv_at hl 3 rfl) ?_
  refine lv_aload_n hx hb dL_law_352 rfl (lv_at hl 4 rfl) ?_
  refine lv_iload hx hb dL_law_353 (lv_at hl 0 rfl) ?_
  refine lv_iconst (v := 1) hx hb dL_law_355 (by decide) ?_
  refine lv_iadd hx hb dL_law_356 ?_
  refine tw_cv (v := (1 : Int32)) (by decide) ?_
  refine va_sld hx hb hX hbl hbA h2.1.2.2 (tw_ix (j := 1) (by decide) (by decide)).1 dL_law_357 ?_
  refine tw_cv (v := xs 1) rfl ?_
  refine lv_aload_n hx hb dL_law_358 rfl (lv_at hl 4 rfl) ?_
  refine lv_iload hx hb dL_law_359 (lv_at hl 0 rfl) ?_
  refine lv_iconst (v := 2) hx hb dL_law_361 (by decide) ?_
  refine lv_iadd hx hb dL_law_362 ?_
  refine tw_cv (v := (2 : Int32)) (by decide) ?_
  refine va_sld hx hb hX hbl hbA h2.1.2.2 (tw_ix (j := 2) (by decide) (by decide)).1 dL_law_363 ?_
  refine tw_cv (v := xs 2) rfl ?_
  refine tw_calli_1 F h2 (tw_runV (r := 0) (As := [.int (xs 1), .int (xs 2)]) (rest := []) F h2.1 (c_X11_set l G ad1 w1 H.size (xs 1) ((xs 1).toInt) rfl (xs 2) ((xs 2).toInt) rfl k1_0 k1_4 k1_9 k1_14) (tw_gl kw_579 rfl) km_X11_set kv_X11_set rfl rfl ⟨(Nat.le_of_ble_eq_true rfl), (Nat.le_of_ble_eq_true rfl)⟩ (by decide) k1_0 rfl rfl hl.1 rfl (Nat.le_of_ble_eq_true rfl) dL_law_364 ⟨(Nat.le_of_ble_eq_true rfl), (Nat.le_of_ble_eq_true rfl)⟩) (fun r1 wv2 H locs hp3 h2 => ?_)
  rcases hp3 with ⟨rfl, hc4⟩ | ⟨rfl, hc5⟩ | ⟨rfl, hc6⟩ | ⟨rfl, hc7⟩ | ⟨rfl, hc8⟩ | ⟨rfl, hc9⟩ | ⟨rfl, hc10⟩ | ⟨rfl, hc11⟩ | ⟨rfl, hc12⟩
  · skip
    refine lv_aload_n hx hb dL_law_367 rfl (lv_at hl 2 rfl) ?_
    refine lv_aload_n hx hb dL_law_368 rfl (lv_at hl 4 rfl) ?_
    refine lv_iload hx hb dL_law_369 (lv_at hl 0 rfl) ?_
    refine lv_iconst (v := 1) hx hb dL_law_371 (by decide) ?_
    refine lv_iadd hx hb dL_law_372 ?_
    refine tw_cv (v := (1 : Int32)) (by decide) ?_
    refine va_sld hx hb hX hbl hbA h2.1.2.2 (tw_ix (j := 1) (by decide) (by decide)).1 dL_law_373 ?_
    refine tw_cv (v := xs 1) rfl ?_
    refine lv_aload_n hx hb dL_law_374 rfl (lv_at hl 4 rfl) ?_
    refine lv_iload hx hb dL_law_375 (lv_at hl 0 rfl) ?_
    refine lv_iconst (v := 2) hx hb dL_law_377 (by decide) ?_
    refine lv_iadd hx hb dL_law_378 ?_
    refine tw_cv (v := (2 : Int32)) (by decide) ?_
    refine va_sld hx hb hX hbl hbA h2.1.2.2 (tw_ix (j := 2) (by decide) (by decide)).1 dL_law_379 ?_
    refine tw_cv (v := xs 2) rfl ?_
    refine tw_calli_2 F h2 (tw_runV (r := 0) (As := [.int (xs 1), .int (xs 2)]) (rest := [.int (-1 : Int32)]) F h2.2.1 (c_X12_set l G ad2 w2 H.size (xs 1) ((xs 1).toInt) rfl (xs 2) ((xs 2).toInt) rfl k2_0 k2_5) (tw_gl kw_1379 rfl) km_X12_set kv_X12_set rfl rfl ⟨(Nat.le_of_ble_eq_true rfl), (Nat.le_of_ble_eq_true rfl)⟩ (by decide) k2_0 rfl rfl hl.1 rfl (Nat.le_of_ble_eq_true rfl) dL_law_380 ⟨(Nat.le_of_ble_eq_true rfl), (Nat.le_of_ble_eq_true rfl)⟩) (fun r13 wv14 H locs hp15 h2 => ?_)
    rcases hp15 with ⟨rfl, hc16⟩ | ⟨rfl, hc17⟩ | ⟨rfl, hc18⟩ | ⟨rfl, hc19⟩ | ⟨rfl, hc20⟩ | ⟨rfl, hc21⟩ | ⟨rfl, hc22⟩ | ⟨rfl, hc23⟩ | ⟨rfl, hc24⟩
    · skip
      refine lv_icmp_eq (tgt := 1975) hx hb dL_law_383 (by decide) (fun _ => ?_) (fun c => absurd c (by decide))
      exact law_tail F hr hlk hX hbl h2.1.2.2 (Nat.le_of_ble_eq_true rfl) (Nat.le_of_ble_eq_true rfl) (lv_sub hl [0, 1, 2, 3, 4] rfl)
    · exfalso; omega
    · exfalso; omega
    · exfalso; omega
    · exfalso; omega
    · exfalso; omega
    · exfalso; omega
    · exfalso; omega
    · exfalso; omega
  · skip
    refine lv_aload_n hx hb dL_law_367 rfl (lv_at hl 2 rfl) ?_
    refine lv_aload_n hx hb dL_law_368 rfl (lv_at hl 4 rfl) ?_
    refine lv_iload hx hb dL_law_369 (lv_at hl 0 rfl) ?_
    refine lv_iconst (v := 1) hx hb dL_law_371 (by decide) ?_
    refine lv_iadd hx hb dL_law_372 ?_
    refine tw_cv (v := (1 : Int32)) (by decide) ?_
    refine va_sld hx hb hX hbl hbA h2.1.2.2 (tw_ix (j := 1) (by decide) (by decide)).1 dL_law_373 ?_
    refine tw_cv (v := xs 1) rfl ?_
    refine lv_aload_n hx hb dL_law_374 rfl (lv_at hl 4 rfl) ?_
    refine lv_iload hx hb dL_law_375 (lv_at hl 0 rfl) ?_
    refine lv_iconst (v := 2) hx hb dL_law_377 (by decide) ?_
    refine lv_iadd hx hb dL_law_378 ?_
    refine tw_cv (v := (2 : Int32)) (by decide) ?_
    refine va_sld hx hb hX hbl hbA h2.1.2.2 (tw_ix (j := 2) (by decide) (by decide)).1 dL_law_379 ?_
    refine tw_cv (v := xs 2) rfl ?_
    refine tw_calli_2 F h2 (tw_runV (r := 0) (As := [.int (xs 1), .int (xs 2)]) (rest := [.int (500 : Int32)]) F h2.2.1 (c_X12_set l G ad2 w2 H.size (xs 1) ((xs 1).toInt) rfl (xs 2) ((xs 2).toInt) rfl k2_0 k2_5) (tw_gl kw_1379 rfl) km_X12_set kv_X12_set rfl rfl ⟨(Nat.le_of_ble_eq_true rfl), (Nat.le_of_ble_eq_true rfl)⟩ (by decide) k2_0 rfl rfl hl.1 rfl (Nat.le_of_ble_eq_true rfl) dL_law_380 ⟨(Nat.le_of_ble_eq_true rfl), (Nat.le_of_ble_eq_true rfl)⟩) (fun r25 wv26 H locs hp27 h2 => ?_)
    rcases hp27 with ⟨rfl, hc28⟩ | ⟨rfl, hc29⟩ | ⟨rfl, hc30⟩ | ⟨rfl, hc31⟩ | ⟨rfl, hc32⟩ | ⟨rfl, hc33⟩ | ⟨rfl, hc34⟩ | ⟨rfl, hc35⟩ | ⟨rfl, hc36⟩
    · exfalso; omega
    · exfalso; omega
    · exfalso; omega
    · exfalso; omega
    · exfalso; omega
    · exfalso; omega
    · exfalso; omega
    · exfalso; omega
    · skip
      refine lv_icmp_eq (tgt := 1975) hx hb dL_law_383 (by decide) (fun _ => ?_) (fun c => absurd c (by decide))
      exact law_tail F hr hlk hX hbl h2.1.2.2 (Nat.le_of_ble_eq_true rfl) (Nat.le_of_ble_eq_true rfl) (lv_sub hl [0, 1, 2, 3, 4] rfl)
  · skip
    refine lv_aload_n hx hb dL_law_367 rfl (lv_at hl 2 rfl) ?_
    refine lv_aload_n hx hb dL_law_368 rfl (lv_at hl 4 rfl) ?_
    refine lv_iload hx hb dL_law_369 (lv_at hl 0 rfl) ?_
    refine lv_iconst (v := 1) hx hb dL_law_371 (by decide) ?_
    refine lv_iadd hx hb dL_law_372 ?_
    refine tw_cv (v := (1 : Int32)) (by decide) ?_
    refine va_sld hx hb hX hbl hbA h2.1.2.2 (tw_ix (j := 1) (by decide) (by decide)).1 dL_law_373 ?_
    refine tw_cv (v := xs 1) rfl ?_
    refine lv_aload_n hx hb dL_law_374 rfl (lv_at hl 4 rfl) ?_
    refine lv_iload hx hb dL_law_375 (lv_at hl 0 rfl) ?_
    refine lv_iconst (v := 2) hx hb dL_law_377 (by decide) ?_
    refine lv_iadd hx hb dL_law_378 ?_
    refine tw_cv (v := (2 : Int32)) (by decide) ?_
    refine va_sld hx hb hX hbl hbA h2.1.2.2 (tw_ix (j := 2) (by decide) (by decide)).1 dL_law_379 ?_
    refine tw_cv (v := xs 2) rfl ?_
    refine tw_calli_2 F h2 (tw_runV (r := 0) (As := [.int (xs 1), .int (xs 2)]) (rest := [.int (5 : Int32)]) F h2.2.1 (c_X12_set l G ad2 w2 H.size (xs 1) ((xs 1).toInt) rfl (xs 2) ((xs 2).toInt) rfl k2_0 k2_5) (tw_gl kw_1379 rfl) km_X12_set kv_X12_set rfl rfl ⟨(Nat.le_of_ble_eq_true rfl), (Nat.le_of_ble_eq_true rfl)⟩ (by decide) k2_0 rfl rfl hl.1 rfl (Nat.le_of_ble_eq_true rfl) dL_law_380 ⟨(Nat.le_of_ble_eq_true rfl), (Nat.le_of_ble_eq_true rfl)⟩) (fun r37 wv38 H locs hp39 h2 => ?_)
    rcases hp39 with ⟨rfl, hc40⟩ | ⟨rfl, hc41⟩ | ⟨rfl, hc42⟩ | ⟨rfl, hc43⟩ | ⟨rfl, hc44⟩ | ⟨rfl, hc45⟩ | ⟨rfl, hc46⟩ | ⟨rfl, hc47⟩ | ⟨rfl, hc48⟩
    · exfalso; omega
    · exfalso; omega
    · skip
      refine lv_icmp_eq (tgt := 1975) hx hb dL_law_383 (by decide) (fun _ => ?_) (fun c => absurd c (by decide))
      exact law_tail F hr hlk hX hbl h2.1.2.2 (Nat.le_of_ble_eq_true rfl) (Nat.le_of_ble_eq_true rfl) (lv_sub hl [0, 1, 2, 3, 4] rfl)
    · exfalso; omega
    · exfalso; omega
    · exfalso; omega
    · exfalso; omega
    · exfalso; omega
    · exfalso; omega
  · skip
    refine lv_aload_n hx hb dL_law_367 rfl (lv_at hl 2 rfl) ?_
    refine lv_aload_n hx hb dL_law_368 rfl (lv_at hl 4 rfl) ?_
    refine lv_iload hx hb dL_law_369 (lv_at hl 0 rfl) ?_
    refine lv_iconst (v := 1) hx hb dL_law_371 (by decide) ?_
    refine lv_iadd hx hb dL_law_372 ?_
    refine tw_cv (v := (1 : Int32)) (by decide) ?_
    refine va_sld hx hb hX hbl hbA h2.1.2.2 (tw_ix (j := 1) (by decide) (by decide)).1 dL_law_373 ?_
    refine tw_cv (v := xs 1) rfl ?_
    refine lv_aload_n hx hb dL_law_374 rfl (lv_at hl 4 rfl) ?_
    refine lv_iload hx hb dL_law_375 (lv_at hl 0 rfl) ?_
    refine lv_iconst (v := 2) hx hb dL_law_377 (by decide) ?_
    refine lv_iadd hx hb dL_law_378 ?_
    refine tw_cv (v := (2 : Int32)) (by decide) ?_
    refine va_sld hx hb hX hbl hbA h2.1.2.2 (tw_ix (j := 2) (by decide) (by decide)).1 dL_law_379 ?_
    refine tw_cv (v := xs 2) rfl ?_
    refine tw_calli_2 F h2 (tw_runV (r := 0) (As := [.int (xs 1), .int (xs 2)]) (rest := [.int (200 : Int32)]) F h2.2.1 (c_X12_set l G ad2 w2 H.size (xs 1) ((xs 1).toInt) rfl (xs 2) ((xs 2).toInt) rfl k2_0 k2_5) (tw_gl kw_1379 rfl) km_X12_set kv_X12_set rfl rfl ⟨(Nat.le_of_ble_eq_true rfl), (Nat.le_of_ble_eq_true rfl)⟩ (by decide) k2_0 rfl rfl hl.1 rfl (Nat.le_of_ble_eq_true rfl) dL_law_380 ⟨(Nat.le_of_ble_eq_true rfl), (Nat.le_of_ble_eq_true rfl)⟩) (fun r49 wv50 H locs hp51 h2 => ?_)
    rcases hp51 with ⟨rfl, hc52⟩ | ⟨rfl, hc53⟩ | ⟨rfl, hc54⟩ | ⟨rfl, hc55⟩ | ⟨rfl, hc56⟩ | ⟨rfl, hc57⟩ | ⟨rfl, hc58⟩ | ⟨rfl, hc59⟩ | ⟨rfl, hc60⟩
    · exfalso; omega
    · exfalso; omega
    · exfalso; omega
    · skip
      refine lv_icmp_eq (tgt := 1975) hx hb dL_law_383 (by decide) (fun _ => ?_) (fun c => absurd c (by decide))
      exact law_tail F hr hlk hX hbl h2.1.2.2 (Nat.le_of_ble_eq_true rfl) (Nat.le_of_ble_eq_true rfl) (lv_sub hl [0, 1, 2, 3, 4] rfl)
    · exfalso; omega
    · exfalso; omega
    · exfalso; omega
    · exfalso; omega
    · exfalso; omega
  · skip
    refine lv_aload_n hx hb dL_law_367 rfl (lv_at hl 2 rfl) ?_
    refine lv_aload_n hx hb dL_law_368 rfl (lv_at hl 4 rfl) ?_
    refine lv_iload hx hb dL_law_369 (lv_at hl 0 rfl) ?_
    refine lv_iconst (v := 1) hx hb dL_law_371 (by decide) ?_
    refine lv_iadd hx hb dL_law_372 ?_
    refine tw_cv (v := (1 : Int32)) (by decide) ?_
    refine va_sld hx hb hX hbl hbA h2.1.2.2 (tw_ix (j := 1) (by decide) (by decide)).1 dL_law_373 ?_
    refine tw_cv (v := xs 1) rfl ?_
    refine lv_aload_n hx hb dL_law_374 rfl (lv_at hl 4 rfl) ?_
    refine lv_iload hx hb dL_law_375 (lv_at hl 0 rfl) ?_
    refine lv_iconst (v := 2) hx hb dL_law_377 (by decide) ?_
    refine lv_iadd hx hb dL_law_378 ?_
    refine tw_cv (v := (2 : Int32)) (by decide) ?_
    refine va_sld hx hb hX hbl hbA h2.1.2.2 (tw_ix (j := 2) (by decide) (by decide)).1 dL_law_379 ?_
    refine tw_cv (v := xs 2) rfl ?_
    refine tw_calli_2 F h2 (tw_runV (r := 0) (As := [.int (xs 1), .int (xs 2)]) (rest := [.int (15000 : Int32)]) F h2.2.1 (c_X12_set l G ad2 w2 H.size (xs 1) ((xs 1).toInt) rfl (xs 2) ((xs 2).toInt) rfl k2_0 k2_5) (tw_gl kw_1379 rfl) km_X12_set kv_X12_set rfl rfl ⟨(Nat.le_of_ble_eq_true rfl), (Nat.le_of_ble_eq_true rfl)⟩ (by decide) k2_0 rfl rfl hl.1 rfl (Nat.le_of_ble_eq_true rfl) dL_law_380 ⟨(Nat.le_of_ble_eq_true rfl), (Nat.le_of_ble_eq_true rfl)⟩) (fun r61 wv62 H locs hp63 h2 => ?_)
    rcases hp63 with ⟨rfl, hc64⟩ | ⟨rfl, hc65⟩ | ⟨rfl, hc66⟩ | ⟨rfl, hc67⟩ | ⟨rfl, hc68⟩ | ⟨rfl, hc69⟩ | ⟨rfl, hc70⟩ | ⟨rfl, hc71⟩ | ⟨rfl, hc72⟩
    · exfalso; omega
    · exfalso; omega
    · exfalso; omega
    · exfalso; omega
    · skip
      refine lv_icmp_eq (tgt := 1975) hx hb dL_law_383 (by decide) (fun _ => ?_) (fun c => absurd c (by decide))
      exact law_tail F hr hlk hX hbl h2.1.2.2 (Nat.le_of_ble_eq_true rfl) (Nat.le_of_ble_eq_true rfl) (lv_sub hl [0, 1, 2, 3, 4] rfl)
    · exfalso; omega
    · exfalso; omega
    · exfalso; omega
    · exfalso; omega
  · skip
    refine lv_aload_n hx hb dL_law_367 rfl (lv_at hl 2 rfl) ?_
    refine lv_aload_n hx hb dL_law_368 rfl (lv_at hl 4 rfl) ?_
    refine lv_iload hx hb dL_law_369 (lv_at hl 0 rfl) ?_
    refine lv_iconst (v := 1) hx hb dL_law_371 (by decide) ?_
    refine lv_iadd hx hb dL_law_372 ?_
    refine tw_cv (v := (1 : Int32)) (by decide) ?_
    refine va_sld hx hb hX hbl hbA h2.1.2.2 (tw_ix (j := 1) (by decide) (by decide)).1 dL_law_373 ?_
    refine tw_cv (v := xs 1) rfl ?_
    refine lv_aload_n hx hb dL_law_374 rfl (lv_at hl 4 rfl) ?_
    refine lv_iload hx hb dL_law_375 (lv_at hl 0 rfl) ?_
    refine lv_iconst (v := 2) hx hb dL_law_377 (by decide) ?_
    refine lv_iadd hx hb dL_law_378 ?_
    refine tw_cv (v := (2 : Int32)) (by decide) ?_
    refine va_sld hx hb hX hbl hbA h2.1.2.2 (tw_ix (j := 2) (by decide) (by decide)).1 dL_law_379 ?_
    refine tw_cv (v := xs 2) rfl ?_
    refine tw_calli_2 F h2 (tw_runV (r := 0) (As := [.int (xs 1), .int (xs 2)]) (rest := [.int (3000 : Int32)]) F h2.2.1 (c_X12_set l G ad2 w2 H.size (xs 1) ((xs 1).toInt) rfl (xs 2) ((xs 2).toInt) rfl k2_0 k2_5) (tw_gl kw_1379 rfl) km_X12_set kv_X12_set rfl rfl ⟨(Nat.le_of_ble_eq_true rfl), (Nat.le_of_ble_eq_true rfl)⟩ (by decide) k2_0 rfl rfl hl.1 rfl (Nat.le_of_ble_eq_true rfl) dL_law_380 ⟨(Nat.le_of_ble_eq_true rfl), (Nat.le_of_ble_eq_true rfl)⟩) (fun r73 wv74 H locs hp75 h2 => ?_)
    rcases hp75 with ⟨rfl, hc76⟩ | ⟨rfl, hc77⟩ | ⟨rfl, hc78⟩ | ⟨rfl, hc79⟩ | ⟨rfl, hc80⟩ | ⟨rfl, hc81⟩ | ⟨rfl, hc82⟩ | ⟨rfl, hc83⟩ | ⟨rfl, hc84⟩
    · exfalso; omega
    · exfalso; omega
    · exfalso; omega
    · exfalso; omega
    · exfalso; omega
    · skip
      refine lv_icmp_eq (tgt := 1975) hx hb dL_law_383 (by decide) (fun _ => ?_) (fun c => absurd c (by decide))
      exact law_tail F hr hlk hX hbl h2.1.2.2 (Nat.le_of_ble_eq_true rfl) (Nat.le_of_ble_eq_true rfl) (lv_sub hl [0, 1, 2, 3, 4] rfl)
    · exfalso; omega
    · exfalso; omega
    · exfalso; omega
  · skip
    refine lv_aload_n hx hb dL_law_367 rfl (lv_at hl 2 rfl) ?_
    refine lv_aload_n hx hb dL_law_368 rfl (lv_at hl 4 rfl) ?_
    refine lv_iload hx hb dL_law_369 (lv_at hl 0 rfl) ?_
    refine lv_iconst (v := 1) hx hb dL_law_371 (by decide) ?_
    refine lv_iadd hx hb dL_law_372 ?_
    refine tw_cv (v := (1 : Int32)) (by decide) ?_
    refine va_sld hx hb hX hbl hbA h2.1.2.2 (tw_ix (j := 1) (by decide) (by decide)).1 dL_law_373 ?_
    refine tw_cv (v := xs 1) rfl ?_
    refine lv_aload_n hx hb dL_law_374 rfl (lv_at hl 4 rfl) ?_
    refine lv_iload hx hb dL_law_375 (lv_at hl 0 rfl) ?_
    refine lv_iconst (v := 2) hx hb dL_law_377 (by decide) ?_
    refine lv_iadd hx hb dL_law_378 ?_
    refine tw_cv (v := (2 : Int32)) (by decide) ?_
    refine va_sld hx hb hX hbl hbA h2.1.2.2 (tw_ix (j := 2) (by decide) (by decide)).1 dL_law_379 ?_
    refine tw_cv (v := xs 2) rfl ?_
    refine tw_calli_2 F h2 (tw_runV (r := 0) (As := [.int (xs 1), .int (xs 2)]) (rest := [.int (50 : Int32)]) F h2.2.1 (c_X12_set l G ad2 w2 H.size (xs 1) ((xs 1).toInt) rfl (xs 2) ((xs 2).toInt) rfl k2_0 k2_5) (tw_gl kw_1379 rfl) km_X12_set kv_X12_set rfl rfl ⟨(Nat.le_of_ble_eq_true rfl), (Nat.le_of_ble_eq_true rfl)⟩ (by decide) k2_0 rfl rfl hl.1 rfl (Nat.le_of_ble_eq_true rfl) dL_law_380 ⟨(Nat.le_of_ble_eq_true rfl), (Nat.le_of_ble_eq_true rfl)⟩) (fun r85 wv86 H locs hp87 h2 => ?_)
    rcases hp87 with ⟨rfl, hc88⟩ | ⟨rfl, hc89⟩ | ⟨rfl, hc90⟩ | ⟨rfl, hc91⟩ | ⟨rfl, hc92⟩ | ⟨rfl, hc93⟩ | ⟨rfl, hc94⟩ | ⟨rfl, hc95⟩ | ⟨rfl, hc96⟩
    · exfalso; omega
    · exfalso; omega
    · exfalso; omega
    · exfalso; omega
    · exfalso; omega
    · exfalso; omega
    · skip
      refine lv_icmp_eq (tgt := 1975) hx hb dL_law_383 (by decide) (fun _ => ?_) (fun c => absurd c (by decide))
      exact law_tail F hr hlk hX hbl h2.1.2.2 (Nat.le_of_ble_eq_true rfl) (Nat.le_of_ble_eq_true rfl) (lv_sub hl [0, 1, 2, 3, 4] rfl)
    · exfalso; omega
    · exfalso; omega
  · skip
    refine lv_aload_n hx hb dL_law_367 rfl (lv_at hl 2 rfl) ?_
    refine lv_aload_n hx hb dL_law_368 rfl (lv_at hl 4 rfl) ?_
    refine lv_iload hx hb dL_law_369 (lv_at hl 0 rfl) ?_
    refine lv_iconst (v := 1) hx hb dL_law_371 (by decide) ?_
    refine lv_iadd hx hb dL_law_372 ?_
    refine tw_cv (v := (1 : Int32)) (by decide) ?_
    refine va_sld hx hb hX hbl hbA h2.1.2.2 (tw_ix (j := 1) (by decide) (by decide)).1 dL_law_373 ?_
    refine tw_cv (v := xs 1) rfl ?_
    refine lv_aload_n hx hb dL_law_374 rfl (lv_at hl 4 rfl) ?_
    refine lv_iload hx hb dL_law_375 (lv_at hl 0 rfl) ?_
    refine lv_iconst (v := 2) hx hb dL_law_377 (by decide) ?_
    refine lv_iadd hx hb dL_law_378 ?_
    refine tw_cv (v := (2 : Int32)) (by decide) ?_
    refine va_sld hx hb hX hbl hbA h2.1.2.2 (tw_ix (j := 2) (by decide) (by decide)).1 dL_law_379 ?_
    refine tw_cv (v := xs 2) rfl ?_
    refine tw_calli_2 F h2 (tw_runV (r := 0) (As := [.int (xs 1), .int (xs 2)]) (rest := [.int (300 : Int32)]) F h2.2.1 (c_X12_set l G ad2 w2 H.size (xs 1) ((xs 1).toInt) rfl (xs 2) ((xs 2).toInt) rfl k2_0 k2_5) (tw_gl kw_1379 rfl) km_X12_set kv_X12_set rfl rfl ⟨(Nat.le_of_ble_eq_true rfl), (Nat.le_of_ble_eq_true rfl)⟩ (by decide) k2_0 rfl rfl hl.1 rfl (Nat.le_of_ble_eq_true rfl) dL_law_380 ⟨(Nat.le_of_ble_eq_true rfl), (Nat.le_of_ble_eq_true rfl)⟩) (fun r97 wv98 H locs hp99 h2 => ?_)
    rcases hp99 with ⟨rfl, hc100⟩ | ⟨rfl, hc101⟩ | ⟨rfl, hc102⟩ | ⟨rfl, hc103⟩ | ⟨rfl, hc104⟩ | ⟨rfl, hc105⟩ | ⟨rfl, hc106⟩ | ⟨rfl, hc107⟩ | ⟨rfl, hc108⟩
    · exfalso; omega
    · skip
      refine lv_icmp_eq (tgt := 1975) hx hb dL_law_383 (by decide) (fun _ => ?_) (fun c => absurd c (by decide))
      exact law_tail F hr hlk hX hbl h2.1.2.2 (Nat.le_of_ble_eq_true rfl) (Nat.le_of_ble_eq_true rfl) (lv_sub hl [0, 1, 2, 3, 4] rfl)
    · exfalso; omega
    · exfalso; omega
    · exfalso; omega
    · exfalso; omega
    · exfalso; omega
    · exfalso; omega
    · exfalso; omega
  · skip
    refine lv_aload_n hx hb dL_law_367 rfl (lv_at hl 2 rfl) ?_
    refine lv_aload_n hx hb dL_law_368 rfl (lv_at hl 4 rfl) ?_
    refine lv_iload hx hb dL_law_369 (lv_at hl 0 rfl) ?_
    refine lv_iconst (v := 1) hx hb dL_law_371 (by decide) ?_
    refine lv_iadd hx hb dL_law_372 ?_
    refine tw_cv (v := (1 : Int32)) (by decide) ?_
    refine va_sld hx hb hX hbl hbA h2.1.2.2 (tw_ix (j := 1) (by decide) (by decide)).1 dL_law_373 ?_
    refine tw_cv (v := xs 1) rfl ?_
    refine lv_aload_n hx hb dL_law_374 rfl (lv_at hl 4 rfl) ?_
    refine lv_iload hx hb dL_law_375 (lv_at hl 0 rfl) ?_
    refine lv_iconst (v := 2) hx hb dL_law_377 (by decide) ?_
    refine lv_iadd hx hb dL_law_378 ?_
    refine tw_cv (v := (2 : Int32)) (by decide) ?_
    refine va_sld hx hb hX hbl hbA h2.1.2.2 (tw_ix (j := 2) (by decide) (by decide)).1 dL_law_379 ?_
    refine tw_cv (v := xs 2) rfl ?_
    refine tw_calli_2 F h2 (tw_runV (r := 0) (As := [.int (xs 1), .int (xs 2)]) (rest := [.int (0 : Int32)]) F h2.2.1 (c_X12_set l G ad2 w2 H.size (xs 1) ((xs 1).toInt) rfl (xs 2) ((xs 2).toInt) rfl k2_0 k2_5) (tw_gl kw_1379 rfl) km_X12_set kv_X12_set rfl rfl ⟨(Nat.le_of_ble_eq_true rfl), (Nat.le_of_ble_eq_true rfl)⟩ (by decide) k2_0 rfl rfl hl.1 rfl (Nat.le_of_ble_eq_true rfl) dL_law_380 ⟨(Nat.le_of_ble_eq_true rfl), (Nat.le_of_ble_eq_true rfl)⟩) (fun r109 wv110 H locs hp111 h2 => ?_)
    rcases hp111 with ⟨rfl, hc112⟩ | ⟨rfl, hc113⟩ | ⟨rfl, hc114⟩ | ⟨rfl, hc115⟩ | ⟨rfl, hc116⟩ | ⟨rfl, hc117⟩ | ⟨rfl, hc118⟩ | ⟨rfl, hc119⟩ | ⟨rfl, hc120⟩
    · exfalso; omega
    · exfalso; omega
    · exfalso; omega
    · exfalso; omega
    · exfalso; omega
    · exfalso; omega
    · exfalso; omega
    · skip
      refine lv_icmp_eq (tgt := 1975) hx hb dL_law_383 (by decide) (fun _ => ?_) (fun c => absurd c (by decide))
      exact law_tail F hr hlk hX hbl h2.1.2.2 (Nat.le_of_ble_eq_true rfl) (Nat.le_of_ble_eq_true rfl) (lv_sub hl [0, 1, 2, 3, 4] rfl)
    · exfalso; omega
set_option maxHeartbeats 4000000 in
set_option maxRecDepth 100000 in
theorem law_case_4 {p : Program} {l : Launch} {e : Env} {s : State} {m : MethodId} {below : List Frame} {meth : Method} {c : Code} {G : tw_G} {b : Nat} {xs : Nat → Int32} (hst : l.stackTraces = false) (F : tw_F p m c code 7 s #[Value.ref b] RL G (fun q => s.heap.size ≤ q)) (hr : meth.sig.returnType = ret) (hlk : meth.locks = false) (hX : va_X b 7 xs s s.heap) (hbl : b < s.heap.size) {ad1 ad2 : Nat → Nat} {w1 w2 : Nat → va_E} {ao : Nat} (k1_0 : w1 0 = .inr (11, [.ref (ad1 4), .ref (ad1 14), .ref (ad1 156), .ref (ad1 221), .ref (ad1 225), .ref (ad1 233), .ref (ad1 236), .int (0 : Int32), .ref (ad1 237), .int (0 : Int32), .ref (ad1 238)])) (k1_4 : w1 4 = .inr (9, [.int (2 : Int32), .int (1 : Int32), .ref (ad1 5), .ref (ad1 6), .ref (ad1 7), .ref (ad1 8), .ref (ad1 9), .ref (ad1 10), .ref (ad1 12)])) (k1_14 : w1 14 = .inr (2, [.ref (ad1 4), .ref (ad1 1), .ref (ad1 15), .ref (ad1 16), .ref (ad1 17), .int (0 : Int32), .int (0 : Int32), .int (0 : Int32)])) (k1_10 : w1 10 = .inr (7, [.int (30 : Int32), .int (3 : Int32), .ref (ad1 11), .int (0 : Int32)])) (k1_11 : w1 11 = .inl (G.2.1 0, 90, .inl (fun _ => 0))) (k2_0 : w2 0 = .inr (12, [.int (0 : Int32), .int (2 : Int32), .int (1 : Int32), .ref (ad2 1), .ref (ad2 2), .ref (ad2 3), .ref (ad2 4), .ref (ad2 5), .int (0 : Int32), .ref (ad2 6), .ref (ad2 7), .ref (ad2 8), .int (0 : Int32), .ref (ad2 9), .ref (ad2 10), .ref (ad2 11), .ref (ad2 12), .int (0 : Int32), .ref (ad2 13), .ref (ad2 14), .ref (ad2 15), .ref (ad2 16), .ref (ad2 17), .ref (ad2 18), .ref (ad2 19), .ref (ad2 20), .ref (ad2 21), .ref (ad2 22), .ref (ad2 23), .ref (ad2 24), .ref (ad2 25), .ref (ad2 26), .ref (ad2 27), .ref (ad2 28), .ref (ad2 29), .ref (ad2 30), .ref (ad2 31), .ref (ad2 32), .ref (ad2 33), .ref (ad2 34), .int (0 : Int32), .int (0 : Int32), .int (0 : Int32), .ref (G.2.2 (100 + 10)), .ref (ad2 35), .ref (ad2 36), .ref (ad2 37), .int (0 : Int32), .ref (ad2 38), .ref (ad2 39), .ref (ad2 40), .ref (ad2 41), .ref (ad2 42), .ref (ad2 43), .ref (ad2 44), .ref (ad2 45), .ref (ad2 46), .ref (ad2 47), .ref (ad2 48), .ref (ad2 49), .ref (ad2 50), .ref (ad2 51), .ref (ad2 52), .ref (ad2 53), .ref (ad2 54), .ref (ad2 55), .ref (ad2 56), .ref (ad2 57), .ref (ad2 58), .ref (ad2 59), .int (0 : Int32), .ref (ad2 60), .int (0 : Int32), .ref (ad2 61), .ref (ad2 62), .int (0 : Int32), .ref (ad2 63), .ref (ad2 64), .ref (ad2 65), .ref (ad2 66), .ref (ad2 67), .ref (ad2 68), .int (0 : Int32), .ref (ad2 69), .ref (ad2 70), .ref (ad2 71), .ref (ad2 72), .ref (ad2 73), .int (0 : Int32), .int (0 : Int32), .int (0 : Int32), .ref (ad2 74), .ref (ad2 75), .ref (ad2 76), .ref (ad2 77), .ref (ad2 78), .ref (ad2 79)])) (k2_6 : w2 6 = .inl (G.2.1 0, 30, .inl (fun _ => 0))) (k2_7 : w2 7 = .inl (G.2.1 0, 30, .inl (fun _ => 0))) (k2_8 : w2 8 = .inl (G.2.1 0, 30, .inl (fun _ => 0))) {H : Heap} {locs : List Loc} (h2 : tw_2 G 244 ad1 w1 80 ad2 w2 (fun q => s.heap.size ≤ q) s H locs) {ls : Array Slot} (hl : lv_has ls 7 [(4, .int (0 : Int32)), (3, .ref ao), (2, .ref (ad2 0)), (1, .ref (ad1 0)), (0, .ref b)]) {cells slots : Nat} (h3 : cells ≤ 1000) (h4 : slots ≤ 20000) : W p l e room_1 s m #[Value.ref b] below meth c H locs cells slots (lw_Z below #[Value.ref b] s) (F0 m 388 ls []) := by
  refine W.widen (k := 1000) (n := 20000) h3 h4 ?_
  have hx := F.1.1
  have hb := F.1.2.1
  have hbA : ¬ (fun q : Nat => s.heap.size ≤ q) b := Nat.not_le.mpr hbl
  refine lv_aload_n hx hb dL_law_388 rfl (lv_at hl 3 rfl) ?_
  refine lv_aload_n hx hb dL_law_389 rfl (lv_at hl 4 rfl) ?_
  refine lv_iload hx hb dL_law_390 (lv_at hl 0 rfl) ?_
  refine lv_iconst (v := 1) hx hb dL_law_392 (by decide) ?_
  refine lv_iadd hx hb dL_law_393 ?_
  refine tw_cv (v := (1 : Int32)) (by decide) ?_
  refine va_sld hx hb hX hbl hbA h2.1.2.2 (tw_ix (j := 1) (by decide) (by decide)).1 dL_law_394 ?_
  refine tw_cv (v := xs 1) rfl ?_
  refine lv_aload_n hx hb dL_law_395 rfl (lv_at hl 4 rfl) ?_
  refine lv_iload hx hb dL_law_396 (lv_at hl 0 rfl) ?_
  refine lv_iconst (v := 2) hx hb dL_law_398 (by decide) ?_
  refine lv_iadd hx hb dL_law_399 ?_
  refine tw_cv (v := (2 : Int32)) (by decide) ?_
  refine va_sld hx hb hX hbl hbA h2.1.2.2 (tw_ix (j := 2) (by decide) (by decide)).1 dL_law_400 ?_
  refine tw_cv (v := xs 2) rfl ?_
  refine lv_aload_n hx hb dL_law_401 rfl (lv_at hl 4 rfl) ?_
  refine lv_iload hx hb dL_law_402 (lv_at hl 0 rfl) ?_
  refine lv_iconst (v := 3) hx hb dL_law_404 (by decide) ?_
  refine lv_iadd hx hb dL_law_405 ?_
  refine tw_cv (v := (3 : Int32)) (by decide) ?_
  refine va_sld hx hb hX hbl hbA h2.1.2.2 (tw_ix (j := 3) (by decide) (by decide)).1 dL_law_406 ?_
  refine tw_cv (v := xs 3) rfl ?_
  refine tw_calli_1 F h2 (tw_runV (r := 0) (As := [.int (xs 1), .int (xs 2), .int (xs 3)]) (rest := []) F h2.1 (c_X11_rain l G ad1 w1 H.size (xs 1) ((xs 1).toInt) rfl (xs 2) ((xs 2).toInt) rfl (xs 3) ((xs 3).toInt) rfl k1_0 k1_4 k1_14 k1_10 k1_11) (tw_gl kw_587 rfl) km_X11_rain kv_X11_rain rfl rfl ⟨(Nat.le_of_ble_eq_true rfl), (Nat.le_of_ble_eq_true rfl)⟩ (by decide) k1_0 rfl rfl hl.1 rfl (Nat.le_of_ble_eq_true rfl) dL_law_407 ⟨(Nat.le_of_ble_eq_true rfl), (Nat.le_of_ble_eq_true rfl)⟩) (fun r1 wv2 H locs hp3 h2 => ?_)
  rcases hp3 with ⟨rfl, hc4⟩ | ⟨rfl, hc5⟩
  · skip
    refine lv_aload_n hx hb dL_law_410 rfl (lv_at hl 2 rfl) ?_
    refine lv_aload_n hx hb dL_law_411 rfl (lv_at hl 4 rfl) ?_
    refine lv_iload hx hb dL_law_412 (lv_at hl 0 rfl) ?_
    refine lv_iconst (v := 1) hx hb dL_law_414 (by decide) ?_
    refine lv_iadd hx hb dL_law_415 ?_
    refine tw_cv (v := (1 : Int32)) (by decide) ?_
    refine va_sld hx hb hX hbl hbA h2.1.2.2 (tw_ix (j := 1) (by decide) (by decide)).1 dL_law_416 ?_
    refine tw_cv (v := xs 1) rfl ?_
    refine lv_aload_n hx hb dL_law_417 rfl (lv_at hl 4 rfl) ?_
    refine lv_iload hx hb dL_law_418 (lv_at hl 0 rfl) ?_
    refine lv_iconst (v := 2) hx hb dL_law_420 (by decide) ?_
    refine lv_iadd hx hb dL_law_421 ?_
    refine tw_cv (v := (2 : Int32)) (by decide) ?_
    refine va_sld hx hb hX hbl hbA h2.1.2.2 (tw_ix (j := 2) (by decide) (by decide)).1 dL_law_422 ?_
    refine tw_cv (v := xs 2) rfl ?_
    refine lv_aload_n hx hb dL_law_423 rfl (lv_at hl 4 rfl) ?_
    refine lv_iload hx hb dL_law_424 (lv_at hl 0 rfl) ?_
    refine lv_iconst (v := 3) hx hb dL_law_426 (by decide) ?_
    refine lv_iadd hx hb dL_law_427 ?_
    refine tw_cv (v := (3 : Int32)) (by decide) ?_
    refine va_sld hx hb hX hbl hbA h2.1.2.2 (tw_ix (j := 3) (by decide) (by decide)).1 dL_law_428 ?_
    refine tw_cv (v := xs 3) rfl ?_
    refine tw_calli_2 F h2 (tw_runV (r := 0) (As := [.int (xs 1), .int (xs 2), .int (xs 3)]) (rest := [.int (-1 : Int32)]) F h2.2.1 (c_X12_rain l G ad2 w2 H.size (xs 1) ((xs 1).toInt) rfl (xs 2) ((xs 2).toInt) rfl (xs 3) ((xs 3).toInt) rfl k2_0 k2_6 k2_7 k2_8) (tw_gl kw_1389 rfl) km_X12_rain kv_X12_rain rfl rfl ⟨(Nat.le_of_ble_eq_true rfl), (Nat.le_of_ble_eq_true rfl)⟩ (by decide) k2_0 rfl rfl hl.1 rfl (Nat.le_of_ble_eq_true rfl) dL_law_429 ⟨(Nat.le_of_ble_eq_true rfl), (Nat.le_of_ble_eq_true rfl)⟩) (fun r6 wv7 H locs hp8 h2 => ?_)
    rcases hp8 with ⟨rfl, hc9⟩ | ⟨rfl, hc10⟩
    · skip
      refine lv_icmp_eq (tgt := 1975) hx hb dL_law_432 (by decide) (fun _ => ?_) (fun c => absurd c (by decide))
      exact law_tail F hr hlk hX hbl h2.1.2.2 (Nat.le_of_ble_eq_true rfl) (Nat.le_of_ble_eq_true rfl) (lv_sub hl [0, 1, 2, 3, 4] rfl)
    · exfalso; omega
  · skip
    refine lv_aload_n hx hb dL_law_410 rfl (lv_at hl 2 rfl) ?_
    refine lv_aload_n hx hb dL_law_411 rfl (lv_at hl 4 rfl) ?_
    refine lv_iload hx hb dL_law_412 (lv_at hl 0 rfl) ?_
    refine lv_iconst (v := 1) hx hb dL_law_414 (by decide) ?_
    refine lv_iadd hx hb dL_law_415 ?_
    refine tw_cv (v := (1 : Int32)) (by decide) ?_
    refine va_sld hx hb hX hbl hbA h2.1.2.2 (tw_ix (j := 1) (by decide) (by decide)).1 dL_law_416 ?_
    refine tw_cv (v := xs 1) rfl ?_
    refine lv_aload_n hx hb dL_law_417 rfl (lv_at hl 4 rfl) ?_
    refine lv_iload hx hb dL_law_418 (lv_at hl 0 rfl) ?_
    refine lv_iconst (v := 2) hx hb dL_law_420 (by decide) ?_
    refine lv_iadd hx hb dL_law_421 ?_
    refine tw_cv (v := (2 : Int32)) (by decide) ?_
    refine va_sld hx hb hX hbl hbA h2.1.2.2 (tw_ix (j := 2) (by decide) (by decide)).1 dL_law_422 ?_
    refine tw_cv (v := xs 2) rfl ?_
    refine lv_aload_n hx hb dL_law_423 rfl (lv_at hl 4 rfl) ?_
    refine lv_iload hx hb dL_law_424 (lv_at hl 0 rfl) ?_
    refine lv_iconst (v := 3) hx hb dL_law_426 (by decide) ?_
    refine lv_iadd hx hb dL_law_427 ?_
    refine tw_cv (v := (3 : Int32)) (by decide) ?_
    refine va_sld hx hb hX hbl hbA h2.1.2.2 (tw_ix (j := 3) (by decide) (by decide)).1 dL_law_428 ?_
    refine tw_cv (v := xs 3) rfl ?_
    refine tw_calli_2 F h2 (tw_runV (r := 0) (As := [.int (xs 1), .int (xs 2), .int (xs 3)]) (rest := [.int (1 : Int32)]) F h2.2.1 (c_X12_rain l G ad2 w2 H.size (xs 1) ((xs 1).toInt) rfl (xs 2) ((xs 2).toInt) rfl (xs 3) ((xs 3).toInt) rfl k2_0 k2_6 k2_7 k2_8) (tw_gl kw_1389 rfl) km_X12_rain kv_X12_rain rfl rfl ⟨(Nat.le_of_ble_eq_true rfl), (Nat.le_of_ble_eq_true rfl)⟩ (by decide) k2_0 rfl rfl hl.1 rfl (Nat.le_of_ble_eq_true rfl) dL_law_429 ⟨(Nat.le_of_ble_eq_true rfl), (Nat.le_of_ble_eq_true rfl)⟩) (fun r11 wv12 H locs hp13 h2 => ?_)
    rcases hp13 with ⟨rfl, hc14⟩ | ⟨rfl, hc15⟩
    · exfalso; omega
    · skip
      refine lv_icmp_eq (tgt := 1975) hx hb dL_law_432 (by decide) (fun _ => ?_) (fun c => absurd c (by decide))
      exact law_tail F hr hlk hX hbl h2.1.2.2 (Nat.le_of_ble_eq_true rfl) (Nat.le_of_ble_eq_true rfl) (lv_sub hl [0, 1, 2, 3, 4] rfl)
set_option maxHeartbeats 4000000 in
set_option maxRecDepth 100000 in
theorem law_case_5 {p : Program} {l : Launch} {e : Env} {s : State} {m : MethodId} {below : List Frame} {meth : Method} {c : Code} {G : tw_G} {b : Nat} {xs : Nat → Int32} (hst : l.stackTraces = false) (F : tw_F p m c code 7 s #[Value.ref b] RL G (fun q => s.heap.size ≤ q)) (hr : meth.sig.returnType = ret) (hlk : meth.locks = false) (hX : va_X b 7 xs s s.heap) (hbl : b < s.heap.size) {ad1 ad2 : Nat → Nat} {w1 w2 : Nat → va_E} {ao : Nat} (k1_0 : w1 0 = .inr (11, [.ref (ad1 4), .ref (ad1 14), .ref (ad1 156), .ref (ad1 221), .ref (ad1 225), .ref (ad1 233), .ref (ad1 236), .int (0 : Int32), .ref (ad1 237), .int (0 : Int32), .ref (ad1 238)])) (k1_14 : w1 14 = .inr (2, [.ref (ad1 4), .ref (ad1 1), .ref (ad1 15), .ref (ad1 16), .ref (ad1 17), .int (0 : Int32), .int (0 : Int32), .int (0 : Int32)])) (k1_4 : w1 4 = .inr (9, [.int (2 : Int32), .int (1 : Int32), .ref (ad1 5), .ref (ad1 6), .ref (ad1 7), .ref (ad1 8), .ref (ad1 9), .ref (ad1 10), .ref (ad1 12)])) (k1_12 : w1 12 = .inr (7, [.int (20 : Int32), .int (4 : Int32), .ref (ad1 13), .int (0 : Int32)])) (k1_13 : w1 13 = .inl (G.2.1 0, 80, .inl (fun _ => 0))) (k2_0 : w2 0 = .inr (12, [.int (0 : Int32), .int (2 : Int32), .int (1 : Int32), .ref (ad2 1), .ref (ad2 2), .ref (ad2 3), .ref (ad2 4), .ref (ad2 5), .int (0 : Int32), .ref (ad2 6), .ref (ad2 7), .ref (ad2 8), .int (0 : Int32), .ref (ad2 9), .ref (ad2 10), .ref (ad2 11), .ref (ad2 12), .int (0 : Int32), .ref (ad2 13), .ref (ad2 14), .ref (ad2 15), .ref (ad2 16), .ref (ad2 17), .ref (ad2 18), .ref (ad2 19), .ref (ad2 20), .ref (ad2 21), .ref (ad2 22), .ref (ad2 23), .ref (ad2 24), .ref (ad2 25), .ref (ad2 26), .ref (ad2 27), .ref (ad2 28), .ref (ad2 29), .ref (ad2 30), .ref (ad2 31), .ref (ad2 32), .ref (ad2 33), .ref (ad2 34), .int (0 : Int32), .int (0 : Int32), .int (0 : Int32), .ref (G.2.2 (100 + 10)), .ref (ad2 35), .ref (ad2 36), .ref (ad2 37), .int (0 : Int32), .ref (ad2 38), .ref (ad2 39), .ref (ad2 40), .ref (ad2 41), .ref (ad2 42), .ref (ad2 43), .ref (ad2 44), .ref (ad2 45), .ref (ad2 46), .ref (ad2 47), .ref (ad2 48), .ref (ad2 49), .ref (ad2 50), .ref (ad2 51), .ref (ad2 52), .ref (ad2 53), .ref (ad2 54), .ref (ad2 55), .ref (ad2 56), .ref (ad2 57), .ref (ad2 58), .ref (ad2 59), .int (0 : Int32), .ref (ad2 60), .int (0 : Int32), .ref (ad2 61), .ref (ad2 62), .int (0 : Int32), .ref (ad2 63), .ref (ad2 64), .ref (ad2 65), .ref (ad2 66), .ref (ad2 67), .ref (ad2 68), .int (0 : Int32), .ref (ad2 69), .ref (ad2 70), .ref (ad2 71), .ref (ad2 72), .ref (ad2 73), .int (0 : Int32), .int (0 : Int32), .int (0 : Int32), .ref (ad2 74), .ref (ad2 75), .ref (ad2 76), .ref (ad2 77), .ref (ad2 78), .ref (ad2 79)])) (k2_9 : w2 9 = .inl (G.2.1 0, 20, .inl (fun _ => 0))) (k2_10 : w2 10 = .inl (G.2.1 0, 20, .inl (fun _ => 0))) (k2_11 : w2 11 = .inl (G.2.1 0, 20, .inl (fun _ => 0))) (k2_12 : w2 12 = .inl (G.2.1 0, 20, .inl (fun _ => 0))) {H : Heap} {locs : List Loc} (h2 : tw_2 G 244 ad1 w1 80 ad2 w2 (fun q => s.heap.size ≤ q) s H locs) {ls : Array Slot} (hl : lv_has ls 7 [(4, .int (0 : Int32)), (3, .ref ao), (2, .ref (ad2 0)), (1, .ref (ad1 0)), (0, .ref b)]) {cells slots : Nat} (h3 : cells ≤ 1000) (h4 : slots ≤ 20000) : W p l e room_1 s m #[Value.ref b] below meth c H locs cells slots (lw_Z below #[Value.ref b] s) (F0 m 437 ls []) := by
  refine W.widen (k := 1000) (n := 20000) h3 h4 ?_
  have hx := F.1.1
  have hb := F.1.2.1
  have hbA : ¬ (fun q : Nat => s.heap.size ≤ q) b := Nat.not_le.mpr hbl
  refine lv_aload_n hx hb dL_law_437 rfl (lv_at hl 3 rfl) ?_
  refine lv_aload_n hx hb dL_law_438 rfl (lv_at hl 4 rfl) ?_
  refine lv_iload hx hb dL_law_439 (lv_at hl 0 rfl) ?_
  refine lv_iconst (v := 1) hx hb dL_law_441 (by decide) ?_
  refine lv_iadd hx hb dL_law_442 ?_
  refine tw_cv (v := (1 : Int32)) (by decide) ?_
  refine va_sld hx hb hX hbl hbA h2.1.2.2 (tw_ix (j := 1) (by decide) (by decide)).1 dL_law_443 ?_
  refine tw_cv (v := xs 1) rfl ?_
  refine lv_aload_n hx hb dL_law_444 rfl (lv_at hl 4 rfl) ?_
  refine lv_iload hx hb dL_law_445 (lv_at hl 0 rfl) ?_
  refine lv_iconst (v := 2) hx hb dL_law_447 (by decide) ?_
  refine lv_iadd hx hb dL_law_448 ?_
  refine tw_cv (v := (2 : Int32)) (by decide) ?_
  refine va_sld hx hb hX hbl hbA h2.1.2.2 (tw_ix (j := 2) (by decide) (by decide)).1 dL_law_449 ?_
  refine tw_cv (v := xs 2) rfl ?_
  refine lv_aload_n hx hb dL_law_450 rfl (lv_at hl 4 rfl) ?_
  refine lv_iload hx hb dL_law_451 (lv_at hl 0 rfl) ?_
  refine lv_iconst (v := 3) hx hb dL_law_453 (by decide) ?_
  refine lv_iadd hx hb dL_law_454 ?_
  refine tw_cv (v := (3 : Int32)) (by decide) ?_
  refine va_sld hx hb hX hbl hbA h2.1.2.2 (tw_ix (j := 3) (by decide) (by decide)).1 dL_law_455 ?_
  refine tw_cv (v := xs 3) rfl ?_
  refine lv_aload_n hx hb dL_law_456 rfl (lv_at hl 4 rfl) ?_
  refine lv_iload hx hb dL_law_457 (lv_at hl 0 rfl) ?_
  refine lv_iconst (v := 4) hx hb dL_law_459 (by decide) ?_
  refine lv_iadd hx hb dL_law_460 ?_
  refine tw_cv (v := (4 : Int32)) (by decide) ?_
  refine va_sld hx hb hX hbl hbA h2.1.2.2 (tw_ix (j := 4) (by decide) (by decide)).1 dL_law_461 ?_
  refine tw_cv (v := xs 4) rfl ?_
  refine tw_calli_1 F h2 (tw_runV (r := 0) (As := [.int (xs 1), .int (xs 2), .int (xs 3), .int (xs 4)]) (rest := []) F h2.1 (c_X11_flag l G ad1 w1 H.size (xs 1) ((xs 1).toInt) rfl (xs 2) ((xs 2).toInt) rfl (xs 3) ((xs 3).toInt) rfl (xs 4) ((xs 4).toInt) rfl k1_0 k1_14 k1_4 k1_12 k1_13) (tw_gl kw_603 rfl) km_X11_flag kv_X11_flag rfl rfl ⟨(Nat.le_of_ble_eq_true rfl), (Nat.le_of_ble_eq_true rfl)⟩ (by decide) k1_0 rfl rfl hl.1 rfl (Nat.le_of_ble_eq_true rfl) dL_law_462 ⟨(Nat.le_of_ble_eq_true rfl), (Nat.le_of_ble_eq_true rfl)⟩) (fun r1 wv2 H locs hp3 h2 => ?_)
  rcases hp3 with ⟨rfl, hc4⟩ | ⟨rfl, hc5⟩
  · skip
    refine lv_aload_n hx hb dL_law_465 rfl (lv_at hl 2 rfl) ?_
    refine lv_aload_n hx hb dL_law_466 rfl (lv_at hl 4 rfl) ?_
    refine lv_iload hx hb dL_law_467 (lv_at hl 0 rfl) ?_
    refine lv_iconst (v := 1) hx hb dL_law_469 (by decide) ?_
    refine lv_iadd hx hb dL_law_470 ?_
    refine tw_cv (v := (1 : Int32)) (by decide) ?_
    refine va_sld hx hb hX hbl hbA h2.1.2.2 (tw_ix (j := 1) (by decide) (by decide)).1 dL_law_471 ?_
    refine tw_cv (v := xs 1) rfl ?_
    refine lv_aload_n hx hb dL_law_472 rfl (lv_at hl 4 rfl) ?_
    refine lv_iload hx hb dL_law_473 (lv_at hl 0 rfl) ?_
    refine lv_iconst (v := 2) hx hb dL_law_475 (by decide) ?_
    refine lv_iadd hx hb dL_law_476 ?_
    refine tw_cv (v := (2 : Int32)) (by decide) ?_
    refine va_sld hx hb hX hbl hbA h2.1.2.2 (tw_ix (j := 2) (by decide) (by decide)).1 dL_law_477 ?_
    refine tw_cv (v := xs 2) rfl ?_
    refine lv_aload_n hx hb dL_law_478 rfl (lv_at hl 4 rfl) ?_
    refine lv_iload hx hb dL_law_479 (lv_at hl 0 rfl) ?_
    refine lv_iconst (v := 3) hx hb dL_law_481 (by decide) ?_
    refine lv_iadd hx hb dL_law_482 ?_
    refine tw_cv (v := (3 : Int32)) (by decide) ?_
    refine va_sld hx hb hX hbl hbA h2.1.2.2 (tw_ix (j := 3) (by decide) (by decide)).1 dL_law_483 ?_
    refine tw_cv (v := xs 3) rfl ?_
    refine lv_aload_n hx hb dL_law_484 rfl (lv_at hl 4 rfl) ?_
    refine lv_iload hx hb dL_law_485 (lv_at hl 0 rfl) ?_
    refine lv_iconst (v := 4) hx hb dL_law_487 (by decide) ?_
    refine lv_iadd hx hb dL_law_488 ?_
    refine tw_cv (v := (4 : Int32)) (by decide) ?_
    refine va_sld hx hb hX hbl hbA h2.1.2.2 (tw_ix (j := 4) (by decide) (by decide)).1 dL_law_489 ?_
    refine tw_cv (v := xs 4) rfl ?_
    refine tw_calli_2 F h2 (tw_runV (r := 0) (As := [.int (xs 1), .int (xs 2), .int (xs 3), .int (xs 4)]) (rest := [.int (-1 : Int32)]) F h2.2.1 (c_X12_flag l G ad2 w2 H.size (xs 1) ((xs 1).toInt) rfl (xs 2) ((xs 2).toInt) rfl (xs 3) ((xs 3).toInt) rfl (xs 4) ((xs 4).toInt) rfl k2_0 k2_9 k2_10 k2_11 k2_12) (tw_gl kw_1393 rfl) km_X12_flag kv_X12_flag rfl rfl ⟨(Nat.le_of_ble_eq_true rfl), (Nat.le_of_ble_eq_true rfl)⟩ (by decide) k2_0 rfl rfl hl.1 rfl (Nat.le_of_ble_eq_true rfl) dL_law_490 ⟨(Nat.le_of_ble_eq_true rfl), (Nat.le_of_ble_eq_true rfl)⟩) (fun r6 wv7 H locs hp8 h2 => ?_)
    rcases hp8 with ⟨rfl, hc9⟩ | ⟨rfl, hc10⟩
    · skip
      refine lv_icmp_eq (tgt := 1975) hx hb dL_law_493 (by decide) (fun _ => ?_) (fun c => absurd c (by decide))
      exact law_tail F hr hlk hX hbl h2.1.2.2 (Nat.le_of_ble_eq_true rfl) (Nat.le_of_ble_eq_true rfl) (lv_sub hl [0, 1, 2, 3, 4] rfl)
    · exfalso; omega
  · skip
    refine lv_aload_n hx hb dL_law_465 rfl (lv_at hl 2 rfl) ?_
    refine lv_aload_n hx hb dL_law_466 rfl (lv_at hl 4 rfl) ?_
    refine lv_iload hx hb dL_law_467 (lv_at hl 0 rfl) ?_
    refine lv_iconst (v := 1) hx hb dL_law_469 (by decide) ?_
    refine lv_iadd hx hb dL_law_470 ?_
    refine tw_cv (v := (1 : Int32)) (by decide) ?_
    refine va_sld hx hb hX hbl hbA h2.1.2.2 (tw_ix (j := 1) (by decide) (by decide)).1 dL_law_471 ?_
    refine tw_cv (v := xs 1) rfl ?_
    refine lv_aload_n hx hb dL_law_472 rfl (lv_at hl 4 rfl) ?_
    refine lv_iload hx hb dL_law_473 (lv_at hl 0 rfl) ?_
    refine lv_iconst (v := 2) hx hb dL_law_475 (by decide) ?_
    refine lv_iadd hx hb dL_law_476 ?_
    refine tw_cv (v := (2 : Int32)) (by decide) ?_
    refine va_sld hx hb hX hbl hbA h2.1.2.2 (tw_ix (j := 2) (by decide) (by decide)).1 dL_law_477 ?_
    refine tw_cv (v := xs 2) rfl ?_
    refine lv_aload_n hx hb dL_law_478 rfl (lv_at hl 4 rfl) ?_
    refine lv_iload hx hb dL_law_479 (lv_at hl 0 rfl) ?_
    refine lv_iconst (v := 3) hx hb dL_law_481 (by decide) ?_
    refine lv_iadd hx hb dL_law_482 ?_
    refine tw_cv (v := (3 : Int32)) (by decide) ?_
    refine va_sld hx hb hX hbl hbA h2.1.2.2 (tw_ix (j := 3) (by decide) (by decide)).1 dL_law_483 ?_
    refine tw_cv (v := xs 3) rfl ?_
    refine lv_aload_n hx hb dL_law_484 rfl (lv_at hl 4 rfl) ?_
    refine lv_iload hx hb dL_law_485 (lv_at hl 0 rfl) ?_
    refine lv_iconst (v := 4) hx hb dL_law_487 (by decide) ?_
    refine lv_iadd hx hb dL_law_488 ?_
    refine tw_cv (v := (4 : Int32)) (by decide) ?_
    refine va_sld hx hb hX hbl hbA h2.1.2.2 (tw_ix (j := 4) (by decide) (by decide)).1 dL_law_489 ?_
    refine tw_cv (v := xs 4) rfl ?_
    refine tw_calli_2 F h2 (tw_runV (r := 0) (As := [.int (xs 1), .int (xs 2), .int (xs 3), .int (xs 4)]) (rest := [.int (1 : Int32)]) F h2.2.1 (c_X12_flag l G ad2 w2 H.size (xs 1) ((xs 1).toInt) rfl (xs 2) ((xs 2).toInt) rfl (xs 3) ((xs 3).toInt) rfl (xs 4) ((xs 4).toInt) rfl k2_0 k2_9 k2_10 k2_11 k2_12) (tw_gl kw_1393 rfl) km_X12_flag kv_X12_flag rfl rfl ⟨(Nat.le_of_ble_eq_true rfl), (Nat.le_of_ble_eq_true rfl)⟩ (by decide) k2_0 rfl rfl hl.1 rfl (Nat.le_of_ble_eq_true rfl) dL_law_490 ⟨(Nat.le_of_ble_eq_true rfl), (Nat.le_of_ble_eq_true rfl)⟩) (fun r11 wv12 H locs hp13 h2 => ?_)
    rcases hp13 with ⟨rfl, hc14⟩ | ⟨rfl, hc15⟩
    · exfalso; omega
    · skip
      refine lv_icmp_eq (tgt := 1975) hx hb dL_law_493 (by decide) (fun _ => ?_) (fun c => absurd c (by decide))
      exact law_tail F hr hlk hX hbl h2.1.2.2 (Nat.le_of_ble_eq_true rfl) (Nat.le_of_ble_eq_true rfl) (lv_sub hl [0, 1, 2, 3, 4] rfl)
set_option maxHeartbeats 4000000 in
set_option maxRecDepth 100000 in
theorem law_case_6 {p : Program} {l : Launch} {e : Env} {s : State} {m : MethodId} {below : List Frame} {meth : Method} {c : Code} {G : tw_G} {b : Nat} {xs : Nat → Int32} (hst : l.stackTraces = false) (F : tw_F p m c code 7 s #[Value.ref b] RL G (fun q => s.heap.size ≤ q)) (hr : meth.sig.returnType = ret) (hlk : meth.locks = false) (hX : va_X b 7 xs s s.heap) (hbl : b < s.heap.size) {ad1 ad2 : Nat → Nat} {w1 w2 : Nat → va_E} {ao : Nat} (k1_0 : w1 0 = .inr (11, [.ref (ad1 4), .ref (ad1 14), .ref (ad1 156), .ref (ad1 221), .ref (ad1 225), .ref (ad1 233), .ref (ad1 236), .int (0 : Int32), .ref (ad1 237), .int (0 : Int32), .ref (ad1 238)])) (k1_14 : w1 14 = .inr (2, [.ref (ad1 4), .ref (ad1 1), .ref (ad1 15), .ref (ad1 16), .ref (ad1 17), .int (0 : Int32), .int (0 : Int32), .int (0 : Int32)])) (k1_15 : w1 15 = .inl (G.2.1 2, 6, .inr (.inr (.inr (.inr (va_up (va_up (va_up (va_up (va_up (va_up (fun _ => none) 0 (some (ad1 18))) 1 (some (ad1 41))) 2 (some (ad1 64))) 3 (some (ad1 87))) 4 (some (ad1 110))) 5 (some (ad1 133)))))))) (k1_18 : w1 18 = .inr (1, [.int (0 : Int32), .int (0 : Int32), .int (0 : Int32), .int (0 : Int32), .int (0 : Int32), .int (0 : Int32), .ref (ad1 19), .ref (ad1 21), .ref (ad1 23), .ref (ad1 25), .ref (ad1 27), .ref (ad1 29), .int (0 : Int32), .int (0 : Int32)])) (k1_19 : w1 19 = .inr (7, [.int (4 : Int32), .int (2 : Int32), .ref (ad1 20), .int (0 : Int32)])) (k1_21 : w1 21 = .inr (7, [.int (12 : Int32), .int (3 : Int32), .ref (ad1 22), .int (0 : Int32)])) (k1_23 : w1 23 = .inr (7, [.int (5 : Int32), .int (3 : Int32), .ref (ad1 24), .int (0 : Int32)])) (k1_25 : w1 25 = .inr (7, [.int (4 : Int32), .int (2 : Int32), .ref (ad1 26), .int (0 : Int32)])) (k2_0 : w2 0 = .inr (12, [.int (0 : Int32), .int (2 : Int32), .int (1 : Int32), .ref (ad2 1), .ref (ad2 2), .ref (ad2 3), .ref (ad2 4), .ref (ad2 5), .int (0 : Int32), .ref (ad2 6), .ref (ad2 7), .ref (ad2 8), .int (0 : Int32), .ref (ad2 9), .ref (ad2 10), .ref (ad2 11), .ref (ad2 12), .int (0 : Int32), .ref (ad2 13), .ref (ad2 14), .ref (ad2 15), .ref (ad2 16), .ref (ad2 17), .ref (ad2 18), .ref (ad2 19), .ref (ad2 20), .ref (ad2 21), .ref (ad2 22), .ref (ad2 23), .ref (ad2 24), .ref (ad2 25), .ref (ad2 26), .ref (ad2 27), .ref (ad2 28), .ref (ad2 29), .ref (ad2 30), .ref (ad2 31), .ref (ad2 32), .ref (ad2 33), .ref (ad2 34), .int (0 : Int32), .int (0 : Int32), .int (0 : Int32), .ref (G.2.2 (100 + 10)), .ref (ad2 35), .ref (ad2 36), .ref (ad2 37), .int (0 : Int32), .ref (ad2 38), .ref (ad2 39), .ref (ad2 40), .ref (ad2 41), .ref (ad2 42), .ref (ad2 43), .ref (ad2 44), .ref (ad2 45), .ref (ad2 46), .ref (ad2 47), .ref (ad2 48), .ref (ad2 49), .ref (ad2 50), .ref (ad2 51), .ref (ad2 52), .ref (ad2 53), .ref (ad2 54), .ref (ad2 55), .ref (ad2 56), .ref (ad2 57), .ref (ad2 58), .ref (ad2 59), .int (0 : Int32), .ref (ad2 60), .int (0 : Int32), .ref (ad2 61), .ref (ad2 62), .int (0 : Int32), .ref (ad2 63), .ref (ad2 64), .ref (ad2 65), .ref (ad2 66), .ref (ad2 67), .ref (ad2 68), .int (0 : Int32), .ref (ad2 69), .ref (ad2 70), .ref (ad2 71), .ref (ad2 72), .ref (ad2 73), .int (0 : Int32), .int (0 : Int32), .int (0 : Int32), .ref (ad2 74), .ref (ad2 75), .ref (ad2 76), .ref (ad2 77), .ref (ad2 78), .ref (ad2 79)])) (k2_13 : w2 13 = .inl (G.2.1 0, 6, .inl (fun _ => 0))) (k2_14 : w2 14 = .inl (G.2.1 0, 6, .inl (fun _ => 0))) (k2_15 : w2 15 = .inl (G.2.1 0, 6, .inl (fun _ => 0))) (k2_16 : w2 16 = .inl (G.2.1 0, 6, .inl (fun _ => 0))) (k2_17 : w2 17 = .inl (G.2.1 0, 6, .inl (fun _ => 0))) (k2_18 : w2 18 = .inl (G.2.1 0, 6, .inl (fun _ => 0))) (k2_19 : w2 19 = .inl (G.2.1 0, 6, .inl (fun _ => 0))) (k2_22 : w2 22 = .inl (G.2.1 0, 6, .inl (fun _ => 0))) (k2_26 : w2 26 = .inl (G.2.1 0, 6, .inl (fun _ => 0))) (k2_30 : w2 30 = .inl (G.2.1 1, 6, .inl (fun _ => 0))) {H : Heap} {locs : List Loc} (h2 : tw_2 G 244 ad1 w1 80 ad2 w2 (fun q => s.heap.size ≤ q) s H locs) {ls : Array Slot} (hl : lv_has ls 7 [(4, .int (0 : Int32)), (3, .ref ao), (2, .ref (ad2 0)), (1, .ref (ad1 0)), (0, .ref b)]) {cells slots : Nat} (h3 : cells ≤ 1000) (h4 : slots ≤ 20000) : W p l e room_1 s m #[Value.ref b] below meth c H locs cells slots (lw_Z below #[Value.ref b] s) (F0 m 498 ls []) := by
  refine W.widen (k := 1000) (n := 20000) h3 h4 ?_
  have hx := F.1.1
  have hb := F.1.2.1
  have hbA : ¬ (fun q : Nat => s.heap.size ≤ q) b := Nat.not_le.mpr hbl
  refine lv_aload_n hx hb dL_law_498 rfl (lv_at hl 3 rfl) ?_
  refine lv_aload_n hx hb dL_law_499 rfl (lv_at hl 4 rfl) ?_
  refine lv_iload hx hb dL_law_500 (lv_at hl 0 rfl) ?_
  refine lv_iconst (v := 1) hx hb dL_law_502 (by decide) ?_
  refine lv_iadd hx hb dL_law_503 ?_
  refine tw_cv (v := (1 : Int32)) (by decide) ?_
  refine va_sld hx hb hX hbl hbA h2.1.2.2 (tw_ix (j := 1) (by decide) (by decide)).1 dL_law_504 ?_
  refine tw_cv (v := xs 1) rfl ?_
  refine lv_aload_n hx hb dL_law_505 rfl (lv_at hl 4 rfl) ?_
  refine lv_iload hx hb dL_law_506 (lv_at hl 0 rfl) ?_
  refine lv_iconst (v := 2) hx hb dL_law_508 (by decide) ?_
  refine lv_iadd hx hb dL_law_509 ?_
  refine tw_cv (v := (2 : Int32)) (by decide) ?_
  refine va_sld hx hb hX hbl hbA h2.1.2.2 (tw_ix (j := 2) (by decide) (by decide)).1 dL_law_510 ?_
  refine tw_cv (v := xs 2) rfl ?_
  refine lv_aload_n hx hb dL_law_511 rfl (lv_at hl 4 rfl) ?_
  refine lv_iload hx hb dL_law_512 (lv_at hl 0 rfl) ?_
  refine lv_iconst (v := 3) hx hb dL_law_514 (by decide) ?_
  refine lv_iadd hx hb dL_law_515 ?_
  refine tw_cv (v := (3 : Int32)) (by decide) ?_
  refine va_sld hx hb hX hbl hbA h2.1.2.2 (tw_ix (j := 3) (by decide) (by decide)).1 dL_law_516 ?_
  refine tw_cv (v := xs 3) rfl ?_
  refine lv_aload_n hx hb dL_law_517 rfl (lv_at hl 4 rfl) ?_
  refine lv_iload hx hb dL_law_518 (lv_at hl 0 rfl) ?_
  refine lv_iconst (v := 4) hx hb dL_law_520 (by decide) ?_
  refine lv_iadd hx hb dL_law_521 ?_
  refine tw_cv (v := (4 : Int32)) (by decide) ?_
  refine va_sld hx hb hX hbl hbA h2.1.2.2 (tw_ix (j := 4) (by decide) (by decide)).1 dL_law_522 ?_
  refine tw_cv (v := xs 4) rfl ?_
  refine lv_aload_n hx hb dL_law_523 rfl (lv_at hl 4 rfl) ?_
  refine lv_iload hx hb dL_law_524 (lv_at hl 0 rfl) ?_
  refine lv_iconst (v := 5) hx hb dL_law_526 (by decide) ?_
  refine lv_iadd hx hb dL_law_527 ?_
  refine tw_cv (v := (5 : Int32)) (by decide) ?_
  refine va_sld hx hb hX hbl hbA h2.1.2.2 (tw_ix (j := 5) (by decide) (by decide)).1 dL_law_528 ?_
  refine tw_cv (v := xs 5) rfl ?_
  refine lv_aload_n hx hb dL_law_529 rfl (lv_at hl 4 rfl) ?_
  refine lv_iload hx hb dL_law_530 (lv_at hl 0 rfl) ?_
  refine lv_bipush (v := 6) hx hb dL_law_532 (by decide) ?_
  refine lv_iadd hx hb dL_law_534 ?_
  refine tw_cv (v := (6 : Int32)) (by decide) ?_
  refine va_sld hx hb hX hbl hbA h2.1.2.2 (tw_ix (j := 6) (by decide) (by decide)).1 dL_law_535 ?_
  refine tw_cv (v := xs 6) rfl ?_
  refine tw_calli_1 F h2 (tw_runV (r := 0) (As := [.int (xs 1), .int (xs 2), .int (xs 3), .int (xs 4), .int (xs 5), .int (xs 6)]) (rest := []) F h2.1 (c_X11_car l G ad1 w1 H.size (xs 1) ((xs 1).toInt) rfl (xs 2) ((xs 2).toInt) rfl (xs 3) ((xs 3).toInt) rfl (xs 4) ((xs 4).toInt) rfl (xs 5) ((xs 5).toInt) rfl (xs 6) ((xs 6).toInt) rfl k1_0 k1_14 k1_15 k1_18 k1_19 k1_21 k1_23 k1_25) (tw_gl kw_607 rfl) km_X11_car kv_X11_car rfl rfl ⟨(Nat.le_of_ble_eq_true rfl), (Nat.le_of_ble_eq_true rfl)⟩ (by decide) k1_0 rfl rfl hl.1 rfl (Nat.le_of_ble_eq_true rfl) dL_law_536 ⟨(Nat.le_of_ble_eq_true rfl), (Nat.le_of_ble_eq_true rfl)⟩) (fun r1 wv2 H locs hp3 h2 => ?_)
  rcases hp3 with ⟨rfl, hc4⟩ | ⟨rfl, hc5⟩
  · skip
    refine lv_aload_n hx hb dL_law_539 rfl (lv_at hl 2 rfl) ?_
    refine lv_aload_n hx hb dL_law_540 rfl (lv_at hl 4 rfl) ?_
    refine lv_iload hx hb dL_law_541 (lv_at hl 0 rfl) ?_
    refine lv_iconst (v := 1) hx hb dL_law_543 (by decide) ?_
    refine lv_iadd hx hb dL_law_544 ?_
    refine tw_cv (v := (1 : Int32)) (by decide) ?_
    refine va_sld hx hb hX hbl hbA h2.1.2.2 (tw_ix (j := 1) (by decide) (by decide)).1 dL_law_545 ?_
    refine tw_cv (v := xs 1) rfl ?_
    refine lv_aload_n hx hb dL_law_546 rfl (lv_at hl 4 rfl) ?_
    refine lv_iload hx hb dL_law_547 (lv_at hl 0 rfl) ?_
    refine lv_iconst (v := 2) hx hb dL_law_549 (by decide) ?_
    refine lv_iadd hx hb dL_law_550 ?_
    refine tw_cv (v := (2 : Int32)) (by decide) ?_
    refine va_sld hx hb hX hbl hbA h2.1.2.2 (tw_ix (j := 2) (by decide) (by decide)).1 dL_law_551 ?_
    refine tw_cv (v := xs 2) rfl ?_
    refine lv_aload_n hx hb dL_law_552 rfl (lv_at hl 4 rfl) ?_
    refine lv_iload hx hb dL_law_553 (lv_at hl 0 rfl) ?_
    refine lv_iconst (v := 3) hx hb dL_law_555 (by decide) ?_
    refine lv_iadd hx hb dL_law_556 ?_
    refine tw_cv (v := (3 : Int32)) (by decide) ?_
    refine va_sld hx hb hX hbl hbA h2.1.2.2 (tw_ix (j := 3) (by decide) (by decide)).1 dL_law_557 ?_
    refine tw_cv (v := xs 3) rfl ?_
    refine lv_aload_n hx hb dL_law_558 rfl (lv_at hl 4 rfl) ?_
    refine lv_iload hx hb dL_law_559 (lv_at hl 0 rfl) ?_
    refine lv_iconst (v := 4) hx hb dL_law_561 (by decide) ?_
    refine lv_iadd hx hb dL_law_562 ?_
    refine tw_cv (v := (4 : Int32)) (by decide) ?_
    refine va_sld hx hb hX hbl hbA h2.1.2.2 (tw_ix (j := 4) (by decide) (by decide)).1 dL_law_563 ?_
    refine tw_cv (v := xs 4) rfl ?_
    refine lv_aload_n hx hb dL_law_564 rfl (lv_at hl 4 rfl) ?_
    refine lv_iload hx hb dL_law_565 (lv_at hl 0 rfl) ?_
    refine lv_iconst (v := 5) hx hb dL_law_567 (by decide) ?_
    refine lv_iadd hx hb dL_law_568 ?_
    refine tw_cv (v := (5 : Int32)) (by decide) ?_
    refine va_sld hx hb hX hbl hbA h2.1.2.2 (tw_ix (j := 5) (by decide) (by decide)).1 dL_law_569 ?_
    refine tw_cv (v := xs 5) rfl ?_
    refine lv_aload_n hx hb dL_law_570 rfl (lv_at hl 4 rfl) ?_
    refine lv_iload hx hb dL_law_571 (lv_at hl 0 rfl) ?_
    refine lv_bipush (v := 6) hx hb dL_law_573 (by decide) ?_
    refine lv_iadd hx hb dL_law_575 ?_
    refine tw_cv (v := (6 : Int32)) (by decide) ?_
    refine va_sld hx hb hX hbl hbA h2.1.2.2 (tw_ix (j := 6) (by decide) (by decide)).1 dL_law_576 ?_
    refine tw_cv (v := xs 6) rfl ?_
    refine tw_calli_2 F h2 (tw_runV (r := 0) (As := [.int (xs 1), .int (xs 2), .int (xs 3), .int (xs 4), .int (xs 5), .int (xs 6)]) (rest := [.int (-1 : Int32)]) F h2.2.1 (c_X12_car l G ad2 w2 H.size (xs 1) ((xs 1).toInt) rfl (xs 2) ((xs 2).toInt) rfl (xs 3) ((xs 3).toInt) rfl (xs 4) ((xs 4).toInt) rfl (xs 5) ((xs 5).toInt) rfl (xs 6) ((xs 6).toInt) rfl k2_0 k2_13 k2_14 k2_15 k2_16 k2_17 k2_18 k2_19 k2_22 k2_26 k2_30) (tw_gl kw_1397 rfl) km_X12_car kv_X12_car rfl rfl ⟨(Nat.le_of_ble_eq_true rfl), (Nat.le_of_ble_eq_true rfl)⟩ (by decide) k2_0 rfl rfl hl.1 rfl (Nat.le_of_ble_eq_true rfl) dL_law_577 ⟨(Nat.le_of_ble_eq_true rfl), (Nat.le_of_ble_eq_true rfl)⟩) (fun r6 wv7 H locs hp8 h2 => ?_)
    rcases hp8 with ⟨rfl, hc9⟩ | ⟨rfl, hc10⟩
    · skip
      refine lv_icmp_eq (tgt := 1975) hx hb dL_law_580 (by decide) (fun _ => ?_) (fun c => absurd c (by decide))
      exact law_tail F hr hlk hX hbl h2.1.2.2 (Nat.le_of_ble_eq_true rfl) (Nat.le_of_ble_eq_true rfl) (lv_sub hl [0, 1, 2, 3, 4] rfl)
    · skip
      refine lv_icmp_eq (tgt := 1975) hx hb dL_law_580 (by decide) (fun c => absurd c (by decide)) (fun _ => ?_)
      refine lv_iconst (v := 0) hx hb dL_law_583 (by decide) ?_
      exfalso; omega
  · skip
    refine lv_aload_n hx hb dL_law_539 rfl (lv_at hl 2 rfl) ?_
    refine lv_aload_n hx hb dL_law_540 rfl (lv_at hl 4 rfl) ?_
    refine lv_iload hx hb dL_law_541 (lv_at hl 0 rfl) ?_
    refine lv_iconst (v := 1) hx hb dL_law_543 (by decide) ?_
    refine lv_iadd hx hb dL_law_544 ?_
    refine tw_cv (v := (1 : Int32)) (by decide) ?_
    refine va_sld hx hb hX hbl hbA h2.1.2.2 (tw_ix (j := 1) (by decide) (by decide)).1 dL_law_545 ?_
    refine tw_cv (v := xs 1) rfl ?_
    refine lv_aload_n hx hb dL_law_546 rfl (lv_at hl 4 rfl) ?_
    refine lv_iload hx hb dL_law_547 (lv_at hl 0 rfl) ?_
    refine lv_iconst (v := 2) hx hb dL_law_549 (by decide) ?_
    refine lv_iadd hx hb dL_law_550 ?_
    refine tw_cv (v := (2 : Int32)) (by decide) ?_
    refine va_sld hx hb hX hbl hbA h2.1.2.2 (tw_ix (j := 2) (by decide) (by decide)).1 dL_law_551 ?_
    refine tw_cv (v := xs 2) rfl ?_
    refine lv_aload_n hx hb dL_law_552 rfl (lv_at hl 4 rfl) ?_
    refine lv_iload hx hb dL_law_553 (lv_at hl 0 rfl) ?_
    refine lv_iconst (v := 3) hx hb dL_law_555 (by decide) ?_
    refine lv_iadd hx hb dL_law_556 ?_
    refine tw_cv (v := (3 : Int32)) (by decide) ?_
    refine va_sld hx hb hX hbl hbA h2.1.2.2 (tw_ix (j := 3) (by decide) (by decide)).1 dL_law_557 ?_
    refine tw_cv (v := xs 3) rfl ?_
    refine lv_aload_n hx hb dL_law_558 rfl (lv_at hl 4 rfl) ?_
    refine lv_iload hx hb dL_law_559 (lv_at hl 0 rfl) ?_
    refine lv_iconst (v := 4) hx hb dL_law_561 (by decide) ?_
    refine lv_iadd hx hb dL_law_562 ?_
    refine tw_cv (v := (4 : Int32)) (by decide) ?_
    refine va_sld hx hb hX hbl hbA h2.1.2.2 (tw_ix (j := 4) (by decide) (by decide)).1 dL_law_563 ?_
    refine tw_cv (v := xs 4) rfl ?_
    refine lv_aload_n hx hb dL_law_564 rfl (lv_at hl 4 rfl) ?_
    refine lv_iload hx hb dL_law_565 (lv_at hl 0 rfl) ?_
    refine lv_iconst (v := 5) hx hb dL_law_567 (by decide) ?_
    refine lv_iadd hx hb dL_law_568 ?_
    refine tw_cv (v := (5 : Int32)) (by decide) ?_
    refine va_sld hx hb hX hbl hbA h2.1.2.2 (tw_ix (j := 5) (by decide) (by decide)).1 dL_law_569 ?_
    refine tw_cv (v := xs 5) rfl ?_
    refine lv_aload_n hx hb dL_law_570 rfl (lv_at hl 4 rfl) ?_
    refine lv_iload hx hb dL_law_571 (lv_at hl 0 rfl) ?_
    refine lv_bipush (v := 6) hx hb dL_law_573 (by decide) ?_
    refine lv_iadd hx hb dL_law_575 ?_
    refine tw_cv (v := (6 : Int32)) (by decide) ?_
    refine va_sld hx hb hX hbl hbA h2.1.2.2 (tw_ix (j := 6) (by decide) (by decide)).1 dL_law_576 ?_
    refine tw_cv (v := xs 6) rfl ?_
    refine tw_calli_2 F h2 (tw_runV (r := 0) (As := [.int (xs 1), .int (xs 2), .int (xs 3), .int (xs 4), .int (xs 5), .int (xs 6)]) (rest := [.int (0 : Int32)]) F h2.2.1 (c_X12_car l G ad2 w2 H.size (xs 1) ((xs 1).toInt) rfl (xs 2) ((xs 2).toInt) rfl (xs 3) ((xs 3).toInt) rfl (xs 4) ((xs 4).toInt) rfl (xs 5) ((xs 5).toInt) rfl (xs 6) ((xs 6).toInt) rfl k2_0 k2_13 k2_14 k2_15 k2_16 k2_17 k2_18 k2_19 k2_22 k2_26 k2_30) (tw_gl kw_1397 rfl) km_X12_car kv_X12_car rfl rfl ⟨(Nat.le_of_ble_eq_true rfl), (Nat.le_of_ble_eq_true rfl)⟩ (by decide) k2_0 rfl rfl hl.1 rfl (Nat.le_of_ble_eq_true rfl) dL_law_577 ⟨(Nat.le_of_ble_eq_true rfl), (Nat.le_of_ble_eq_true rfl)⟩) (fun r11 wv12 H locs hp13 h2 => ?_)
    rcases hp13 with ⟨rfl, hc14⟩ | ⟨rfl, hc15⟩
    · skip
      refine lv_icmp_eq (tgt := 1975) hx hb dL_law_580 (by decide) (fun c => absurd c (by decide)) (fun _ => ?_)
      refine lv_iconst (v := 0) hx hb dL_law_583 (by decide) ?_
      exfalso; omega
    · skip
      refine lv_icmp_eq (tgt := 1975) hx hb dL_law_580 (by decide) (fun _ => ?_) (fun c => absurd c (by decide))
      exact law_tail F hr hlk hX hbl h2.1.2.2 (Nat.le_of_ble_eq_true rfl) (Nat.le_of_ble_eq_true rfl) (lv_sub hl [0, 1, 2, 3, 4] rfl)
set_option maxHeartbeats 4000000 in
set_option maxRecDepth 100000 in
theorem law_case_7 {p : Program} {l : Launch} {e : Env} {s : State} {m : MethodId} {below : List Frame} {meth : Method} {c : Code} {G : tw_G} {b : Nat} {xs : Nat → Int32} (hst : l.stackTraces = false) (F : tw_F p m c code 7 s #[Value.ref b] RL G (fun q => s.heap.size ≤ q)) (hr : meth.sig.returnType = ret) (hlk : meth.locks = false) (hX : va_X b 7 xs s s.heap) (hbl : b < s.heap.size) {ad1 ad2 : Nat → Nat} {w1 w2 : Nat → va_E} {ao : Nat} (k1_0 : w1 0 = .inr (11, [.ref (ad1 4), .ref (ad1 14), .ref (ad1 156), .ref (ad1 221), .ref (ad1 225), .ref (ad1 233), .ref (ad1 236), .int (0 : Int32), .ref (ad1 237), .int (0 : Int32), .ref (ad1 238)])) (k1_14 : w1 14 = .inr (2, [.ref (ad1 4), .ref (ad1 1), .ref (ad1 15), .ref (ad1 16), .ref (ad1 17), .int (0 : Int32), .int (0 : Int32), .int (0 : Int32)])) (k2_0 : w2 0 = .inr (12, [.int (0 : Int32), .int (2 : Int32), .int (1 : Int32), .ref (ad2 1), .ref (ad2 2), .ref (ad2 3), .ref (ad2 4), .ref (ad2 5), .int (0 : Int32), .ref (ad2 6), .ref (ad2 7), .ref (ad2 8), .int (0 : Int32), .ref (ad2 9), .ref (ad2 10), .ref (ad2 11), .ref (ad2 12), .int (0 : Int32), .ref (ad2 13), .ref (ad2 14), .ref (ad2 15), .ref (ad2 16), .ref (ad2 17), .ref (ad2 18), .ref (ad2 19), .ref (ad2 20), .ref (ad2 21), .ref (ad2 22), .ref (ad2 23), .ref (ad2 24), .ref (ad2 25), .ref (ad2 26), .ref (ad2 27), .ref (ad2 28), .ref (ad2 29), .ref (ad2 30), .ref (ad2 31), .ref (ad2 32), .ref (ad2 33), .ref (ad2 34), .int (0 : Int32), .int (0 : Int32), .int (0 : Int32), .ref (G.2.2 (100 + 10)), .ref (ad2 35), .ref (ad2 36), .ref (ad2 37), .int (0 : Int32), .ref (ad2 38), .ref (ad2 39), .ref (ad2 40), .ref (ad2 41), .ref (ad2 42), .ref (ad2 43), .ref (ad2 44), .ref (ad2 45), .ref (ad2 46), .ref (ad2 47), .ref (ad2 48), .ref (ad2 49), .ref (ad2 50), .ref (ad2 51), .ref (ad2 52), .ref (ad2 53), .ref (ad2 54), .ref (ad2 55), .ref (ad2 56), .ref (ad2 57), .ref (ad2 58), .ref (ad2 59), .int (0 : Int32), .ref (ad2 60), .int (0 : Int32), .ref (ad2 61), .ref (ad2 62), .int (0 : Int32), .ref (ad2 63), .ref (ad2 64), .ref (ad2 65), .ref (ad2 66), .ref (ad2 67), .ref (ad2 68), .int (0 : Int32), .ref (ad2 69), .ref (ad2 70), .ref (ad2 71), .ref (ad2 72), .ref (ad2 73), .int (0 : Int32), .int (0 : Int32), .int (0 : Int32), .ref (ad2 74), .ref (ad2 75), .ref (ad2 76), .ref (ad2 77), .ref (ad2 78), .ref (ad2 79)])) {H : Heap} {locs : List Loc} (h2 : tw_2 G 244 ad1 w1 80 ad2 w2 (fun q => s.heap.size ≤ q) s H locs) {ls : Array Slot} (hl : lv_has ls 7 [(4, .int (0 : Int32)), (3, .ref ao), (2, .ref (ad2 0)), (1, .ref (ad1 0)), (0, .ref b)]) {cells slots : Nat} (h3 : cells ≤ 1000) (h4 : slots ≤ 20000) : W p l e room_1 s m #[Value.ref b] below meth c H locs cells slots (lw_Z below #[Value.ref b] s) (F0 m 585 ls []) := by
  refine W.widen (k := 1000) (n := 20000) h3 h4 ?_
  have hx := F.1.1
  have hb := F.1.2.1
  have hbA : ¬ (fun q : Nat => s.heap.size ≤ q) b := Nat.not_le.mpr hbl
  refine lv_aload_n hx hb dL_law_585 rfl (lv_at hl 3 rfl) ?_
  refine lv_aload_n hx hb dL_law_586 rfl (lv_at hl 4 rfl) ?_
  refine lv_iload hx hb dL_law_587 (lv_at hl 0 rfl) ?_
  refine lv_iconst (v := 1) hx hb dL_law_589 (by decide) ?_
  refine lv_iadd hx hb dL_law_590 ?_
  refine tw_cv (v := (1 : Int32)) (by decide) ?_
  refine va_sld hx hb hX hbl hbA h2.1.2.2 (tw_ix (j := 1) (by decide) (by decide)).1 dL_law_591 ?_
  refine tw_cv (v := xs 1) rfl ?_
  refine lv_aload_n hx hb dL_law_592 rfl (lv_at hl 4 rfl) ?_
  refine lv_iload hx hb dL_law_593 (lv_at hl 0 rfl) ?_
  refine lv_iconst (v := 2) hx hb dL_law_595 (by decide) ?_
  refine lv_iadd hx hb dL_law_596 ?_
  refine tw_cv (v := (2 : Int32)) (by decide) ?_
  refine va_sld hx hb hX hbl hbA h2.1.2.2 (tw_ix (j := 2) (by decide) (by decide)).1 dL_law_597 ?_
  refine tw_cv (v := xs 2) rfl ?_
  refine lv_aload_n hx hb dL_law_598 rfl (lv_at hl 4 rfl) ?_
  refine lv_iload hx hb dL_law_599 (lv_at hl 0 rfl) ?_
  refine lv_iconst (v := 3) hx hb dL_law_601 (by decide) ?_
  refine lv_iadd hx hb dL_law_602 ?_
  refine tw_cv (v := (3 : Int32)) (by decide) ?_
  refine va_sld hx hb hX hbl hbA h2.1.2.2 (tw_ix (j := 3) (by decide) (by decide)).1 dL_law_603 ?_
  refine tw_cv (v := xs 3) rfl ?_
  refine tw_calli_1 F h2 (tw_runV (r := 0) (As := [.int (xs 1), .int (xs 2), .int (xs 3)]) (rest := []) F h2.1 (c_X11_tyre l G ad1 w1 H.size (xs 1) ((xs 1).toInt) rfl (xs 2) ((xs 2).toInt) rfl (xs 3) ((xs 3).toInt) rfl k1_0 k1_14) (tw_gl kw_615 rfl) km_X11_tyre kv_X11_tyre rfl rfl ⟨(Nat.le_of_ble_eq_true rfl), (Nat.le_of_ble_eq_true rfl)⟩ (by decide) k1_0 rfl rfl hl.1 rfl (Nat.le_of_ble_eq_true rfl) dL_law_604 ⟨(Nat.le_of_ble_eq_true rfl), (Nat.le_of_ble_eq_true rfl)⟩) (fun r1 wv2 H locs hp3 h2 => ?_)
  obtain ⟨rfl, hc4⟩ := hp3
  refine lv_aload_n hx hb dL_law_607 rfl (lv_at hl 2 rfl) ?_
  refine lv_aload_n hx hb dL_law_608 rfl (lv_at hl 4 rfl) ?_
  refine lv_iload hx hb dL_law_609 (lv_at hl 0 rfl) ?_
  refine lv_iconst (v := 1) hx hb dL_law_611 (by decide) ?_
  refine lv_iadd hx hb dL_law_612 ?_
  refine tw_cv (v := (1 : Int32)) (by decide) ?_
  refine va_sld hx hb hX hbl hbA h2.1.2.2 (tw_ix (j := 1) (by decide) (by decide)).1 dL_law_613 ?_
  refine tw_cv (v := xs 1) rfl ?_
  refine lv_aload_n hx hb dL_law_614 rfl (lv_at hl 4 rfl) ?_
  refine lv_iload hx hb dL_law_615 (lv_at hl 0 rfl) ?_
  refine lv_iconst (v := 2) hx hb dL_law_617 (by decide) ?_
  refine lv_iadd hx hb dL_law_618 ?_
  refine tw_cv (v := (2 : Int32)) (by decide) ?_
  refine va_sld hx hb hX hbl hbA h2.1.2.2 (tw_ix (j := 2) (by decide) (by decide)).1 dL_law_619 ?_
  refine tw_cv (v := xs 2) rfl ?_
  refine lv_aload_n hx hb dL_law_620 rfl (lv_at hl 4 rfl) ?_
  refine lv_iload hx hb dL_law_621 (lv_at hl 0 rfl) ?_
  refine lv_iconst (v := 3) hx hb dL_law_623 (by decide) ?_
  refine lv_iadd hx hb dL_law_624 ?_
  refine tw_cv (v := (3 : Int32)) (by decide) ?_
  refine va_sld hx hb hX hbl hbA h2.1.2.2 (tw_ix (j := 3) (by decide) (by decide)).1 dL_law_625 ?_
  refine tw_cv (v := xs 3) rfl ?_
  refine tw_calli_2 F h2 (tw_runV (r := 0) (As := [.int (xs 1), .int (xs 2), .int (xs 3)]) (rest := [.int (-1 : Int32)]) F h2.2.1 (c_X12_tyre l G ad2 w2 H.size (xs 1) ((xs 1).toInt) rfl (xs 2) ((xs 2).toInt) rfl (xs 3) ((xs 3).toInt) rfl k2_0) (tw_gl kw_1405 rfl) km_X12_tyre kv_X12_tyre rfl rfl ⟨(Nat.le_of_ble_eq_true rfl), (Nat.le_of_ble_eq_true rfl)⟩ (by decide) k2_0 rfl rfl hl.1 rfl (Nat.le_of_ble_eq_true rfl) dL_law_626 ⟨(Nat.le_of_ble_eq_true rfl), (Nat.le_of_ble_eq_true rfl)⟩) (fun r5 wv6 H locs hp7 h2 => ?_)
  obtain ⟨rfl, hc8⟩ := hp7
  refine lv_icmp_eq (tgt := 1975) hx hb dL_law_629 (by decide) (fun _ => ?_) (fun c => absurd c (by decide))
  exact law_tail F hr hlk hX hbl h2.1.2.2 (Nat.le_of_ble_eq_true rfl) (Nat.le_of_ble_eq_true rfl) (lv_sub hl [0, 1, 2, 3, 4] rfl)
set_option maxHeartbeats 4000000 in
set_option maxRecDepth 100000 in
theorem law_case_8 {p : Program} {l : Launch} {e : Env} {s : State} {m : MethodId} {below : List Frame} {meth : Method} {c : Code} {G : tw_G} {b : Nat} {xs : Nat → Int32} (hst : l.stackTraces = false) (F : tw_F p m c code 7 s #[Value.ref b] RL G (fun q => s.heap.size ≤ q)) (hr : meth.sig.returnType = ret) (hlk : meth.locks = false) (hX : va_X b 7 xs s s.heap) (hbl : b < s.heap.size) {ad1 ad2 : Nat → Nat} {w1 w2 : Nat → va_E} {ao : Nat} (k1_0 : w1 0 = .inr (11, [.ref (ad1 4), .ref (ad1 14), .ref (ad1 156), .ref (ad1 221), .ref (ad1 225), .ref (ad1 233), .ref (ad1 236), .int (0 : Int32), .ref (ad1 237), .int (0 : Int32), .ref (ad1 238)])) (k1_14 : w1 14 = .inr (2, [.ref (ad1 4), .ref (ad1 1), .ref (ad1 15), .ref (ad1 16), .ref (ad1 17), .int (0 : Int32), .int (0 : Int32), .int (0 : Int32)])) (k2_0 : w2 0 = .inr (12, [.int (0 : Int32), .int (2 : Int32), .int (1 : Int32), .ref (ad2 1), .ref (ad2 2), .ref (ad2 3), .ref (ad2 4), .ref (ad2 5), .int (0 : Int32), .ref (ad2 6), .ref (ad2 7), .ref (ad2 8), .int (0 : Int32), .ref (ad2 9), .ref (ad2 10), .ref (ad2 11), .ref (ad2 12), .int (0 : Int32), .ref (ad2 13), .ref (ad2 14), .ref (ad2 15), .ref (ad2 16), .ref (ad2 17), .ref (ad2 18), .ref (ad2 19), .ref (ad2 20), .ref (ad2 21), .ref (ad2 22), .ref (ad2 23), .ref (ad2 24), .ref (ad2 25), .ref (ad2 26), .ref (ad2 27), .ref (ad2 28), .ref (ad2 29), .ref (ad2 30), .ref (ad2 31), .ref (ad2 32), .ref (ad2 33), .ref (ad2 34), .int (0 : Int32), .int (0 : Int32), .int (0 : Int32), .ref (G.2.2 (100 + 10)), .ref (ad2 35), .ref (ad2 36), .ref (ad2 37), .int (0 : Int32), .ref (ad2 38), .ref (ad2 39), .ref (ad2 40), .ref (ad2 41), .ref (ad2 42), .ref (ad2 43), .ref (ad2 44), .ref (ad2 45), .ref (ad2 46), .ref (ad2 47), .ref (ad2 48), .ref (ad2 49), .ref (ad2 50), .ref (ad2 51), .ref (ad2 52), .ref (ad2 53), .ref (ad2 54), .ref (ad2 55), .ref (ad2 56), .ref (ad2 57), .ref (ad2 58), .ref (ad2 59), .int (0 : Int32), .ref (ad2 60), .int (0 : Int32), .ref (ad2 61), .ref (ad2 62), .int (0 : Int32), .ref (ad2 63), .ref (ad2 64), .ref (ad2 65), .ref (ad2 66), .ref (ad2 67), .ref (ad2 68), .int (0 : Int32), .ref (ad2 69), .ref (ad2 70), .ref (ad2 71), .ref (ad2 72), .ref (ad2 73), .int (0 : Int32), .int (0 : Int32), .int (0 : Int32), .ref (ad2 74), .ref (ad2 75), .ref (ad2 76), .ref (ad2 77), .ref (ad2 78), .ref (ad2 79)])) {H : Heap} {locs : List Loc} (h2 : tw_2 G 244 ad1 w1 80 ad2 w2 (fun q => s.heap.size ≤ q) s H locs) {ls : Array Slot} (hl : lv_has ls 7 [(4, .int (0 : Int32)), (3, .ref ao), (2, .ref (ad2 0)), (1, .ref (ad1 0)), (0, .ref b)]) {cells slots : Nat} (h3 : cells ≤ 1000) (h4 : slots ≤ 20000) : W p l e room_1 s m #[Value.ref b] below meth c H locs cells slots (lw_Z below #[Value.ref b] s) (F0 m 634 ls []) := by
  refine W.widen (k := 1000) (n := 20000) h3 h4 ?_
  have hx := F.1.1
  have hb := F.1.2.1
  have hbA : ¬ (fun q : Nat => s.heap.size ≤ q) b := Nat.not_le.mpr hbl
  refine lv_aload_n hx hb dL_law_634 rfl (lv_at hl 3 rfl) ?_
  refine lv_aload_n hx hb dL_law_635 rfl (lv_at hl 4 rfl) ?_
  refine lv_iload hx hb dL_law_636 (lv_at hl 0 rfl) ?_
  refine lv_iconst (v := 1) hx hb dL_law_638 (by decide) ?_
  refine lv_iadd hx hb dL_law_639 ?_
  refine tw_cv (v := (1 : Int32)) (by decide) ?_
  refine va_sld hx hb hX hbl hbA h2.1.2.2 (tw_ix (j := 1) (by decide) (by decide)).1 dL_law_640 ?_
  refine tw_cv (v := xs 1) rfl ?_
  refine lv_aload_n hx hb dL_law_641 rfl (lv_at hl 4 rfl) ?_
  refine lv_iload hx hb dL_law_642 (lv_at hl 0 rfl) ?_
  refine lv_iconst (v := 2) hx hb dL_law_644 (by decide) ?_
  refine lv_iadd hx hb dL_law_645 ?_
  refine tw_cv (v := (2 : Int32)) (by decide) ?_
  refine va_sld hx hb hX hbl hbA h2.1.2.2 (tw_ix (j := 2) (by decide) (by decide)).1 dL_law_646 ?_
  refine tw_cv (v := xs 2) rfl ?_
  refine lv_aload_n hx hb dL_law_647 rfl (lv_at hl 4 rfl) ?_
  refine lv_iload hx hb dL_law_648 (lv_at hl 0 rfl) ?_
  refine lv_iconst (v := 3) hx hb dL_law_650 (by decide) ?_
  refine lv_iadd hx hb dL_law_651 ?_
  refine tw_cv (v := (3 : Int32)) (by decide) ?_
  refine va_sld hx hb hX hbl hbA h2.1.2.2 (tw_ix (j := 3) (by decide) (by decide)).1 dL_law_652 ?_
  refine tw_cv (v := xs 3) rfl ?_
  refine lv_aload_n hx hb dL_law_653 rfl (lv_at hl 4 rfl) ?_
  refine lv_iload hx hb dL_law_654 (lv_at hl 0 rfl) ?_
  refine lv_iconst (v := 4) hx hb dL_law_656 (by decide) ?_
  refine lv_iadd hx hb dL_law_657 ?_
  refine tw_cv (v := (4 : Int32)) (by decide) ?_
  refine va_sld hx hb hX hbl hbA h2.1.2.2 (tw_ix (j := 4) (by decide) (by decide)).1 dL_law_658 ?_
  refine tw_cv (v := xs 4) rfl ?_
  refine tw_calli_1 F h2 (tw_runV (r := 0) (As := [.int (xs 1), .int (xs 2), .int (xs 3), .int (xs 4)]) (rest := []) F h2.1 (c_X11_order l G ad1 w1 H.size (xs 1) ((xs 1).toInt) rfl (xs 2) ((xs 2).toInt) rfl (xs 3) ((xs 3).toInt) rfl (xs 4) ((xs 4).toInt) rfl k1_0 k1_14) (tw_gl kw_625 rfl) km_X11_order kv_X11_order rfl rfl ⟨(Nat.le_of_ble_eq_true rfl), (Nat.le_of_ble_eq_true rfl)⟩ (by decide) k1_0 rfl rfl hl.1 rfl (Nat.le_of_ble_eq_true rfl) dL_law_659 ⟨(Nat.le_of_ble_eq_true rfl), (Nat.le_of_ble_eq_true rfl)⟩) (fun r1 wv2 H locs hp3 h2 => ?_)
  obtain ⟨rfl, hc4⟩ := hp3
  refine lv_aload_n hx hb dL_law_662 rfl (lv_at hl 2 rfl) ?_
  refine lv_aload_n hx hb dL_law_663 rfl (lv_at hl 4 rfl) ?_
  refine lv_iload hx hb dL_law_664 (lv_at hl 0 rfl) ?_
  refine lv_iconst (v := 1) hx hb dL_law_666 (by decide) ?_
  refine lv_iadd hx hb dL_law_667 ?_
  refine tw_cv (v := (1 : Int32)) (by decide) ?_
  refine va_sld hx hb hX hbl hbA h2.1.2.2 (tw_ix (j := 1) (by decide) (by decide)).1 dL_law_668 ?_
  refine tw_cv (v := xs 1) rfl ?_
  refine lv_aload_n hx hb dL_law_669 rfl (lv_at hl 4 rfl) ?_
  refine lv_iload hx hb dL_law_670 (lv_at hl 0 rfl) ?_
  refine lv_iconst (v := 2) hx hb dL_law_672 (by decide) ?_
  refine lv_iadd hx hb dL_law_673 ?_
  refine tw_cv (v := (2 : Int32)) (by decide) ?_
  refine va_sld hx hb hX hbl hbA h2.1.2.2 (tw_ix (j := 2) (by decide) (by decide)).1 dL_law_674 ?_
  refine tw_cv (v := xs 2) rfl ?_
  refine lv_aload_n hx hb dL_law_675 rfl (lv_at hl 4 rfl) ?_
  refine lv_iload hx hb dL_law_676 (lv_at hl 0 rfl) ?_
  refine lv_iconst (v := 3) hx hb dL_law_678 (by decide) ?_
  refine lv_iadd hx hb dL_law_679 ?_
  refine tw_cv (v := (3 : Int32)) (by decide) ?_
  refine va_sld hx hb hX hbl hbA h2.1.2.2 (tw_ix (j := 3) (by decide) (by decide)).1 dL_law_680 ?_
  refine tw_cv (v := xs 3) rfl ?_
  refine lv_aload_n hx hb dL_law_681 rfl (lv_at hl 4 rfl) ?_
  refine lv_iload hx hb dL_law_682 (lv_at hl 0 rfl) ?_
  refine lv_iconst (v := 4) hx hb dL_law_684 (by decide) ?_
  refine lv_iadd hx hb dL_law_685 ?_
  refine tw_cv (v := (4 : Int32)) (by decide) ?_
  refine va_sld hx hb hX hbl hbA h2.1.2.2 (tw_ix (j := 4) (by decide) (by decide)).1 dL_law_686 ?_
  refine tw_cv (v := xs 4) rfl ?_
  refine tw_calli_2 F h2 (tw_runV (r := 0) (As := [.int (xs 1), .int (xs 2), .int (xs 3), .int (xs 4)]) (rest := [.int (-1 : Int32)]) F h2.2.1 (c_X12_order l G ad2 w2 H.size (xs 1) ((xs 1).toInt) rfl (xs 2) ((xs 2).toInt) rfl (xs 3) ((xs 3).toInt) rfl (xs 4) ((xs 4).toInt) rfl k2_0) (tw_gl kw_1413 rfl) km_X12_order kv_X12_order rfl rfl ⟨(Nat.le_of_ble_eq_true rfl), (Nat.le_of_ble_eq_true rfl)⟩ (by decide) k2_0 rfl rfl hl.1 rfl (Nat.le_of_ble_eq_true rfl) dL_law_687 ⟨(Nat.le_of_ble_eq_true rfl), (Nat.le_of_ble_eq_true rfl)⟩) (fun r5 wv6 H locs hp7 h2 => ?_)
  obtain ⟨rfl, hc8⟩ := hp7
  refine lv_icmp_eq (tgt := 1975) hx hb dL_law_690 (by decide) (fun _ => ?_) (fun c => absurd c (by decide))
  exact law_tail F hr hlk hX hbl h2.1.2.2 (Nat.le_of_ble_eq_true rfl) (Nat.le_of_ble_eq_true rfl) (lv_sub hl [0, 1, 2, 3, 4] rfl)
set_option maxHeartbeats 4000000 in
set_option maxRecDepth 100000 in
theorem law_case_9 {p : Program} {l : Launch} {e : Env} {s : State} {m : MethodId} {below : List Frame} {meth : Method} {c : Code} {G : tw_G} {b : Nat} {xs : Nat → Int32} (hst : l.stackTraces = false) (F : tw_F p m c code 7 s #[Value.ref b] RL G (fun q => s.heap.size ≤ q)) (hr : meth.sig.returnType = ret) (hlk : meth.locks = false) (hX : va_X b 7 xs s s.heap) (hbl : b < s.heap.size) {ad1 ad2 : Nat → Nat} {w1 w2 : Nat → va_E} {ao : Nat} (k1_0 : w1 0 = .inr (11, [.ref (ad1 4), .ref (ad1 14), .ref (ad1 156), .ref (ad1 221), .ref (ad1 225), .ref (ad1 233), .ref (ad1 236), .int (0 : Int32), .ref (ad1 237), .int (0 : Int32), .ref (ad1 238)])) (k1_14 : w1 14 = .inr (2, [.ref (ad1 4), .ref (ad1 1), .ref (ad1 15), .ref (ad1 16), .ref (ad1 17), .int (0 : Int32), .int (0 : Int32), .int (0 : Int32)])) (k2_0 : w2 0 = .inr (12, [.int (0 : Int32), .int (2 : Int32), .int (1 : Int32), .ref (ad2 1), .ref (ad2 2), .ref (ad2 3), .ref (ad2 4), .ref (ad2 5), .int (0 : Int32), .ref (ad2 6), .ref (ad2 7), .ref (ad2 8), .int (0 : Int32), .ref (ad2 9), .ref (ad2 10), .ref (ad2 11), .ref (ad2 12), .int (0 : Int32), .ref (ad2 13), .ref (ad2 14), .ref (ad2 15), .ref (ad2 16), .ref (ad2 17), .ref (ad2 18), .ref (ad2 19), .ref (ad2 20), .ref (ad2 21), .ref (ad2 22), .ref (ad2 23), .ref (ad2 24), .ref (ad2 25), .ref (ad2 26), .ref (ad2 27), .ref (ad2 28), .ref (ad2 29), .ref (ad2 30), .ref (ad2 31), .ref (ad2 32), .ref (ad2 33), .ref (ad2 34), .int (0 : Int32), .int (0 : Int32), .int (0 : Int32), .ref (G.2.2 (100 + 10)), .ref (ad2 35), .ref (ad2 36), .ref (ad2 37), .int (0 : Int32), .ref (ad2 38), .ref (ad2 39), .ref (ad2 40), .ref (ad2 41), .ref (ad2 42), .ref (ad2 43), .ref (ad2 44), .ref (ad2 45), .ref (ad2 46), .ref (ad2 47), .ref (ad2 48), .ref (ad2 49), .ref (ad2 50), .ref (ad2 51), .ref (ad2 52), .ref (ad2 53), .ref (ad2 54), .ref (ad2 55), .ref (ad2 56), .ref (ad2 57), .ref (ad2 58), .ref (ad2 59), .int (0 : Int32), .ref (ad2 60), .int (0 : Int32), .ref (ad2 61), .ref (ad2 62), .int (0 : Int32), .ref (ad2 63), .ref (ad2 64), .ref (ad2 65), .ref (ad2 66), .ref (ad2 67), .ref (ad2 68), .int (0 : Int32), .ref (ad2 69), .ref (ad2 70), .ref (ad2 71), .ref (ad2 72), .ref (ad2 73), .int (0 : Int32), .int (0 : Int32), .int (0 : Int32), .ref (ad2 74), .ref (ad2 75), .ref (ad2 76), .ref (ad2 77), .ref (ad2 78), .ref (ad2 79)])) {H : Heap} {locs : List Loc} (h2 : tw_2 G 244 ad1 w1 80 ad2 w2 (fun q => s.heap.size ≤ q) s H locs) {ls : Array Slot} (hl : lv_has ls 7 [(4, .int (0 : Int32)), (3, .ref ao), (2, .ref (ad2 0)), (1, .ref (ad1 0)), (0, .ref b)]) {cells slots : Nat} (h3 : cells ≤ 1000) (h4 : slots ≤ 20000) : W p l e room_1 s m #[Value.ref b] below meth c H locs cells slots (lw_Z below #[Value.ref b] s) (F0 m 695 ls []) := by
  refine W.widen (k := 1000) (n := 20000) h3 h4 ?_
  have hx := F.1.1
  have hb := F.1.2.1
  have hbA : ¬ (fun q : Nat => s.heap.size ≤ q) b := Nat.not_le.mpr hbl
  refine lv_aload_n hx hb dL_law_695 rfl (lv_at hl 3 rfl) ?_
  refine lv_aload_n hx hb dL_law_696 rfl (lv_at hl 4 rfl) ?_
  refine lv_iload hx hb dL_law_697 (lv_at hl 0 rfl) ?_
  refine lv_iconst (v := 1) hx hb dL_law_699 (by decide) ?_
  refine lv_iadd hx hb dL_law_700 ?_
  refine tw_cv (v := (1 : Int32)) (by decide) ?_
  refine va_sld hx hb hX hbl hbA h2.1.2.2 (tw_ix (j := 1) (by decide) (by decide)).1 dL_law_701 ?_
  refine tw_cv (v := xs 1) rfl ?_
  refine lv_aload_n hx hb dL_law_702 rfl (lv_at hl 4 rfl) ?_
  refine lv_iload hx hb dL_law_703 (lv_at hl 0 rfl) ?_
  refine lv_iconst (v := 2) hx hb dL_law_705 (by decide) ?_
  refine lv_iadd hx hb dL_law_706 ?_
  refine tw_cv (v := (2 : Int32)) (by decide) ?_
  refine va_sld hx hb hX hbl hbA h2.1.2.2 (tw_ix (j := 2) (by decide) (by decide)).1 dL_law_707 ?_
  refine tw_cv (v := xs 2) rfl ?_
  refine lv_aload_n hx hb dL_law_708 rfl (lv_at hl 4 rfl) ?_
  refine lv_iload hx hb dL_law_709 (lv_at hl 0 rfl) ?_
  refine lv_iconst (v := 3) hx hb dL_law_711 (by decide) ?_
  refine lv_iadd hx hb dL_law_712 ?_
  refine tw_cv (v := (3 : Int32)) (by decide) ?_
  refine va_sld hx hb hX hbl hbA h2.1.2.2 (tw_ix (j := 3) (by decide) (by decide)).1 dL_law_713 ?_
  refine tw_cv (v := xs 3) rfl ?_
  refine lv_aload_n hx hb dL_law_714 rfl (lv_at hl 4 rfl) ?_
  refine lv_iload hx hb dL_law_715 (lv_at hl 0 rfl) ?_
  refine lv_iconst (v := 4) hx hb dL_law_717 (by decide) ?_
  refine lv_iadd hx hb dL_law_718 ?_
  refine tw_cv (v := (4 : Int32)) (by decide) ?_
  refine va_sld hx hb hX hbl hbA h2.1.2.2 (tw_ix (j := 4) (by decide) (by decide)).1 dL_law_719 ?_
  refine tw_cv (v := xs 4) rfl ?_
  refine tw_calli_1 F h2 (tw_runV (r := 0) (As := [.int (xs 1), .int (xs 2), .int (xs 3), .int (xs 4)]) (rest := []) F h2.1 (c_X11_stop l G ad1 w1 H.size (xs 1) ((xs 1).toInt) rfl (xs 2) ((xs 2).toInt) rfl (xs 3) ((xs 3).toInt) rfl (xs 4) ((xs 4).toInt) rfl k1_0 k1_14) (tw_gl kw_629 rfl) km_X11_stop kv_X11_stop rfl rfl ⟨(Nat.le_of_ble_eq_true rfl), (Nat.le_of_ble_eq_true rfl)⟩ (by decide) k1_0 rfl rfl hl.1 rfl (Nat.le_of_ble_eq_true rfl) dL_law_720 ⟨(Nat.le_of_ble_eq_true rfl), (Nat.le_of_ble_eq_true rfl)⟩) (fun r1 wv2 H locs hp3 h2 => ?_)
  obtain ⟨rfl, hc4⟩ := hp3
  refine lv_aload_n hx hb dL_law_723 rfl (lv_at hl 2 rfl) ?_
  refine lv_aload_n hx hb dL_law_724 rfl (lv_at hl 4 rfl) ?_
  refine lv_iload hx hb dL_law_725 (lv_at hl 0 rfl) ?_
  refine lv_iconst (v := 1) hx hb dL_law_727 (by decide) ?_
  refine lv_iadd hx hb dL_law_728 ?_
  refine tw_cv (v := (1 : Int32)) (by decide) ?_
  refine va_sld hx hb hX hbl hbA h2.1.2.2 (tw_ix (j := 1) (by decide) (by decide)).1 dL_law_729 ?_
  refine tw_cv (v := xs 1) rfl ?_
  refine lv_aload_n hx hb dL_law_730 rfl (lv_at hl 4 rfl) ?_
  refine lv_iload hx hb dL_law_731 (lv_at hl 0 rfl) ?_
  refine lv_iconst (v := 2) hx hb dL_law_733 (by decide) ?_
  refine lv_iadd hx hb dL_law_734 ?_
  refine tw_cv (v := (2 : Int32)) (by decide) ?_
  refine va_sld hx hb hX hbl hbA h2.1.2.2 (tw_ix (j := 2) (by decide) (by decide)).1 dL_law_735 ?_
  refine tw_cv (v := xs 2) rfl ?_
  refine lv_aload_n hx hb dL_law_736 rfl (lv_at hl 4 rfl) ?_
  refine lv_iload hx hb dL_law_737 (lv_at hl 0 rfl) ?_
  refine lv_iconst (v := 3) hx hb dL_law_739 (by decide) ?_
  refine lv_iadd hx hb dL_law_740 ?_
  refine tw_cv (v := (3 : Int32)) (by decide) ?_
  refine va_sld hx hb hX hbl hbA h2.1.2.2 (tw_ix (j := 3) (by decide) (by decide)).1 dL_law_741 ?_
  refine tw_cv (v := xs 3) rfl ?_
  refine lv_aload_n hx hb dL_law_742 rfl (lv_at hl 4 rfl) ?_
  refine lv_iload hx hb dL_law_743 (lv_at hl 0 rfl) ?_
  refine lv_iconst (v := 4) hx hb dL_law_745 (by decide) ?_
  refine lv_iadd hx hb dL_law_746 ?_
  refine tw_cv (v := (4 : Int32)) (by decide) ?_
  refine va_sld hx hb hX hbl hbA h2.1.2.2 (tw_ix (j := 4) (by decide) (by decide)).1 dL_law_747 ?_
  refine tw_cv (v := xs 4) rfl ?_
  refine tw_calli_2 F h2 (tw_runV (r := 0) (As := [.int (xs 1), .int (xs 2), .int (xs 3), .int (xs 4)]) (rest := [.int (-1 : Int32)]) F h2.2.1 (c_X12_stop l G ad2 w2 H.size (xs 1) ((xs 1).toInt) rfl (xs 2) ((xs 2).toInt) rfl (xs 3) ((xs 3).toInt) rfl (xs 4) ((xs 4).toInt) rfl k2_0) (tw_gl kw_1421 rfl) km_X12_stop kv_X12_stop rfl rfl ⟨(Nat.le_of_ble_eq_true rfl), (Nat.le_of_ble_eq_true rfl)⟩ (by decide) k2_0 rfl rfl hl.1 rfl (Nat.le_of_ble_eq_true rfl) dL_law_748 ⟨(Nat.le_of_ble_eq_true rfl), (Nat.le_of_ble_eq_true rfl)⟩) (fun r5 wv6 H locs hp7 h2 => ?_)
  obtain ⟨rfl, hc8⟩ := hp7
  refine lv_icmp_eq (tgt := 1975) hx hb dL_law_751 (by decide) (fun _ => ?_) (fun c => absurd c (by decide))
  exact law_tail F hr hlk hX hbl h2.1.2.2 (Nat.le_of_ble_eq_true rfl) (Nat.le_of_ble_eq_true rfl) (lv_sub hl [0, 1, 2, 3, 4] rfl)
set_option maxHeartbeats 4000000 in
set_option maxRecDepth 100000 in
theorem law_case_10 {p : Program} {l : Launch} {e : Env} {s : State} {m : MethodId} {below : List Frame} {meth : Method} {c : Code} {G : tw_G} {b : Nat} {xs : Nat → Int32} (hst : l.stackTraces = false) (F : tw_F p m c code 7 s #[Value.ref b] RL G (fun q => s.heap.size ≤ q)) (hr : meth.sig.returnType = ret) (hlk : meth.locks = false) (hX : va_X b 7 xs s s.heap) (hbl : b < s.heap.size) {ad1 ad2 : Nat → Nat} {w1 w2 : Nat → va_E} {ao : Nat} (k1_0 : w1 0 = .inr (11, [.ref (ad1 4), .ref (ad1 14), .ref (ad1 156), .ref (ad1 221), .ref (ad1 225), .ref (ad1 233), .ref (ad1 236), .int (0 : Int32), .ref (ad1 237), .int (0 : Int32), .ref (ad1 238)])) (k1_14 : w1 14 = .inr (2, [.ref (ad1 4), .ref (ad1 1), .ref (ad1 15), .ref (ad1 16), .ref (ad1 17), .int (0 : Int32), .int (0 : Int32), .int (0 : Int32)])) (k2_0 : w2 0 = .inr (12, [.int (0 : Int32), .int (2 : Int32), .int (1 : Int32), .ref (ad2 1), .ref (ad2 2), .ref (ad2 3), .ref (ad2 4), .ref (ad2 5), .int (0 : Int32), .ref (ad2 6), .ref (ad2 7), .ref (ad2 8), .int (0 : Int32), .ref (ad2 9), .ref (ad2 10), .ref (ad2 11), .ref (ad2 12), .int (0 : Int32), .ref (ad2 13), .ref (ad2 14), .ref (ad2 15), .ref (ad2 16), .ref (ad2 17), .ref (ad2 18), .ref (ad2 19), .ref (ad2 20), .ref (ad2 21), .ref (ad2 22), .ref (ad2 23), .ref (ad2 24), .ref (ad2 25), .ref (ad2 26), .ref (ad2 27), .ref (ad2 28), .ref (ad2 29), .ref (ad2 30), .ref (ad2 31), .ref (ad2 32), .ref (ad2 33), .ref (ad2 34), .int (0 : Int32), .int (0 : Int32), .int (0 : Int32), .ref (G.2.2 (100 + 10)), .ref (ad2 35), .ref (ad2 36), .ref (ad2 37), .int (0 : Int32), .ref (ad2 38), .ref (ad2 39), .ref (ad2 40), .ref (ad2 41), .ref (ad2 42), .ref (ad2 43), .ref (ad2 44), .ref (ad2 45), .ref (ad2 46), .ref (ad2 47), .ref (ad2 48), .ref (ad2 49), .ref (ad2 50), .ref (ad2 51), .ref (ad2 52), .ref (ad2 53), .ref (ad2 54), .ref (ad2 55), .ref (ad2 56), .ref (ad2 57), .ref (ad2 58), .ref (ad2 59), .int (0 : Int32), .ref (ad2 60), .int (0 : Int32), .ref (ad2 61), .ref (ad2 62), .int (0 : Int32), .ref (ad2 63), .ref (ad2 64), .ref (ad2 65), .ref (ad2 66), .ref (ad2 67), .ref (ad2 68), .int (0 : Int32), .ref (ad2 69), .ref (ad2 70), .ref (ad2 71), .ref (ad2 72), .ref (ad2 73), .int (0 : Int32), .int (0 : Int32), .int (0 : Int32), .ref (ad2 74), .ref (ad2 75), .ref (ad2 76), .ref (ad2 77), .ref (ad2 78), .ref (ad2 79)])) {H : Heap} {locs : List Loc} (h2 : tw_2 G 244 ad1 w1 80 ad2 w2 (fun q => s.heap.size ≤ q) s H locs) {ls : Array Slot} (hl : lv_has ls 7 [(4, .int (0 : Int32)), (3, .ref ao), (2, .ref (ad2 0)), (1, .ref (ad1 0)), (0, .ref b)]) {cells slots : Nat} (h3 : cells ≤ 1000) (h4 : slots ≤ 20000) : W p l e room_1 s m #[Value.ref b] below meth c H locs cells slots (lw_Z below #[Value.ref b] s) (F0 m 756 ls []) := by
  refine W.widen (k := 1000) (n := 20000) h3 h4 ?_
  have hx := F.1.1
  have hb := F.1.2.1
  have hbA : ¬ (fun q : Nat => s.heap.size ≤ q) b := Nat.not_le.mpr hbl
  refine lv_aload_n hx hb dL_law_756 rfl (lv_at hl 3 rfl) ?_
  refine lv_aload_n hx hb dL_law_757 rfl (lv_at hl 4 rfl) ?_
  refine lv_iload hx hb dL_law_758 (lv_at hl 0 rfl) ?_
  refine lv_iconst (v := 1) hx hb dL_law_760 (by decide) ?_
  refine lv_iadd hx hb dL_law_761 ?_
  refine tw_cv (v := (1 : Int32)) (by decide) ?_
  refine va_sld hx hb hX hbl hbA h2.1.2.2 (tw_ix (j := 1) (by decide) (by decide)).1 dL_law_762 ?_
  refine tw_cv (v := xs 1) rfl ?_
  refine lv_aload_n hx hb dL_law_763 rfl (lv_at hl 4 rfl) ?_
  refine lv_iload hx hb dL_law_764 (lv_at hl 0 rfl) ?_
  refine lv_iconst (v := 2) hx hb dL_law_766 (by decide) ?_
  refine lv_iadd hx hb dL_law_767 ?_
  refine tw_cv (v := (2 : Int32)) (by decide) ?_
  refine va_sld hx hb hX hbl hbA h2.1.2.2 (tw_ix (j := 2) (by decide) (by decide)).1 dL_law_768 ?_
  refine tw_cv (v := xs 2) rfl ?_
  refine tw_calli_1 F h2 (tw_runV (r := 0) (As := [.int (xs 1), .int (xs 2)]) (rest := []) F h2.1 (c_X11_drop l G ad1 w1 H.size (xs 1) ((xs 1).toInt) rfl (xs 2) ((xs 2).toInt) rfl k1_0 k1_14) (tw_gl kw_633 rfl) km_X11_drop kv_X11_drop rfl rfl ⟨(Nat.le_of_ble_eq_true rfl), (Nat.le_of_ble_eq_true rfl)⟩ (by decide) k1_0 rfl rfl hl.1 rfl (Nat.le_of_ble_eq_true rfl) dL_law_769 ⟨(Nat.le_of_ble_eq_true rfl), (Nat.le_of_ble_eq_true rfl)⟩) (fun r1 wv2 H locs hp3 h2 => ?_)
  obtain ⟨rfl, hc4⟩ := hp3
  refine lv_aload_n hx hb dL_law_772 rfl (lv_at hl 2 rfl) ?_
  refine lv_aload_n hx hb dL_law_773 rfl (lv_at hl 4 rfl) ?_
  refine lv_iload hx hb dL_law_774 (lv_at hl 0 rfl) ?_
  refine lv_iconst (v := 1) hx hb dL_law_776 (by decide) ?_
  refine lv_iadd hx hb dL_law_777 ?_
  refine tw_cv (v := (1 : Int32)) (by decide) ?_
  refine va_sld hx hb hX hbl hbA h2.1.2.2 (tw_ix (j := 1) (by decide) (by decide)).1 dL_law_778 ?_
  refine tw_cv (v := xs 1) rfl ?_
  refine lv_aload_n hx hb dL_law_779 rfl (lv_at hl 4 rfl) ?_
  refine lv_iload hx hb dL_law_780 (lv_at hl 0 rfl) ?_
  refine lv_iconst (v := 2) hx hb dL_law_782 (by decide) ?_
  refine lv_iadd hx hb dL_law_783 ?_
  refine tw_cv (v := (2 : Int32)) (by decide) ?_
  refine va_sld hx hb hX hbl hbA h2.1.2.2 (tw_ix (j := 2) (by decide) (by decide)).1 dL_law_784 ?_
  refine tw_cv (v := xs 2) rfl ?_
  refine tw_calli_2 F h2 (tw_runV (r := 0) (As := [.int (xs 1), .int (xs 2)]) (rest := [.int (-1 : Int32)]) F h2.2.1 (c_X12_drop l G ad2 w2 H.size (xs 1) ((xs 1).toInt) rfl (xs 2) ((xs 2).toInt) rfl k2_0) (tw_gl kw_1436 rfl) km_X12_drop kv_X12_drop rfl rfl ⟨(Nat.le_of_ble_eq_true rfl), (Nat.le_of_ble_eq_true rfl)⟩ (by decide) k2_0 rfl rfl hl.1 rfl (Nat.le_of_ble_eq_true rfl) dL_law_785 ⟨(Nat.le_of_ble_eq_true rfl), (Nat.le_of_ble_eq_true rfl)⟩) (fun r5 wv6 H locs hp7 h2 => ?_)
  obtain ⟨rfl, hc8⟩ := hp7
  refine lv_icmp_eq (tgt := 1975) hx hb dL_law_788 (by decide) (fun _ => ?_) (fun c => absurd c (by decide))
  exact law_tail F hr hlk hX hbl h2.1.2.2 (Nat.le_of_ble_eq_true rfl) (Nat.le_of_ble_eq_true rfl) (lv_sub hl [0, 1, 2, 3, 4] rfl)
set_option maxHeartbeats 4000000 in
set_option maxRecDepth 100000 in
theorem law_case_11 {p : Program} {l : Launch} {e : Env} {s : State} {m : MethodId} {below : List Frame} {meth : Method} {c : Code} {G : tw_G} {b : Nat} {xs : Nat → Int32} (hst : l.stackTraces = false) (F : tw_F p m c code 7 s #[Value.ref b] RL G (fun q => s.heap.size ≤ q)) (hr : meth.sig.returnType = ret) (hlk : meth.locks = false) (hX : va_X b 7 xs s s.heap) (hbl : b < s.heap.size) {ad1 ad2 : Nat → Nat} {w1 w2 : Nat → va_E} {ao : Nat} (k1_0 : w1 0 = .inr (11, [.ref (ad1 4), .ref (ad1 14), .ref (ad1 156), .ref (ad1 221), .ref (ad1 225), .ref (ad1 233), .ref (ad1 236), .int (0 : Int32), .ref (ad1 237), .int (0 : Int32), .ref (ad1 238)])) (k1_14 : w1 14 = .inr (2, [.ref (ad1 4), .ref (ad1 1), .ref (ad1 15), .ref (ad1 16), .ref (ad1 17), .int (0 : Int32), .int (0 : Int32), .int (0 : Int32)])) (k2_0 : w2 0 = .inr (12, [.int (0 : Int32), .int (2 : Int32), .int (1 : Int32), .ref (ad2 1), .ref (ad2 2), .ref (ad2 3), .ref (ad2 4), .ref (ad2 5), .int (0 : Int32), .ref (ad2 6), .ref (ad2 7), .ref (ad2 8), .int (0 : Int32), .ref (ad2 9), .ref (ad2 10), .ref (ad2 11), .ref (ad2 12), .int (0 : Int32), .ref (ad2 13), .ref (ad2 14), .ref (ad2 15), .ref (ad2 16), .ref (ad2 17), .ref (ad2 18), .ref (ad2 19), .ref (ad2 20), .ref (ad2 21), .ref (ad2 22), .ref (ad2 23), .ref (ad2 24), .ref (ad2 25), .ref (ad2 26), .ref (ad2 27), .ref (ad2 28), .ref (ad2 29), .ref (ad2 30), .ref (ad2 31), .ref (ad2 32), .ref (ad2 33), .ref (ad2 34), .int (0 : Int32), .int (0 : Int32), .int (0 : Int32), .ref (G.2.2 (100 + 10)), .ref (ad2 35), .ref (ad2 36), .ref (ad2 37), .int (0 : Int32), .ref (ad2 38), .ref (ad2 39), .ref (ad2 40), .ref (ad2 41), .ref (ad2 42), .ref (ad2 43), .ref (ad2 44), .ref (ad2 45), .ref (ad2 46), .ref (ad2 47), .ref (ad2 48), .ref (ad2 49), .ref (ad2 50), .ref (ad2 51), .ref (ad2 52), .ref (ad2 53), .ref (ad2 54), .ref (ad2 55), .ref (ad2 56), .ref (ad2 57), .ref (ad2 58), .ref (ad2 59), .int (0 : Int32), .ref (ad2 60), .int (0 : Int32), .ref (ad2 61), .ref (ad2 62), .int (0 : Int32), .ref (ad2 63), .ref (ad2 64), .ref (ad2 65), .ref (ad2 66), .ref (ad2 67), .ref (ad2 68), .int (0 : Int32), .ref (ad2 69), .ref (ad2 70), .ref (ad2 71), .ref (ad2 72), .ref (ad2 73), .int (0 : Int32), .int (0 : Int32), .int (0 : Int32), .ref (ad2 74), .ref (ad2 75), .ref (ad2 76), .ref (ad2 77), .ref (ad2 78), .ref (ad2 79)])) {H : Heap} {locs : List Loc} (h2 : tw_2 G 244 ad1 w1 80 ad2 w2 (fun q => s.heap.size ≤ q) s H locs) {ls : Array Slot} (hl : lv_has ls 7 [(4, .int (0 : Int32)), (3, .ref ao), (2, .ref (ad2 0)), (1, .ref (ad1 0)), (0, .ref b)]) {cells slots : Nat} (h3 : cells ≤ 1000) (h4 : slots ≤ 20000) : W p l e room_1 s m #[Value.ref b] below meth c H locs cells slots (lw_Z below #[Value.ref b] s) (F0 m 793 ls []) := by
  refine W.widen (k := 1000) (n := 20000) h3 h4 ?_
  have hx := F.1.1
  have hb := F.1.2.1
  have hbA : ¬ (fun q : Nat => s.heap.size ≤ q) b := Nat.not_le.mpr hbl
  refine lv_aload_n hx hb dL_law_793 rfl (lv_at hl 3 rfl) ?_
  refine lv_aload_n hx hb dL_law_794 rfl (lv_at hl 4 rfl) ?_
  refine lv_iload hx hb dL_law_795 (lv_at hl 0 rfl) ?_
  refine lv_iconst (v := 1) hx hb dL_law_797 (by decide) ?_
  refine lv_iadd hx hb dL_law_798 ?_
  refine tw_cv (v := (1 : Int32)) (by decide) ?_
  refine va_sld hx hb hX hbl hbA h2.1.2.2 (tw_ix (j := 1) (by decide) (by decide)).1 dL_law_799 ?_
  refine tw_cv (v := xs 1) rfl ?_
  refine tw_calli_1 F h2 (tw_runV (r := 0) (As := [.int (xs 1)]) (rest := []) F h2.1 (c_X11_plan l G ad1 w1 H.size (xs 1) ((xs 1).toInt) rfl k1_0 k1_14) (tw_gl kw_645 rfl) km_X11_plan kv_X11_plan rfl rfl ⟨(Nat.le_of_ble_eq_true rfl), (Nat.le_of_ble_eq_true rfl)⟩ (by decide) k1_0 rfl rfl hl.1 rfl (Nat.le_of_ble_eq_true rfl) dL_law_800 ⟨(Nat.le_of_ble_eq_true rfl), (Nat.le_of_ble_eq_true rfl)⟩) (fun r1 wv2 H locs hp3 h2 => ?_)
  obtain ⟨rfl, hc4⟩ := hp3
  refine lv_aload_n hx hb dL_law_803 rfl (lv_at hl 2 rfl) ?_
  refine lv_aload_n hx hb dL_law_804 rfl (lv_at hl 4 rfl) ?_
  refine lv_iload hx hb dL_law_805 (lv_at hl 0 rfl) ?_
  refine lv_iconst (v := 1) hx hb dL_law_807 (by decide) ?_
  refine lv_iadd hx hb dL_law_808 ?_
  refine tw_cv (v := (1 : Int32)) (by decide) ?_
  refine va_sld hx hb hX hbl hbA h2.1.2.2 (tw_ix (j := 1) (by decide) (by decide)).1 dL_law_809 ?_
  refine tw_cv (v := xs 1) rfl ?_
  refine tw_calli_2 F h2 (tw_runV (r := 0) (As := [.int (xs 1)]) (rest := [.int (-100 : Int32)]) F h2.2.1 (c_X12_plan l G ad2 w2 H.size (xs 1) ((xs 1).toInt) rfl k2_0) (tw_gl kw_1456 rfl) km_X12_plan kv_X12_plan rfl rfl ⟨(Nat.le_of_ble_eq_true rfl), (Nat.le_of_ble_eq_true rfl)⟩ (by decide) k2_0 rfl rfl hl.1 rfl (Nat.le_of_ble_eq_true rfl) dL_law_810 ⟨(Nat.le_of_ble_eq_true rfl), (Nat.le_of_ble_eq_true rfl)⟩) (fun r5 wv6 H locs hp7 h2 => ?_)
  obtain ⟨rfl, hc8⟩ := hp7
  refine lv_icmp_eq (tgt := 1975) hx hb dL_law_813 (by decide) (fun _ => ?_) (fun c => absurd c (by decide))
  exact law_tail F hr hlk hX hbl h2.1.2.2 (Nat.le_of_ble_eq_true rfl) (Nat.le_of_ble_eq_true rfl) (lv_sub hl [0, 1, 2, 3, 4] rfl)
set_option maxHeartbeats 4000000 in
set_option maxRecDepth 100000 in
theorem law_case_12 {p : Program} {l : Launch} {e : Env} {s : State} {m : MethodId} {below : List Frame} {meth : Method} {c : Code} {G : tw_G} {b : Nat} {xs : Nat → Int32} (hst : l.stackTraces = false) (F : tw_F p m c code 7 s #[Value.ref b] RL G (fun q => s.heap.size ≤ q)) (hr : meth.sig.returnType = ret) (hlk : meth.locks = false) (hX : va_X b 7 xs s s.heap) (hbl : b < s.heap.size) {ad1 ad2 : Nat → Nat} {w1 w2 : Nat → va_E} {ao : Nat} (k1_0 : w1 0 = .inr (11, [.ref (ad1 4), .ref (ad1 14), .ref (ad1 156), .ref (ad1 221), .ref (ad1 225), .ref (ad1 233), .ref (ad1 236), .int (0 : Int32), .ref (ad1 237), .int (0 : Int32), .ref (ad1 238)])) (k1_14 : w1 14 = .inr (2, [.ref (ad1 4), .ref (ad1 1), .ref (ad1 15), .ref (ad1 16), .ref (ad1 17), .int (0 : Int32), .int (0 : Int32), .int (0 : Int32)])) (k2_0 : w2 0 = .inr (12, [.int (0 : Int32), .int (2 : Int32), .int (1 : Int32), .ref (ad2 1), .ref (ad2 2), .ref (ad2 3), .ref (ad2 4), .ref (ad2 5), .int (0 : Int32), .ref (ad2 6), .ref (ad2 7), .ref (ad2 8), .int (0 : Int32), .ref (ad2 9), .ref (ad2 10), .ref (ad2 11), .ref (ad2 12), .int (0 : Int32), .ref (ad2 13), .ref (ad2 14), .ref (ad2 15), .ref (ad2 16), .ref (ad2 17), .ref (ad2 18), .ref (ad2 19), .ref (ad2 20), .ref (ad2 21), .ref (ad2 22), .ref (ad2 23), .ref (ad2 24), .ref (ad2 25), .ref (ad2 26), .ref (ad2 27), .ref (ad2 28), .ref (ad2 29), .ref (ad2 30), .ref (ad2 31), .ref (ad2 32), .ref (ad2 33), .ref (ad2 34), .int (0 : Int32), .int (0 : Int32), .int (0 : Int32), .ref (G.2.2 (100 + 10)), .ref (ad2 35), .ref (ad2 36), .ref (ad2 37), .int (0 : Int32), .ref (ad2 38), .ref (ad2 39), .ref (ad2 40), .ref (ad2 41), .ref (ad2 42), .ref (ad2 43), .ref (ad2 44), .ref (ad2 45), .ref (ad2 46), .ref (ad2 47), .ref (ad2 48), .ref (ad2 49), .ref (ad2 50), .ref (ad2 51), .ref (ad2 52), .ref (ad2 53), .ref (ad2 54), .ref (ad2 55), .ref (ad2 56), .ref (ad2 57), .ref (ad2 58), .ref (ad2 59), .int (0 : Int32), .ref (ad2 60), .int (0 : Int32), .ref (ad2 61), .ref (ad2 62), .int (0 : Int32), .ref (ad2 63), .ref (ad2 64), .ref (ad2 65), .ref (ad2 66), .ref (ad2 67), .ref (ad2 68), .int (0 : Int32), .ref (ad2 69), .ref (ad2 70), .ref (ad2 71), .ref (ad2 72), .ref (ad2 73), .int (0 : Int32), .int (0 : Int32), .int (0 : Int32), .ref (ad2 74), .ref (ad2 75), .ref (ad2 76), .ref (ad2 77), .ref (ad2 78), .ref (ad2 79)])) {H : Heap} {locs : List Loc} (h2 : tw_2 G 244 ad1 w1 80 ad2 w2 (fun q => s.heap.size ≤ q) s H locs) {ls : Array Slot} (hl : lv_has ls 7 [(4, .int (0 : Int32)), (3, .ref ao), (2, .ref (ad2 0)), (1, .ref (ad1 0)), (0, .ref b)]) {cells slots : Nat} (h3 : cells ≤ 1000) (h4 : slots ≤ 20000) : W p l e room_1 s m #[Value.ref b] below meth c H locs cells slots (lw_Z below #[Value.ref b] s) (F0 m 818 ls []) := by
  refine W.widen (k := 1000) (n := 20000) h3 h4 ?_
  have hx := F.1.1
  have hb := F.1.2.1
  have hbA : ¬ (fun q : Nat => s.heap.size ≤ q) b := Nat.not_le.mpr hbl
  refine lv_aload_n hx hb dL_law_818 rfl (lv_at hl 3 rfl) ?_
  refine lv_aload_n hx hb dL_law_819 rfl (lv_at hl 4 rfl) ?_
  refine lv_iload hx hb dL_law_820 (lv_at hl 0 rfl) ?_
  refine lv_iconst (v := 1) hx hb dL_law_822 (by decide) ?_
  refine lv_iadd hx hb dL_law_823 ?_
  refine tw_cv (v := (1 : Int32)) (by decide) ?_
  refine va_sld hx hb hX hbl hbA h2.1.2.2 (tw_ix (j := 1) (by decide) (by decide)).1 dL_law_824 ?_
  refine tw_cv (v := xs 1) rfl ?_
  refine tw_calli_1 F h2 (tw_runV (r := 0) (As := [.int (xs 1)]) (rest := []) F h2.1 (c_X11_unplan l G ad1 w1 H.size (xs 1) ((xs 1).toInt) rfl k1_0 k1_14) (tw_gl kw_836 rfl) km_X11_unplan kv_X11_unplan rfl rfl ⟨(Nat.le_of_ble_eq_true rfl), (Nat.le_of_ble_eq_true rfl)⟩ (by decide) k1_0 rfl rfl hl.1 rfl (Nat.le_of_ble_eq_true rfl) dL_law_825 ⟨(Nat.le_of_ble_eq_true rfl), (Nat.le_of_ble_eq_true rfl)⟩) (fun r1 wv2 H locs hp3 h2 => ?_)
  obtain ⟨rfl, hc4⟩ := hp3
  refine lv_aload_n hx hb dL_law_828 rfl (lv_at hl 2 rfl) ?_
  refine lv_aload_n hx hb dL_law_829 rfl (lv_at hl 4 rfl) ?_
  refine lv_iload hx hb dL_law_830 (lv_at hl 0 rfl) ?_
  refine lv_iconst (v := 1) hx hb dL_law_832 (by decide) ?_
  refine lv_iadd hx hb dL_law_833 ?_
  refine tw_cv (v := (1 : Int32)) (by decide) ?_
  refine va_sld hx hb hX hbl hbA h2.1.2.2 (tw_ix (j := 1) (by decide) (by decide)).1 dL_law_834 ?_
  refine tw_cv (v := xs 1) rfl ?_
  refine tw_calli_2 F h2 (tw_runV (r := 0) (As := [.int (xs 1)]) (rest := [.int (0 : Int32)]) F h2.2.1 (c_X12_unplan l G ad2 w2 H.size (xs 1) ((xs 1).toInt) rfl k2_0) (tw_gl kw_1440 rfl) km_X12_unplan kv_X12_unplan rfl rfl ⟨(Nat.le_of_ble_eq_true rfl), (Nat.le_of_ble_eq_true rfl)⟩ (by decide) k2_0 rfl rfl hl.1 rfl (Nat.le_of_ble_eq_true rfl) dL_law_835 ⟨(Nat.le_of_ble_eq_true rfl), (Nat.le_of_ble_eq_true rfl)⟩) (fun r5 wv6 H locs hp7 h2 => ?_)
  obtain ⟨rfl, hc8⟩ := hp7
  refine lv_icmp_eq (tgt := 1975) hx hb dL_law_838 (by decide) (fun _ => ?_) (fun c => absurd c (by decide))
  exact law_tail F hr hlk hX hbl h2.1.2.2 (Nat.le_of_ble_eq_true rfl) (Nat.le_of_ble_eq_true rfl) (lv_sub hl [0, 1, 2, 3, 4] rfl)
set_option maxHeartbeats 4000000 in
set_option maxRecDepth 100000 in
theorem law_case_13 {p : Program} {l : Launch} {e : Env} {s : State} {m : MethodId} {below : List Frame} {meth : Method} {c : Code} {G : tw_G} {b : Nat} {xs : Nat → Int32} (hst : l.stackTraces = false) (F : tw_F p m c code 7 s #[Value.ref b] RL G (fun q => s.heap.size ≤ q)) (hr : meth.sig.returnType = ret) (hlk : meth.locks = false) (hX : va_X b 7 xs s s.heap) (hbl : b < s.heap.size) {ad1 ad2 : Nat → Nat} {w1 w2 : Nat → va_E} {ao : Nat} (k1_0 : w1 0 = .inr (11, [.ref (ad1 4), .ref (ad1 14), .ref (ad1 156), .ref (ad1 221), .ref (ad1 225), .ref (ad1 233), .ref (ad1 236), .int (0 : Int32), .ref (ad1 237), .int (0 : Int32), .ref (ad1 238)])) (k1_4 : w1 4 = .inr (9, [.int (2 : Int32), .int (1 : Int32), .ref (ad1 5), .ref (ad1 6), .ref (ad1 7), .ref (ad1 8), .ref (ad1 9), .ref (ad1 10), .ref (ad1 12)])) (k1_14 : w1 14 = .inr (2, [.ref (ad1 4), .ref (ad1 1), .ref (ad1 15), .ref (ad1 16), .ref (ad1 17), .int (0 : Int32), .int (0 : Int32), .int (0 : Int32)])) (k1_10 : w1 10 = .inr (7, [.int (30 : Int32), .int (3 : Int32), .ref (ad1 11), .int (0 : Int32)])) (k1_12 : w1 12 = .inr (7, [.int (20 : Int32), .int (4 : Int32), .ref (ad1 13), .int (0 : Int32)])) (k1_156 : w1 156 = .inr (0, [.ref (ad1 1), .ref (ad1 157), .ref (ad1 158), .int (0 : Int32), .ref (ad1 159)])) (k1_159 : w1 159 = .inr (7, [.int (20 : Int32), .int (4 : Int32), .ref (ad1 160), .int (0 : Int32)])) (k2_0 : w2 0 = .inr (12, [.int (0 : Int32), .int (2 : Int32), .int (1 : Int32), .ref (ad2 1), .ref (ad2 2), .ref (ad2 3), .ref (ad2 4), .ref (ad2 5), .int (0 : Int32), .ref (ad2 6), .ref (ad2 7), .ref (ad2 8), .int (0 : Int32), .ref (ad2 9), .ref (ad2 10), .ref (ad2 11), .ref (ad2 12), .int (0 : Int32), .ref (ad2 13), .ref (ad2 14), .ref (ad2 15), .ref (ad2 16), .ref (ad2 17), .ref (ad2 18), .ref (ad2 19), .ref (ad2 20), .ref (ad2 21), .ref (ad2 22), .ref (ad2 23), .ref (ad2 24), .ref (ad2 25), .ref (ad2 26), .ref (ad2 27), .ref (ad2 28), .ref (ad2 29), .ref (ad2 30), .ref (ad2 31), .ref (ad2 32), .ref (ad2 33), .ref (ad2 34), .int (0 : Int32), .int (0 : Int32), .int (0 : Int32), .ref (G.2.2 (100 + 10)), .ref (ad2 35), .ref (ad2 36), .ref (ad2 37), .int (0 : Int32), .ref (ad2 38), .ref (ad2 39), .ref (ad2 40), .ref (ad2 41), .ref (ad2 42), .ref (ad2 43), .ref (ad2 44), .ref (ad2 45), .ref (ad2 46), .ref (ad2 47), .ref (ad2 48), .ref (ad2 49), .ref (ad2 50), .ref (ad2 51), .ref (ad2 52), .ref (ad2 53), .ref (ad2 54), .ref (ad2 55), .ref (ad2 56), .ref (ad2 57), .ref (ad2 58), .ref (ad2 59), .int (0 : Int32), .ref (ad2 60), .int (0 : Int32), .ref (ad2 61), .ref (ad2 62), .int (0 : Int32), .ref (ad2 63), .ref (ad2 64), .ref (ad2 65), .ref (ad2 66), .ref (ad2 67), .ref (ad2 68), .int (0 : Int32), .ref (ad2 69), .ref (ad2 70), .ref (ad2 71), .ref (ad2 72), .ref (ad2 73), .int (0 : Int32), .int (0 : Int32), .int (0 : Int32), .ref (ad2 74), .ref (ad2 75), .ref (ad2 76), .ref (ad2 77), .ref (ad2 78), .ref (ad2 79)])) {H : Heap} {locs : List Loc} (h2 : tw_2 G 244 ad1 w1 80 ad2 w2 (fun q => s.heap.size ≤ q) s H locs) {ls : Array Slot} (hl : lv_has ls 7 [(4, .int (0 : Int32)), (3, .ref ao), (2, .ref (ad2 0)), (1, .ref (ad1 0)), (0, .ref b)]) {cells slots : Nat} (h3 : cells ≤ 1000) (h4 : slots ≤ 20000) : W p l e room_1 s m #[Value.ref b] below meth c H locs cells slots (lw_Z below #[Value.ref b] s) (F0 m 843 ls []) := by
  refine W.widen (k := 1000) (n := 20000) h3 h4 ?_
  have hx := F.1.1
  have hb := F.1.2.1
  have hbA : ¬ (fun q : Nat => s.heap.size ≤ q) b := Nat.not_le.mpr hbl
  refine lv_aload_n hx hb dL_law_843 rfl (lv_at hl 3 rfl) ?_
  refine lv_aload_n hx hb dL_law_844 rfl (lv_at hl 4 rfl) ?_
  refine lv_iload hx hb dL_law_845 (lv_at hl 0 rfl) ?_
  refine lv_iconst (v := 1) hx hb dL_law_847 (by decide) ?_
  refine lv_iadd hx hb dL_law_848 ?_
  refine tw_cv (v := (1 : Int32)) (by decide) ?_
  refine va_sld hx hb hX hbl hbA h2.1.2.2 (tw_ix (j := 1) (by decide) (by decide)).1 dL_law_849 ?_
  refine tw_cv (v := xs 1) rfl ?_
  refine tw_calli_1 F h2 (tw_runV (r := 0) (As := [.int (xs 1)]) (rest := []) F h2.1 (c_X11_count l G ad1 w1 H.size (xs 1) ((xs 1).toInt) rfl k1_0 k1_4 k1_14 k1_10 k1_12 k1_156 k1_159) (tw_gl kw_840 rfl) km_X11_count kv_X11_count rfl rfl ⟨(Nat.le_of_ble_eq_true rfl), (Nat.le_of_ble_eq_true rfl)⟩ (by decide) k1_0 rfl rfl hl.1 rfl (Nat.le_of_ble_eq_true rfl) dL_law_850 ⟨(Nat.le_of_ble_eq_true rfl), (Nat.le_of_ble_eq_true rfl)⟩) (fun r1 wv2 H locs hp3 h2 => ?_)
  rcases hp3 with ⟨rfl, hc4⟩ | ⟨rfl, hc5⟩ | ⟨rfl, hc6⟩ | ⟨rfl, hc7⟩
  · skip
    refine lv_aload_n hx hb dL_law_853 rfl (lv_at hl 2 rfl) ?_
    refine lv_aload_n hx hb dL_law_854 rfl (lv_at hl 4 rfl) ?_
    refine lv_iload hx hb dL_law_855 (lv_at hl 0 rfl) ?_
    refine lv_iconst (v := 1) hx hb dL_law_857 (by decide) ?_
    refine lv_iadd hx hb dL_law_858 ?_
    refine tw_cv (v := (1 : Int32)) (by decide) ?_
    refine va_sld hx hb hX hbl hbA h2.1.2.2 (tw_ix (j := 1) (by decide) (by decide)).1 dL_law_859 ?_
    refine tw_cv (v := xs 1) rfl ?_
    refine tw_calli_2 F h2 (tw_runV (r := 0) (As := [.int (xs 1)]) (rest := [.int (2 : Int32)]) F h2.2.1 (c_X12_count l G ad2 w2 H.size (xs 1) ((xs 1).toInt) rfl k2_0) (tw_gl kw_1444 rfl) km_X12_count kv_X12_count rfl rfl ⟨(Nat.le_of_ble_eq_true rfl), (Nat.le_of_ble_eq_true rfl)⟩ (by decide) k2_0 rfl rfl hl.1 rfl (Nat.le_of_ble_eq_true rfl) dL_law_860 ⟨(Nat.le_of_ble_eq_true rfl), (Nat.le_of_ble_eq_true rfl)⟩) (fun r8 wv9 H locs hp10 h2 => ?_)
    rcases hp10 with ⟨rfl, hc11⟩ | ⟨rfl, hc12⟩ | ⟨rfl, hc13⟩ | ⟨rfl, hc14⟩
    · skip
      refine lv_icmp_eq (tgt := 1975) hx hb dL_law_863 (by decide) (fun _ => ?_) (fun c => absurd c (by decide))
      exact law_tail F hr hlk hX hbl h2.1.2.2 (Nat.le_of_ble_eq_true rfl) (Nat.le_of_ble_eq_true rfl) (lv_sub hl [0, 1, 2, 3, 4] rfl)
    · exfalso; omega
    · exfalso; omega
    · exfalso; omega
  · skip
    refine lv_aload_n hx hb dL_law_853 rfl (lv_at hl 2 rfl) ?_
    refine lv_aload_n hx hb dL_law_854 rfl (lv_at hl 4 rfl) ?_
    refine lv_iload hx hb dL_law_855 (lv_at hl 0 rfl) ?_
    refine lv_iconst (v := 1) hx hb dL_law_857 (by decide) ?_
    refine lv_iadd hx hb dL_law_858 ?_
    refine tw_cv (v := (1 : Int32)) (by decide) ?_
    refine va_sld hx hb hX hbl hbA h2.1.2.2 (tw_ix (j := 1) (by decide) (by decide)).1 dL_law_859 ?_
    refine tw_cv (v := xs 1) rfl ?_
    refine tw_calli_2 F h2 (tw_runV (r := 0) (As := [.int (xs 1)]) (rest := [.int (1 : Int32)]) F h2.2.1 (c_X12_count l G ad2 w2 H.size (xs 1) ((xs 1).toInt) rfl k2_0) (tw_gl kw_1444 rfl) km_X12_count kv_X12_count rfl rfl ⟨(Nat.le_of_ble_eq_true rfl), (Nat.le_of_ble_eq_true rfl)⟩ (by decide) k2_0 rfl rfl hl.1 rfl (Nat.le_of_ble_eq_true rfl) dL_law_860 ⟨(Nat.le_of_ble_eq_true rfl), (Nat.le_of_ble_eq_true rfl)⟩) (fun r15 wv16 H locs hp17 h2 => ?_)
    rcases hp17 with ⟨rfl, hc18⟩ | ⟨rfl, hc19⟩ | ⟨rfl, hc20⟩ | ⟨rfl, hc21⟩
    · exfalso; omega
    · skip
      refine lv_icmp_eq (tgt := 1975) hx hb dL_law_863 (by decide) (fun _ => ?_) (fun c => absurd c (by decide))
      exact law_tail F hr hlk hX hbl h2.1.2.2 (Nat.le_of_ble_eq_true rfl) (Nat.le_of_ble_eq_true rfl) (lv_sub hl [0, 1, 2, 3, 4] rfl)
    · exfalso; omega
    · exfalso; omega
  · skip
    refine lv_aload_n hx hb dL_law_853 rfl (lv_at hl 2 rfl) ?_
    refine lv_aload_n hx hb dL_law_854 rfl (lv_at hl 4 rfl) ?_
    refine lv_iload hx hb dL_law_855 (lv_at hl 0 rfl) ?_
    refine lv_iconst (v := 1) hx hb dL_law_857 (by decide) ?_
    refine lv_iadd hx hb dL_law_858 ?_
    refine tw_cv (v := (1 : Int32)) (by decide) ?_
    refine va_sld hx hb hX hbl hbA h2.1.2.2 (tw_ix (j := 1) (by decide) (by decide)).1 dL_law_859 ?_
    refine tw_cv (v := xs 1) rfl ?_
    refine tw_calli_2 F h2 (tw_runV (r := 0) (As := [.int (xs 1)]) (rest := [.int (0 : Int32)]) F h2.2.1 (c_X12_count l G ad2 w2 H.size (xs 1) ((xs 1).toInt) rfl k2_0) (tw_gl kw_1444 rfl) km_X12_count kv_X12_count rfl rfl ⟨(Nat.le_of_ble_eq_true rfl), (Nat.le_of_ble_eq_true rfl)⟩ (by decide) k2_0 rfl rfl hl.1 rfl (Nat.le_of_ble_eq_true rfl) dL_law_860 ⟨(Nat.le_of_ble_eq_true rfl), (Nat.le_of_ble_eq_true rfl)⟩) (fun r22 wv23 H locs hp24 h2 => ?_)
    rcases hp24 with ⟨rfl, hc25⟩ | ⟨rfl, hc26⟩ | ⟨rfl, hc27⟩ | ⟨rfl, hc28⟩
    · exfalso; omega
    · exfalso; omega
    · skip
      refine lv_icmp_eq (tgt := 1975) hx hb dL_law_863 (by decide) (fun _ => ?_) (fun c => absurd c (by decide))
      exact law_tail F hr hlk hX hbl h2.1.2.2 (Nat.le_of_ble_eq_true rfl) (Nat.le_of_ble_eq_true rfl) (lv_sub hl [0, 1, 2, 3, 4] rfl)
    · exfalso; omega
  · skip
    refine lv_aload_n hx hb dL_law_853 rfl (lv_at hl 2 rfl) ?_
    refine lv_aload_n hx hb dL_law_854 rfl (lv_at hl 4 rfl) ?_
    refine lv_iload hx hb dL_law_855 (lv_at hl 0 rfl) ?_
    refine lv_iconst (v := 1) hx hb dL_law_857 (by decide) ?_
    refine lv_iadd hx hb dL_law_858 ?_
    refine tw_cv (v := (1 : Int32)) (by decide) ?_
    refine va_sld hx hb hX hbl hbA h2.1.2.2 (tw_ix (j := 1) (by decide) (by decide)).1 dL_law_859 ?_
    refine tw_cv (v := xs 1) rfl ?_
    refine tw_calli_2 F h2 (tw_runV (r := 0) (As := [.int (xs 1)]) (rest := [.int (-1 : Int32)]) F h2.2.1 (c_X12_count l G ad2 w2 H.size (xs 1) ((xs 1).toInt) rfl k2_0) (tw_gl kw_1444 rfl) km_X12_count kv_X12_count rfl rfl ⟨(Nat.le_of_ble_eq_true rfl), (Nat.le_of_ble_eq_true rfl)⟩ (by decide) k2_0 rfl rfl hl.1 rfl (Nat.le_of_ble_eq_true rfl) dL_law_860 ⟨(Nat.le_of_ble_eq_true rfl), (Nat.le_of_ble_eq_true rfl)⟩) (fun r29 wv30 H locs hp31 h2 => ?_)
    rcases hp31 with ⟨rfl, hc32⟩ | ⟨rfl, hc33⟩ | ⟨rfl, hc34⟩ | ⟨rfl, hc35⟩
    · exfalso; omega
    · exfalso; omega
    · exfalso; omega
    · skip
      refine lv_icmp_eq (tgt := 1975) hx hb dL_law_863 (by decide) (fun _ => ?_) (fun c => absurd c (by decide))
      exact law_tail F hr hlk hX hbl h2.1.2.2 (Nat.le_of_ble_eq_true rfl) (Nat.le_of_ble_eq_true rfl) (lv_sub hl [0, 1, 2, 3, 4] rfl)
