set_option maxHeartbeats 4000000 in
set_option maxRecDepth 100000 in
theorem law_switch {p : Program} {l : Launch} {e : Env} {s : State} {m : MethodId} {below : List Frame} {meth : Method} {c : Code} {G : tw_G} {b : Nat} {xs : Nat → Int32} (hst : l.stackTraces = false) (F : tw_F p m c code 7 s #[Value.ref b] RL G (fun q => s.heap.size ≤ q)) (hr : meth.sig.returnType = ret) (hlk : meth.locks = false) (hX : va_X b 7 xs s s.heap) (hbl : b < s.heap.size) {ad1 ad2 : Nat → Nat} {w1 w2 : Nat → va_E} {ao : Nat} (k1_0 : w1 0 = .inr (11, [.ref (ad1 4), .ref (ad1 14), .ref (ad1 156), .ref (ad1 221), .ref (ad1 225), .ref (ad1 233), .ref (ad1 236), .int (0 : Int32), .ref (ad1 237), .int (0 : Int32), .ref (ad1 238)])) (k1_4 : w1 4 = .inr (9, [.int (2 : Int32), .int (1 : Int32), .ref (ad1 5), .ref (ad1 6), .ref (ad1 7), .ref (ad1 8), .ref (ad1 9), .ref (ad1 10), .ref (ad1 12)])) (k1_5 : w1 5 = .inl (G.2.1 0, 5, .inl (upd (upd (upd (upd (upd (fun _ => 0) 0 (20000 : Int32)) 1 (20000 : Int32)) 2 (20000 : Int32)) 3 (20000 : Int32)) 4 (20000 : Int32)))) (k1_6 : w1 6 = .inl (G.2.1 0, 5, .inl (upd (upd (upd (upd (upd (fun _ => 0) 0 (300 : Int32)) 1 (300 : Int32)) 2 (300 : Int32)) 3 (300 : Int32)) 4 (300 : Int32)))) (k1_7 : w1 7 = .inl (G.2.1 1, 5, .inl (upd (upd (upd (upd (upd (fun _ => 0) 0 (0 : Int32)) 1 (0 : Int32)) 2 (0 : Int32)) 3 (0 : Int32)) 4 (0 : Int32)))) (k1_10 : w1 10 = .inr (7, [.int (30 : Int32), .int (3 : Int32), .ref (ad1 11), .int (0 : Int32)])) (k1_12 : w1 12 = .inr (7, [.int (20 : Int32), .int (4 : Int32), .ref (ad1 13), .int (0 : Int32)])) (k1_14 : w1 14 = .inr (2, [.ref (ad1 4), .ref (ad1 1), .ref (ad1 15), .ref (ad1 16), .ref (ad1 17), .int (0 : Int32), .int (0 : Int32), .int (0 : Int32)])) (k1_156 : w1 156 = .inr (0, [.ref (ad1 1), .ref (ad1 157), .ref (ad1 158), .int (0 : Int32), .ref (ad1 159)])) (k1_159 : w1 159 = .inr (7, [.int (20 : Int32), .int (4 : Int32), .ref (ad1 160), .int (0 : Int32)])) (k1_8 : w1 8 = .inl (G.2.1 0, 24, .inl (upd (upd (upd (upd (upd (upd (upd (upd (upd (upd (upd (upd (upd (upd (upd (upd (upd (upd (upd (upd (upd (upd (upd (upd (fun _ => 0) 0 (0 : Int32)) 1 (10 : Int32)) 2 (40 : Int32)) 3 (1000 : Int32)) 4 (0 : Int32)) 5 (5 : Int32)) 6 (0 : Int32)) 7 (10 : Int32)) 8 (40 : Int32)) 9 (1000 : Int32)) 10 (0 : Int32)) 11 (5 : Int32)) 12 (0 : Int32)) 13 (10 : Int32)) 14 (40 : Int32)) 15 (1000 : Int32)) 16 (0 : Int32)) 17 (5 : Int32)) 18 (0 : Int32)) 19 (10 : Int32)) 20 (40 : Int32)) 21 (1000 : Int32)) 22 (0 : Int32)) 23 (5 : Int32)))) (k1_9 : w1 9 = .inl (G.2.1 0, 8, .inl (upd (upd (upd (upd (upd (upd (upd (upd (fun _ => 0) 0 (500 : Int32)) 1 (5 : Int32)) 2 (200 : Int32)) 3 (15000 : Int32)) 4 (3000 : Int32)) 5 (50 : Int32)) 6 (300 : Int32)) 7 (0 : Int32)))) (k1_11 : w1 11 = .inl (G.2.1 0, 90, .inl (fun _ => 0))) (k1_13 : w1 13 = .inl (G.2.1 0, 80, .inl (fun _ => 0))) (k1_15 : w1 15 = .inl (G.2.1 2, 6, .inr (.inr (.inr (.inr (va_up (va_up (va_up (va_up (va_up (va_up (fun _ => none) 0 (some (ad1 18))) 1 (some (ad1 41))) 2 (some (ad1 64))) 3 (some (ad1 87))) 4 (some (ad1 110))) 5 (some (ad1 133)))))))) (k1_18 : w1 18 = .inr (1, [.int (0 : Int32), .int (0 : Int32), .int (0 : Int32), .int (0 : Int32), .int (0 : Int32), .int (0 : Int32), .ref (ad1 19), .ref (ad1 21), .ref (ad1 23), .ref (ad1 25), .ref (ad1 27), .ref (ad1 29), .int (0 : Int32), .int (0 : Int32)])) (k1_19 : w1 19 = .inr (7, [.int (4 : Int32), .int (2 : Int32), .ref (ad1 20), .int (0 : Int32)])) (k1_21 : w1 21 = .inr (7, [.int (12 : Int32), .int (3 : Int32), .ref (ad1 22), .int (0 : Int32)])) (k1_23 : w1 23 = .inr (7, [.int (5 : Int32), .int (3 : Int32), .ref (ad1 24), .int (0 : Int32)])) (k1_25 : w1 25 = .inr (7, [.int (4 : Int32), .int (2 : Int32), .ref (ad1 26), .int (0 : Int32)])) (k1_17 : w1 17 = .inl (G.2.1 0, 4, .inl (fun _ => 0))) (k1_236 : w1 236 = .inl (G.2.1 0, 100, .inl (fun _ => 0))) (k1_233 : w1 233 = .inr (3, [.ref (ad1 234), .int (0 : Int32), .ref (ad1 235), .int (0 : Int32), .int (0 : Int32), .int (0 : Int32), .int (0 : Int32), .int (0 : Int32), .null])) (k1_238 : w1 238 = .inr (8, [.ref (ad1 239), .int (0 : Int32), .ref (ad1 240), .ref (ad1 241), .ref (ad1 242), .ref (ad1 243), .int (0 : Int32), .int (0 : Int32)])) (k1_221 : w1 221 = .inr (5, [.ref (ad1 14), .ref (ad1 156), .ref (ad1 222), .ref (ad1 223), .ref (ad1 224)])) (k2_0 : w2 0 = .inr (12, [.int (0 : Int32), .int (2 : Int32), .int (1 : Int32), .ref (ad2 1), .ref (ad2 2), .ref (ad2 3), .ref (ad2 4), .ref (ad2 5), .int (0 : Int32), .ref (ad2 6), .ref (ad2 7), .ref (ad2 8), .int (0 : Int32), .ref (ad2 9), .ref (ad2 10), .ref (ad2 11), .ref (ad2 12), .int (0 : Int32), .ref (ad2 13), .ref (ad2 14), .ref (ad2 15), .ref (ad2 16), .ref (ad2 17), .ref (ad2 18), .ref (ad2 19), .ref (ad2 20), .ref (ad2 21), .ref (ad2 22), .ref (ad2 23), .ref (ad2 24), .ref (ad2 25), .ref (ad2 26), .ref (ad2 27), .ref (ad2 28), .ref (ad2 29), .ref (ad2 30), .ref (ad2 31), .ref (ad2 32), .ref (ad2 33), .ref (ad2 34), .int (0 : Int32), .int (0 : Int32), .int (0 : Int32), .ref (G.2.2 (100 + 10)), .ref (ad2 35), .ref (ad2 36), .ref (ad2 37), .int (0 : Int32), .ref (ad2 38), .ref (ad2 39), .ref (ad2 40), .ref (ad2 41), .ref (ad2 42), .ref (ad2 43), .ref (ad2 44), .ref (ad2 45), .ref (ad2 46), .ref (ad2 47), .ref (ad2 48), .ref (ad2 49), .ref (ad2 50), .ref (ad2 51), .ref (ad2 52), .ref (ad2 53), .ref (ad2 54), .ref (ad2 55), .ref (ad2 56), .ref (ad2 57), .ref (ad2 58), .ref (ad2 59), .int (0 : Int32), .ref (ad2 60), .int (0 : Int32), .ref (ad2 61), .ref (ad2 62), .int (0 : Int32), .ref (ad2 63), .ref (ad2 64), .ref (ad2 65), .ref (ad2 66), .ref (ad2 67), .ref (ad2 68), .int (0 : Int32), .ref (ad2 69), .ref (ad2 70), .ref (ad2 71), .ref (ad2 72), .ref (ad2 73), .int (0 : Int32), .int (0 : Int32), .int (0 : Int32), .ref (ad2 74), .ref (ad2 75), .ref (ad2 76), .ref (ad2 77), .ref (ad2 78), .ref (ad2 79)])) (k2_1 : w2 1 = .inl (G.2.1 0, 5, .inl (upd (upd (upd (upd (upd (fun _ => 0) 0 (20000 : Int32)) 1 (20000 : Int32)) 2 (20000 : Int32)) 3 (20000 : Int32)) 4 (20000 : Int32)))) (k2_2 : w2 2 = .inl (G.2.1 0, 5, .inl (upd (upd (upd (upd (upd (fun _ => 0) 0 (300 : Int32)) 1 (300 : Int32)) 2 (300 : Int32)) 3 (300 : Int32)) 4 (300 : Int32)))) (k2_3 : w2 3 = .inl (G.2.1 1, 5, .inl (upd (upd (upd (upd (upd (fun _ => 0) 0 (0 : Int32)) 1 (0 : Int32)) 2 (0 : Int32)) 3 (0 : Int32)) 4 (0 : Int32)))) (k2_31 : w2 31 = .inl (G.2.1 0, 6, .inl (upd (upd (upd (upd (upd (upd (fun _ => 0) 0 (0 : Int32)) 1 (0 : Int32)) 2 (0 : Int32)) 3 (0 : Int32)) 4 (0 : Int32)) 5 (0 : Int32)))) (k2_4 : w2 4 = .inl (G.2.1 0, 24, .inl (upd (upd (upd (upd (upd (upd (upd (upd (upd (upd (upd (upd (upd (upd (upd (upd (fun _ => 0) 1 (10 : Int32)) 2 (40 : Int32)) 3 (1000 : Int32)) 5 (5 : Int32)) 7 (10 : Int32)) 8 (40 : Int32)) 9 (1000 : Int32)) 11 (5 : Int32)) 13 (10 : Int32)) 14 (40 : Int32)) 15 (1000 : Int32)) 17 (5 : Int32)) 19 (10 : Int32)) 20 (40 : Int32)) 21 (1000 : Int32)) 23 (5 : Int32)))) (k2_5 : w2 5 = .inl (G.2.1 0, 8, .inl (upd (upd (upd (upd (upd (upd (upd (fun _ => 0) 0 (500 : Int32)) 1 (5 : Int32)) 2 (200 : Int32)) 3 (15000 : Int32)) 4 (3000 : Int32)) 5 (50 : Int32)) 6 (300 : Int32)))) (k2_6 : w2 6 = .inl (G.2.1 0, 30, .inl (fun _ => 0))) (k2_7 : w2 7 = .inl (G.2.1 0, 30, .inl (fun _ => 0))) (k2_8 : w2 8 = .inl (G.2.1 0, 30, .inl (fun _ => 0))) (k2_9 : w2 9 = .inl (G.2.1 0, 20, .inl (fun _ => 0))) (k2_10 : w2 10 = .inl (G.2.1 0, 20, .inl (fun _ => 0))) (k2_11 : w2 11 = .inl (G.2.1 0, 20, .inl (fun _ => 0))) (k2_12 : w2 12 = .inl (G.2.1 0, 20, .inl (fun _ => 0))) (k2_13 : w2 13 = .inl (G.2.1 0, 6, .inl (fun _ => 0))) (k2_14 : w2 14 = .inl (G.2.1 0, 6, .inl (fun _ => 0))) (k2_15 : w2 15 = .inl (G.2.1 0, 6, .inl (fun _ => 0))) (k2_16 : w2 16 = .inl (G.2.1 0, 6, .inl (fun _ => 0))) (k2_17 : w2 17 = .inl (G.2.1 0, 6, .inl (fun _ => 0))) (k2_18 : w2 18 = .inl (G.2.1 0, 6, .inl (fun _ => 0))) (k2_19 : w2 19 = .inl (G.2.1 0, 6, .inl (fun _ => 0))) (k2_22 : w2 22 = .inl (G.2.1 0, 6, .inl (fun _ => 0))) (k2_26 : w2 26 = .inl (G.2.1 0, 6, .inl (fun _ => 0))) (k2_30 : w2 30 = .inl (G.2.1 1, 6, .inl (fun _ => 0))) (k2_58 : w2 58 = .inl (G.2.1 0, 4, .inl (fun _ => 0))) (k2_34 : w2 34 = .inl (G.2.1 0, 100, .inl (fun _ => 0))) (k2_36 : w2 36 = .inl (G.2.1 0, 17, .inl (fun _ => 0))) {H : Heap} {locs : List Loc} (h2 : tw_2 G 244 ad1 w1 80 ad2 w2 (fun q => s.heap.size ≤ q) s H locs) {ls : Array Slot} (hl : lv_has ls 7 [(4, .int (0 : Int32)), (3, .ref ao), (2, .ref (ad2 0)), (1, .ref (ad1 0)), (0, .ref b)]) {cells slots : Nat} (h3 : cells ≤ 1000) (h4 : slots ≤ 20000) : W p l e room_1 s m #[Value.ref b] below meth c H locs cells slots (lw_Z below #[Value.ref b] s) (F0 m 33 ls []) := by
  have hx := F.1.1
  have hb := F.1.2.1
  have hbA : ¬ (fun q : Nat => s.heap.size ≤ q) b := Nat.not_le.mpr hbl
  refine lv_aload_n hx hb dL_law_33 rfl (lv_at hl 4 rfl) ?_
  refine lv_iload hx hb dL_law_34 (lv_at hl 0 rfl) ?_
  refine va_sld hx hb hX hbl hbA h2.1.2.2 (tw_ix (j := 0) (by decide) (by decide)).1 dL_law_36 ?_
  refine lv_bipush (v := 63) hx hb dL_law_37 (by decide) ?_
  refine lv_iand hx hb dL_law_39 ?_
  obtain ⟨j, hj, ej⟩ := pk_andE (xs (0 : Int32).toNatClampNeg) (m := 63) 6 (by decide)
  refine tw_cv (v := nI j) ej ?_
  have ejt : (nI j).toInt = (j : Int) := nI_toInt (by omega)
  rcases (by omega : j = 0 ∨ j = 1 ∨ j = 2 ∨ j = 3 ∨ j = 4 ∨ j = 5 ∨ j = 6 ∨ j = 7 ∨ j = 8 ∨ j = 9 ∨ j = 10 ∨ j = 11 ∨ j = 12 ∨ j = 13 ∨ j = 14 ∨ j = 15 ∨ j = 16 ∨ j = 17 ∨ j = 18 ∨ j = 19 ∨ j = 20 ∨ j = 21 ∨ j = 22 ∨ j = 23 ∨ j = 24 ∨ j = 25 ∨ j = 26 ∨ j = 27 ∨ j = 28 ∨ j = 29 ∨ j = 30 ∨ j = 31 ∨ j = 32 ∨ j = 33 ∨ j = 34 ∨ j = 35 ∨ j = 36 ∨ j = 37 ∨ j = 38 ∨ j = 39 ∨ 40 ≤ j) with rfl | rfl | rfl | rfl | rfl | rfl | rfl | rfl | rfl | rfl | rfl | rfl | rfl | rfl | rfl | rfl | rfl | rfl | rfl | rfl | rfl | rfl | rfl | rfl | rfl | rfl | rfl | rfl | rfl | rfl | rfl | rfl | rfl | rfl | rfl | rfl | rfl | rfl | rfl | rfl | hj2
  · refine lv_tableIn (off := 176) (tgt := 216) hx hb dL_law_40 (by decide) (by decide) (by decide) (by decide) ?_
    exact law_case_0 hst F hr hlk hX hbl k1_0 k1_4 k1_5 k1_6 k1_7 k1_10 k1_12 k1_14 k1_156 k1_159 k2_0 k2_1 k2_2 k2_3 k2_31 h2 hl h3 h4
  · refine lv_tableIn (off := 213) (tgt := 253) hx hb dL_law_40 (by decide) (by decide) (by decide) (by decide) ?_
    exact law_case_1 hst F hr hlk hX hbl k1_0 k1_4 k1_5 k1_6 k1_14 k2_0 k2_1 k2_2 h2 hl h3 h4
  · refine lv_tableIn (off := 262) (tgt := 302) hx hb dL_law_40 (by decide) (by decide) (by decide) (by decide) ?_
    exact law_case_2 hst F hr hlk hX hbl k1_0 k1_4 k1_8 k1_14 k2_0 k2_4 h2 hl h3 h4
  · refine lv_tableIn (off := 311) (tgt := 351) hx hb dL_law_40 (by decide) (by decide) (by decide) (by decide) ?_
    exact law_case_3 hst F hr hlk hX hbl k1_0 k1_4 k1_9 k1_14 k2_0 k2_5 h2 hl h3 h4
  · refine lv_tableIn (off := 348) (tgt := 388) hx hb dL_law_40 (by decide) (by decide) (by decide) (by decide) ?_
    exact law_case_4 hst F hr hlk hX hbl k1_0 k1_4 k1_14 k1_10 k1_11 k2_0 k2_6 k2_7 k2_8 h2 hl h3 h4
  · refine lv_tableIn (off := 397) (tgt := 437) hx hb dL_law_40 (by decide) (by decide) (by decide) (by decide) ?_
    exact law_case_5 hst F hr hlk hX hbl k1_0 k1_14 k1_4 k1_12 k1_13 k2_0 k2_9 k2_10 k2_11 k2_12 h2 hl h3 h4
  · refine lv_tableIn (off := 458) (tgt := 498) hx hb dL_law_40 (by decide) (by decide) (by decide) (by decide) ?_
    exact law_case_6 hst F hr hlk hX hbl k1_0 k1_14 k1_15 k1_18 k1_19 k1_21 k1_23 k1_25 k2_0 k2_13 k2_14 k2_15 k2_16 k2_17 k2_18 k2_19 k2_22 k2_26 k2_30 h2 hl h3 h4
  · refine lv_tableIn (off := 545) (tgt := 585) hx hb dL_law_40 (by decide) (by decide) (by decide) (by decide) ?_
    exact law_case_7 hst F hr hlk hX hbl k1_0 k1_14 k2_0 h2 hl h3 h4
  · refine lv_tableIn (off := 594) (tgt := 634) hx hb dL_law_40 (by decide) (by decide) (by decide) (by decide) ?_
    exact law_case_8 hst F hr hlk hX hbl k1_0 k1_14 k2_0 h2 hl h3 h4
  · refine lv_tableIn (off := 655) (tgt := 695) hx hb dL_law_40 (by decide) (by decide) (by decide) (by decide) ?_
    exact law_case_9 hst F hr hlk hX hbl k1_0 k1_14 k2_0 h2 hl h3 h4
  · refine lv_tableIn (off := 716) (tgt := 756) hx hb dL_law_40 (by decide) (by decide) (by decide) (by decide) ?_
    exact law_case_10 hst F hr hlk hX hbl k1_0 k1_14 k2_0 h2 hl h3 h4
  · refine lv_tableIn (off := 753) (tgt := 793) hx hb dL_law_40 (by decide) (by decide) (by decide) (by decide) ?_
    exact law_case_11 hst F hr hlk hX hbl k1_0 k1_14 k2_0 h2 hl h3 h4
  · refine lv_tableIn (off := 778) (tgt := 818) hx hb dL_law_40 (by decide) (by decide) (by decide) (by decide) ?_
    exact law_case_12 hst F hr hlk hX hbl k1_0 k1_14 k2_0 h2 hl h3 h4
  · refine lv_tableIn (off := 803) (tgt := 843) hx hb dL_law_40 (by decide) (by decide) (by decide) (by decide) ?_
    exact law_case_13 hst F hr hlk hX hbl k1_0 k1_4 k1_14 k1_10 k1_12 k1_156 k1_159 k2_0 h2 hl h3 h4
  · refine lv_tableIn (off := 828) (tgt := 868) hx hb dL_law_40 (by decide) (by decide) (by decide) (by decide) ?_
    exact law_case_14 hst F hr hlk hX hbl k1_0 k1_14 k2_0 h2 hl h3 h4
  · refine lv_tableIn (off := 896) (tgt := 936) hx hb dL_law_40 (by decide) (by decide) (by decide) (by decide) ?_
    exact law_case_15 hst F hr hlk hX hbl k1_0 k1_14 k2_0 h2 hl h3 h4
  · refine lv_tableIn (off := 945) (tgt := 985) hx hb dL_law_40 (by decide) (by decide) (by decide) (by decide) ?_
    exact law_case_16 hst F hr hlk hX hbl k1_0 k1_4 k1_14 k2_0 k2_58 h2 hl h3 h4
  · refine lv_tableIn (off := 982) (tgt := 1022) hx hb dL_law_40 (by decide) (by decide) (by decide) (by decide) ?_
    exact law_case_17 hst F hr hlk hX hbl k1_0 k1_14 k2_0 h2 hl h3 h4
  · refine lv_tableIn (off := 1007) (tgt := 1047) hx hb dL_law_40 (by decide) (by decide) (by decide) (by decide) ?_
    exact law_case_18 hst F hr hlk hX hbl k1_0 k1_14 k1_17 k1_4 k2_0 k2_58 h2 hl h3 h4
  · refine lv_tableIn (off := 1020) (tgt := 1060) hx hb dL_law_40 (by decide) (by decide) (by decide) (by decide) ?_
    exact law_case_19 hst F hr hlk hX hbl k1_0 k1_236 k2_0 k2_34 h2 hl h3 h4
  · refine lv_tableIn (off := 1045) (tgt := 1085) hx hb dL_law_40 (by decide) (by decide) (by decide) (by decide) ?_
    exact law_case_20 hst F hr hlk hX hbl k1_0 k2_0 h2 hl h3 h4
  · refine lv_tableIn (off := 1070) (tgt := 1110) hx hb dL_law_40 (by decide) (by decide) (by decide) (by decide) ?_
    exact law_case_21 hst F hr hlk hX hbl k1_0 k1_156 k1_233 k1_238 k2_0 k2_36 h2 hl h3 h4
  · refine lv_tableIn (off := 1095) (tgt := 1135) hx hb dL_law_40 (by decide) (by decide) (by decide) (by decide) ?_
    exact law_case_22 hst F hr hlk hX hbl k1_0 k1_14 k2_0 h2 hl h3 h4
  · refine lv_tableIn (off := 1156) (tgt := 1196) hx hb dL_law_40 (by decide) (by decide) (by decide) (by decide) ?_
    exact law_case_23 hst F hr hlk hX hbl k1_0 k1_14 k2_0 h2 hl h3 h4
  · refine lv_tableIn (off := 1193) (tgt := 1233) hx hb dL_law_40 (by decide) (by decide) (by decide) (by decide) ?_
    exact law_case_24 hst F hr hlk hX hbl k1_0 k1_14 k2_0 h2 hl h3 h4
  · refine lv_tableIn (off := 1230) (tgt := 1270) hx hb dL_law_40 (by decide) (by decide) (by decide) (by decide) ?_
    exact law_case_25 hst F hr hlk hX hbl k1_0 k1_14 k2_0 h2 hl h3 h4
  · refine lv_tableIn (off := 1298) (tgt := 1338) hx hb dL_law_40 (by decide) (by decide) (by decide) (by decide) ?_
    exact law_case_26 hst F hr hlk hX hbl k1_0 k1_14 k2_0 h2 hl h3 h4
  · refine lv_tableIn (off := 1335) (tgt := 1375) hx hb dL_law_40 (by decide) (by decide) (by decide) (by decide) ?_
    exact law_case_27 hst F hr hlk hX hbl k1_0 k1_14 k1_17 k1_221 k2_0 k2_58 h2 hl h3 h4
  · refine lv_tableIn (off := 1360) (tgt := 1400) hx hb dL_law_40 (by decide) (by decide) (by decide) (by decide) ?_
    exact law_case_28 hst F hr hlk hX hbl k1_0 k1_14 k2_0 h2 hl h3 h4
  · refine lv_tableIn (off := 1421) (tgt := 1461) hx hb dL_law_40 (by decide) (by decide) (by decide) (by decide) ?_
    exact law_case_29 hst F hr hlk hX hbl k1_0 k1_14 k2_0 h2 hl h3 h4
  · refine lv_tableIn (off := 1470) (tgt := 1510) hx hb dL_law_40 (by decide) (by decide) (by decide) (by decide) ?_
    exact law_case_30 hst F hr hlk hX hbl k1_0 k1_14 k2_0 h2 hl h3 h4
  · refine lv_tableIn (off := 1519) (tgt := 1559) hx hb dL_law_40 (by decide) (by decide) (by decide) (by decide) ?_
    exact law_case_31 hst F hr hlk hX hbl k1_0 k1_14 k2_0 h2 hl h3 h4
  · refine lv_tableIn (off := 1568) (tgt := 1608) hx hb dL_law_40 (by decide) (by decide) (by decide) (by decide) ?_
    exact law_case_32 hst F hr hlk hX hbl k1_0 k1_14 k2_0 k2_31 h2 hl h3 h4
  · refine lv_tableIn (off := 1581) (tgt := 1621) hx hb dL_law_40 (by decide) (by decide) (by decide) (by decide) ?_
    exact law_case_33 hst F hr hlk hX hbl k1_0 k1_14 k2_0 h2 hl h3 h4
  · refine lv_tableIn (off := 1630) (tgt := 1670) hx hb dL_law_40 (by decide) (by decide) (by decide) (by decide) ?_
    exact law_case_34 hst F hr hlk hX hbl k1_0 k1_4 k1_7 k2_0 k2_3 h2 hl h3 h4
  · refine lv_tableIn (off := 1683) (tgt := 1723) hx hb dL_law_40 (by decide) (by decide) (by decide) (by decide) ?_
    exact law_case_35 hst F hr hlk hX hbl k1_0 k1_14 k2_0 h2 hl h3 h4
  · refine lv_tableIn (off := 1744) (tgt := 1784) hx hb dL_law_40 (by decide) (by decide) (by decide) (by decide) ?_
    exact law_case_36 hst F hr hlk hX hbl k1_0 k1_14 k2_0 h2 hl h3 h4
  · refine lv_tableIn (off := 1805) (tgt := 1845) hx hb dL_law_40 (by decide) (by decide) (by decide) (by decide) ?_
    exact law_case_37 hst F hr hlk hX hbl k1_0 k1_14 k2_0 h2 hl h3 h4
  · refine lv_tableIn (off := 1842) (tgt := 1882) hx hb dL_law_40 (by decide) (by decide) (by decide) (by decide) ?_
    exact law_case_38 hst F hr hlk hX hbl k1_0 k1_14 k2_0 h2 hl h3 h4
  · refine lv_tableIn (off := 1879) (tgt := 1919) hx hb dL_law_40 (by decide) (by decide) (by decide) (by decide) ?_
    exact law_case_39 hst F hr hlk hX hbl k1_0 k2_0 h2 hl h3 h4
  · refine lv_tableOut (tgt := 1975) hx hb dL_law_40 (Or.inr (by omega)) (by decide) ?_
    exact law_tail F hr hlk hX hbl h2.1.2.2 (Nat.le_trans h3 (Nat.le_of_ble_eq_true rfl)) (Nat.le_trans h4 (Nat.le_of_ble_eq_true rfl)) hl

set_option maxHeartbeats 4000000 in
set_option maxRecDepth 100000 in
theorem whole_start {p : Program} {e : Env} {s : State} {m : MethodId} {below : List Frame} {meth : Method} {c : Code} (l : Launch) (hflags : l.flags = flags0) {b L : Nat} {xs : Nat → Int32} (hL : L ≤ 7) (C0 : lw_At p s m meth c b L xs) : W p l e room_1 s m #[Value.ref b] below meth c s.heap [] 0 0 (lw_Z below #[Value.ref b] s) (entryFrame m ([Value.ref b] : List Value).toArray 7) := by
  obtain ⟨hx, hb, hr, hml, hown, hts, hX, hbl, hlk, hgv⟩ := C0
  have hst : l.stackTraces = false := by simp [Launch.stackTraces, hflags, flags0]
  have hg := flat_of_before _ hgv
  obtain ⟨G, hE⟩ := st_start hts hg
  have F : tw_F p m c code 7 s #[Value.ref b] RL G (fun q => s.heap.size ≤ q) := ⟨⟨hx, hb, hml, hown, fun w h => hts w (List.mem_filter.mp h).1⟩, hE, fun _ h => h⟩
  have hbA : ¬ (fun q : Nat => s.heap.size ≤ q) b := Nat.not_le.mpr hbl
  have hl := lv_entry ([.ref b]) (n := 7) (Nat.le_of_ble_eq_true rfl)
  rw [lg_entry_eq]
  generalize (lg_sl ([.ref b]) ++ List.replicate (7 - (lg_sl ([.ref b])).length) Slot.unset).toArray = ls at hl ⊢
  have hl : lv_has ls 7 [(0, .ref b)] := hl
  have hH : tw_H G 0 (fun _ => 0) (fun _ => .inr (0, [])) (fun q => s.heap.size ≤ q) s s.heap [] := ⟨fun k q h => by simp [tw_W] at h, ⟨fun i j p q h => by simp [tw_W] at h, fun k q h => by simp [tw_W] at h⟩, va_S.rf⟩
  refine tw_new (ci := 11) (T := TX11) F hH rfl iw_X11 tyX11 tyX11_ok (tw_gl kw_26 rfl) (tw_gl kw_27 rfl) (tw_gl kw_1 rfl) kd_X11 (Nat.le_of_ble_eq_true rfl) (Nat.le_of_ble_eq_true rfl) dL_law_0 (fun H locs ad1 w1 ha1 hw1 hne1 hH => ?_)
  refine lv_dup hx hb dL_law_3 rfl ?_
  refine tw_calln F hH (tw_runI (r := 0) (As := []) (rest := [.ref (ad1 0)]) F hH (c_X11_init l G ad1 w1 H.size hw1) (tw_gl kw_28 rfl) km_X11_init (tw_gl kw_29 rfl) rfl rfl rfl ⟨(Nat.le_of_ble_eq_true rfl), (Nat.le_of_ble_eq_true rfl)⟩ rfl hl.1 rfl (Nat.le_of_ble_eq_true rfl) dL_law_4 ⟨(Nat.le_of_ble_eq_true rfl), (Nat.le_of_ble_eq_true rfl)⟩) (fun ad3 w3 H locs hp1 ha3 _ hH => ?_)
  rw [show ad1 0 = ad3 0 from (ha3 0 (by decide)).symm]
  refine lv_astore_n (lv' := [(1, .ref (ad3 0)), (0, .ref b)]) hx hb dL_law_7 rfl hl (by decide) rfl (fun ls hl => ?_)
  refine tw_new2 (ci := 12) (T := TX12) F hH rfl iw_X12 tyX12 tyX12_ok (tw_gl kw_1788 rfl) (tw_gl kw_1358 rfl) (tw_gl kw_14 rfl) kd_X12 (Nat.le_of_ble_eq_true rfl) (Nat.le_of_ble_eq_true rfl) dL_law_8 (fun H ad4 w4 hw4 h2 => ?_)
  refine lv_dup hx hb dL_law_11 rfl ?_
  refine tw_calln_2 F h2 (tw_runI (r := 0) (As := []) (rest := [.ref (ad4 0)]) F h2.2.1 (c_X12_init l G ad4 w4 H.size hw4) (tw_gl kw_1789 rfl) km_X12_init (tw_gl kw_1790 rfl) rfl rfl rfl ⟨(Nat.le_of_ble_eq_true rfl), (Nat.le_of_ble_eq_true rfl)⟩ rfl hl.1 rfl (Nat.le_of_ble_eq_true rfl) dL_law_12 ⟨(Nat.le_of_ble_eq_true rfl), (Nat.le_of_ble_eq_true rfl)⟩) (fun ad5 w5 H locs hp2 ha5 h2 => ?_)
  rw [show ad4 0 = ad5 0 from (ha5 0 (by decide)).symm]
  refine lv_astore_n (lv' := [(2, .ref (ad5 0)), (1, .ref (ad3 0)), (0, .ref b)]) hx hb dL_law_15 rfl hl (by decide) rfl (fun ls hl => ?_)
  refine lv_iconst (v := 1) hx hb dL_law_16 (by decide) ?_
  refine tw_newa2 (atype := .long) (ty := .long) (n' := 1) (a0 := (1, .inr (.inl (fun _ => 0)))) F h2 (tw_gl kw_2090 rfl) rfl (fun _ => rfl) (by decide) rfl (Nat.le_of_ble_eq_true rfl) (Nat.le_of_ble_eq_true rfl) (Nat.le_of_ble_eq_true rfl) dL_law_17 (fun ao H h2 => ?_)
  refine lv_astore_n (lv' := [(3, .ref ao), (2, .ref (ad5 0)), (1, .ref (ad3 0)), (0, .ref b)]) hx hb dL_law_19 rfl hl (by decide) rfl (fun ls hl => ?_)
  refine lv_iconst (v := 0) hx hb dL_law_20 (by decide) ?_
  refine lv_istore (lv' := [(4, .int (0 : Int32)), (3, .ref ao), (2, .ref (ad5 0)), (1, .ref (ad3 0)), (0, .ref b)]) hx hb dL_law_21 hl (by decide) rfl (fun ls hl => ?_)
  refine lv_iload hx hb dL_law_23 (lv_at hl 0 rfl) ?_
  refine lv_aload_n hx hb dL_law_25 rfl (lv_at hl 4 rfl) ?_
  refine va_slen hx hb hX hbl hbA h2.1.2.2 dL_law_26 ?_
  refine lv_bipush (v := 7) hx hb dL_law_27 (by decide) ?_
  refine lv_isub hx hb dL_law_29 ?_
  rcases (by omega : L = 0 ∨ L = 1 ∨ L = 2 ∨ L = 3 ∨ L = 4 ∨ L = 5 ∨ L = 6 ∨ L = 7) with rfl | rfl | rfl | rfl | rfl | rfl | rfl | rfl
  · refine lv_icmp_gt (tgt := 1981) hx hb dL_law_30 (by decide) (fun _ => ?_) (fun h => absurd (by decide) h)
    exact law_out (xs := xs) F hr hlk h2.1.2.2 (Nat.le_of_ble_eq_true rfl) (Nat.le_of_ble_eq_true rfl)
  · refine lv_icmp_gt (tgt := 1981) hx hb dL_law_30 (by decide) (fun _ => ?_) (fun h => absurd (by decide) h)
    exact law_out (xs := xs) F hr hlk h2.1.2.2 (Nat.le_of_ble_eq_true rfl) (Nat.le_of_ble_eq_true rfl)
  · refine lv_icmp_gt (tgt := 1981) hx hb dL_law_30 (by decide) (fun _ => ?_) (fun h => absurd (by decide) h)
    exact law_out (xs := xs) F hr hlk h2.1.2.2 (Nat.le_of_ble_eq_true rfl) (Nat.le_of_ble_eq_true rfl)
  · refine lv_icmp_gt (tgt := 1981) hx hb dL_law_30 (by decide) (fun _ => ?_) (fun h => absurd (by decide) h)
    exact law_out (xs := xs) F hr hlk h2.1.2.2 (Nat.le_of_ble_eq_true rfl) (Nat.le_of_ble_eq_true rfl)
  · refine lv_icmp_gt (tgt := 1981) hx hb dL_law_30 (by decide) (fun _ => ?_) (fun h => absurd (by decide) h)
    exact law_out (xs := xs) F hr hlk h2.1.2.2 (Nat.le_of_ble_eq_true rfl) (Nat.le_of_ble_eq_true rfl)
  · refine lv_icmp_gt (tgt := 1981) hx hb dL_law_30 (by decide) (fun _ => ?_) (fun h => absurd (by decide) h)
    exact law_out (xs := xs) F hr hlk h2.1.2.2 (Nat.le_of_ble_eq_true rfl) (Nat.le_of_ble_eq_true rfl)
  · refine lv_icmp_gt (tgt := 1981) hx hb dL_law_30 (by decide) (fun _ => ?_) (fun h => absurd (by decide) h)
    exact law_out (xs := xs) F hr hlk h2.1.2.2 (Nat.le_of_ble_eq_true rfl) (Nat.le_of_ble_eq_true rfl)
  refine lv_icmp_gt (tgt := 1981) hx hb dL_law_30 (by decide) (fun h => absurd h (by decide)) (fun _ => ?_)
  obtain ⟨-, k1_4, k1_5, k1_6, k1_7, k1_8, k1_9, k1_10, k1_11, k1_12, k1_13, k1_0, k1_14, k1_15, k1_17, k1_18, k1_19, k1_21, k1_23, k1_25, k1_156, k1_159, k1_221, k1_233, k1_236, k1_238, -⟩ := hp1
  obtain ⟨-, k2_0, k2_1, k2_2, k2_3, k2_4, k2_5, k2_6, k2_7, k2_8, k2_9, k2_10, k2_11, k2_12, k2_13, k2_14, k2_15, k2_16, k2_17, k2_18, k2_19, k2_22, k2_26, k2_30, k2_31, k2_34, k2_36, k2_58, -⟩ := hp2
  exact law_switch hst F hr hlk hX hbl k1_0 k1_4 k1_5 k1_6 k1_7 k1_10 k1_12 k1_14 k1_156 k1_159 k1_8 k1_9 k1_11 k1_13 k1_15 k1_18 k1_19 k1_21 k1_23 k1_25 k1_17 k1_236 k1_233 k1_238 k1_221 k2_0 k2_1 k2_2 k2_3 k2_31 k2_4 k2_5 k2_6 k2_7 k2_8 k2_9 k2_10 k2_11 k2_12 k2_13 k2_14 k2_15 k2_16 k2_17 k2_18 k2_19 k2_22 k2_26 k2_30 k2_58 k2_34 k2_36 h2 hl (Nat.le_of_ble_eq_true rfl) (Nat.le_of_ble_eq_true rfl)
