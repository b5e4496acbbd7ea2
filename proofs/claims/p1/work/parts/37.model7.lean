set_option maxHeartbeats 4000000 in
set_option maxRecDepth 100000 in
theorem c_X12_place (l : Launch) (G : tw_G) (ad : Nat → Nat) (w : Nat → va_E) (sz : Nat) (x1 : Int32) (z1 : Int) (e1 : x1.toInt = z1) (x2 : Int32) (z2 : Int) (e2 : x2.toInt = z2) (hw_0 : w 0 = .inr (12, [.int (0 : Int32), .int (2 : Int32), .int (1 : Int32), .ref (ad 1), .ref (ad 2), .ref (ad 3), .ref (ad 4), .ref (ad 5), .int (0 : Int32), .ref (ad 6), .ref (ad 7), .ref (ad 8), .int (0 : Int32), .ref (ad 9), .ref (ad 10), .ref (ad 11), .ref (ad 12), .int (0 : Int32), .ref (ad 13), .ref (ad 14), .ref (ad 15), .ref (ad 16), .ref (ad 17), .ref (ad 18), .ref (ad 19), .ref (ad 20), .ref (ad 21), .ref (ad 22), .ref (ad 23), .ref (ad 24), .ref (ad 25), .ref (ad 26), .ref (ad 27), .ref (ad 28), .ref (ad 29), .ref (ad 30), .ref (ad 31), .ref (ad 32), .ref (ad 33), .ref (ad 34), .int (0 : Int32), .int (0 : Int32), .int (0 : Int32), .ref (G.2.2 (100 + 10)), .ref (ad 35), .ref (ad 36), .ref (ad 37), .int (0 : Int32), .ref (ad 38), .ref (ad 39), .ref (ad 40), .ref (ad 41), .ref (ad 42), .ref (ad 43), .ref (ad 44), .ref (ad 45), .ref (ad 46), .ref (ad 47), .ref (ad 48), .ref (ad 49), .ref (ad 50), .ref (ad 51), .ref (ad 52), .ref (ad 53), .ref (ad 54), .ref (ad 55), .ref (ad 56), .ref (ad 57), .ref (ad 58), .ref (ad 59), .int (0 : Int32), .ref (ad 60), .int (0 : Int32), .ref (ad 61), .ref (ad 62), .int (0 : Int32), .ref (ad 63), .ref (ad 64), .ref (ad 65), .ref (ad 66), .ref (ad 67), .ref (ad 68), .int (0 : Int32), .ref (ad 69), .ref (ad 70), .ref (ad 71), .ref (ad 72), .ref (ad 73), .int (0 : Int32), .int (0 : Int32), .int (0 : Int32), .ref (ad 74), .ref (ad 75), .ref (ad 76), .ref (ad 77), .ref (ad 78), .ref (ad 79)])) : Met l yX12_place (tw_ws yX12_place cX12_place 3 (some .int)) ({ frames := 2, cells := 0, slots := 0, locals := 46 }) (tw_Pre G 80 ad w sz [.ref (ad 0), .int x1, .int x2]) (tw_Qi G 80 ad (fun r w1 => ((-1 : Int32) = r ∧ ((((z1 < 0)) ∨ ((¬ (z1 < 0)) ∧ ((-1) < z1)))))) sz) 0 0 (tw_A 80 ad sz) := by
  refine tw_met (by decide) (Nat.le_of_ble_eq_true rfl) ?_
  intro p e s m args below meth c F hret hlk hin hargs hsz hH ls hl
  have hx := F.1.1
  have hb := F.1.2.1
  have hown := F.1.2.2.2.1
  have hts := F.1.2.2.2.2
  have hl : lv_has ls 3 [(0, .ref (ad 0)), (1, .int x1), (2, .int x2)] := hl
  generalize hH0 : s.heap = H at hH ⊢
  refine lv_aload_n hx hb dX12_place_0 rfl (lv_at hl 0 rfl) ?_
  refine lv_iconst (v := 0) hx hb dX12_place_1 (by decide) ?_
  refine tw_put (r := 0) F hH kf_RX12_3 kp_X12_0 rfl (by decide) hw_0 (Nat.le_of_ble_eq_true rfl) rfl rfl dX12_place_2 (fun H locs w1 hw2 hne3 hH => ?_)
  have hw2 : w1 0 = .inr (12, [.int (0 : Int32), .int (2 : Int32), .int (1 : Int32), .ref (ad 1), .ref (ad 2), .ref (ad 3), .ref (ad 4), .ref (ad 5), .int (0 : Int32), .ref (ad 6), .ref (ad 7), .ref (ad 8), .int (0 : Int32), .ref (ad 9), .ref (ad 10), .ref (ad 11), .ref (ad 12), .int (0 : Int32), .ref (ad 13), .ref (ad 14), .ref (ad 15), .ref (ad 16), .ref (ad 17), .ref (ad 18), .ref (ad 19), .ref (ad 20), .ref (ad 21), .ref (ad 22), .ref (ad 23), .ref (ad 24), .ref (ad 25), .ref (ad 26), .ref (ad 27), .ref (ad 28), .ref (ad 29), .ref (ad 30), .ref (ad 31), .ref (ad 32), .ref (ad 33), .ref (ad 34), .int (0 : Int32), .int (0 : Int32), .int (0 : Int32), .ref (G.2.2 (100 + 10)), .ref (ad 35), .ref (ad 36), .ref (ad 37), .int (0 : Int32), .ref (ad 38), .ref (ad 39), .ref (ad 40), .ref (ad 41), .ref (ad 42), .ref (ad 43), .ref (ad 44), .ref (ad 45), .ref (ad 46), .ref (ad 47), .ref (ad 48), .ref (ad 49), .ref (ad 50), .ref (ad 51), .ref (ad 52), .ref (ad 53), .ref (ad 54), .ref (ad 55), .ref (ad 56), .ref (ad 57), .ref (ad 58), .ref (ad 59), .int (0 : Int32), .ref (ad 60), .int (0 : Int32), .ref (ad 61), .ref (ad 62), .int (0 : Int32), .ref (ad 63), .ref (ad 64), .ref (ad 65), .ref (ad 66), .ref (ad 67), .ref (ad 68), .int (0 : Int32), .ref (ad 69), .ref (ad 70), .ref (ad 71), .ref (ad 72), .ref (ad 73), .int (0 : Int32), .int (0 : Int32), .int (0 : Int32), .ref (ad 74), .ref (ad 75), .ref (ad 76), .ref (ad 77), .ref (ad 78), .ref (ad 79)]) := hw2
  refine lv_aload_n hx hb dX12_place_5 rfl (lv_at hl 0 rfl) ?_
  refine lv_iload_n hx hb dX12_place_6 rfl (lv_at hl 1 rfl) ?_
  refine tw_calli F hH (tw_runV (r := 0) (As := [.int x1]) (rest := []) F hH (c_X12_isCar l G ad w1 H.size x1 (z1) e1 hw2) (tw_gl kw_1409 rfl) km_X12_isCar kv_X12_isCar rfl rfl ⟨(Nat.le_of_ble_eq_true rfl), (Nat.le_of_ble_eq_true rfl)⟩ (by decide) hw2 rfl rfl hl.1 rfl (Nat.le_of_ble_eq_true rfl) dX12_place_7 ⟨(Nat.le_of_ble_eq_true rfl), (Nat.le_of_ble_eq_true rfl)⟩) (fun r6 w4 H locs hp5 _ hH => ?_)
  obtain ⟨rfl, hc7, rfl⟩ := hp5
  refine lv_if_eq (tgt := 20) hx hb dX12_place_10 (by decide) (fun _ => ?_) (fun c => absurd c (by decide))
  refine lv_iconst (v := -1) hx hb dX12_place_20 (by decide) ?_
  exact tw_iret F hH hret hlk rfl (Nat.le_of_ble_eq_true rfl) (Nat.le_of_ble_eq_true rfl) dX12_place_21 (⟨rfl, (by omega)⟩)
set_option maxHeartbeats 4000000 in
set_option maxRecDepth 100000 in
theorem c_X12_sum (l : Launch) (G : tw_G) (ad : Nat → Nat) (w : Nat → va_E) (sz : Nat) (x1 : Int32) (z1 : Int) (e1 : x1.toInt = z1) (x2 : Int32) (z2 : Int) (e2 : x2.toInt = z2) (hw_0 : w 0 = .inr (12, [.int (0 : Int32), .int (2 : Int32), .int (1 : Int32), .ref (ad 1), .ref (ad 2), .ref (ad 3), .ref (ad 4), .ref (ad 5), .int (0 : Int32), .ref (ad 6), .ref (ad 7), .ref (ad 8), .int (0 : Int32), .ref (ad 9), .ref (ad 10), .ref (ad 11), .ref (ad 12), .int (0 : Int32), .ref (ad 13), .ref (ad 14), .ref (ad 15), .ref (ad 16), .ref (ad 17), .ref (ad 18), .ref (ad 19), .ref (ad 20), .ref (ad 21), .ref (ad 22), .ref (ad 23), .ref (ad 24), .ref (ad 25), .ref (ad 26), .ref (ad 27), .ref (ad 28), .ref (ad 29), .ref (ad 30), .ref (ad 31), .ref (ad 32), .ref (ad 33), .ref (ad 34), .int (0 : Int32), .int (0 : Int32), .int (0 : Int32), .ref (G.2.2 (100 + 10)), .ref (ad 35), .ref (ad 36), .ref (ad 37), .int (0 : Int32), .ref (ad 38), .ref (ad 39), .ref (ad 40), .ref (ad 41), .ref (ad 42), .ref (ad 43), .ref (ad 44), .ref (ad 45), .ref (ad 46), .ref (ad 47), .ref (ad 48), .ref (ad 49), .ref (ad 50), .ref (ad 51), .ref (ad 52), .ref (ad 53), .ref (ad 54), .ref (ad 55), .ref (ad 56), .ref (ad 57), .ref (ad 58), .ref (ad 59), .int (0 : Int32), .ref (ad 60), .int (0 : Int32), .ref (ad 61), .ref (ad 62), .int (0 : Int32), .ref (ad 63), .ref (ad 64), .ref (ad 65), .ref (ad 66), .ref (ad 67), .ref (ad 68), .int (0 : Int32), .ref (ad 69), .ref (ad 70), .ref (ad 71), .ref (ad 72), .ref (ad 73), .int (0 : Int32), .int (0 : Int32), .int (0 : Int32), .ref (ad 74), .ref (ad 75), .ref (ad 76), .ref (ad 77), .ref (ad 78), .ref (ad 79)])) : Met l yX12_sum (tw_ws yX12_sum cX12_sum 3 (some .int)) ({ frames := 2, cells := 0, slots := 0, locals := 46 }) (tw_Pre G 80 ad w sz [.ref (ad 0), .int x1, .int x2]) (tw_Qi G 80 ad (fun r w1 => ((0 : Int32) = r ∧ ((((z1 < 0)) ∨ ((¬ (z1 < 0)) ∧ ((-1) < z1)))) ∧ w1 0 = .inr (12, [.int (1 : Int32), .int (2 : Int32), .int (1 : Int32), .ref (ad 1), .ref (ad 2), .ref (ad 3), .ref (ad 4), .ref (ad 5), .int (0 : Int32), .ref (ad 6), .ref (ad 7), .ref (ad 8), .int (0 : Int32), .ref (ad 9), .ref (ad 10), .ref (ad 11), .ref (ad 12), .int (0 : Int32), .ref (ad 13), .ref (ad 14), .ref (ad 15), .ref (ad 16), .ref (ad 17), .ref (ad 18), .ref (ad 19), .ref (ad 20), .ref (ad 21), .ref (ad 22), .ref (ad 23), .ref (ad 24), .ref (ad 25), .ref (ad 26), .ref (ad 27), .ref (ad 28), .ref (ad 29), .ref (ad 30), .ref (ad 31), .ref (ad 32), .ref (ad 33), .ref (ad 34), .int (0 : Int32), .int (0 : Int32), .int (0 : Int32), .ref (G.2.2 (100 + 10)), .ref (ad 35), .ref (ad 36), .ref (ad 37), .int (0 : Int32), .ref (ad 38), .ref (ad 39), .ref (ad 40), .ref (ad 41), .ref (ad 42), .ref (ad 43), .ref (ad 44), .ref (ad 45), .ref (ad 46), .ref (ad 47), .ref (ad 48), .ref (ad 49), .ref (ad 50), .ref (ad 51), .ref (ad 52), .ref (ad 53), .ref (ad 54), .ref (ad 55), .ref (ad 56), .ref (ad 57), .ref (ad 58), .ref (ad 59), .int (0 : Int32), .ref (ad 60), .int (0 : Int32), .ref (ad 61), .ref (ad 62), .int (0 : Int32), .ref (ad 63), .ref (ad 64), .ref (ad 65), .ref (ad 66), .ref (ad 67), .ref (ad 68), .int (0 : Int32), .ref (ad 69), .ref (ad 70), .ref (ad 71), .ref (ad 72), .ref (ad 73), .int (0 : Int32), .int (0 : Int32), .int (0 : Int32), .ref (ad 74), .ref (ad 75), .ref (ad 76), .ref (ad 77), .ref (ad 78), .ref (ad 79)]) ∧ ∀ k, k ≠ 0 → w1 k = w k)) sz) 0 0 (tw_A 80 ad sz) := by
  refine tw_met (by decide) (Nat.le_of_ble_eq_true rfl) ?_
  intro p e s m args below meth c F hret hlk hin hargs hsz hH ls hl
  have hx := F.1.1
  have hb := F.1.2.1
  have hown := F.1.2.2.2.1
  have hts := F.1.2.2.2.2
  have hl : lv_has ls 3 [(0, .ref (ad 0)), (1, .int x1), (2, .int x2)] := hl
  generalize hH0 : s.heap = H at hH ⊢
  refine lv_aload_n hx hb dX12_sum_0 rfl (lv_at hl 0 rfl) ?_
  refine lv_iconst (v := 0) hx hb dX12_sum_1 (by decide) ?_
  refine tw_put (r := 0) F hH kf_RX12_3 kp_X12_0 rfl (by decide) hw_0 (Nat.le_of_ble_eq_true rfl) rfl rfl dX12_sum_2 (fun H locs w1 hw2 hne3 hH => ?_)
  have hw2 : w1 0 = .inr (12, [.int (0 : Int32), .int (2 : Int32), .int (1 : Int32), .ref (ad 1), .ref (ad 2), .ref (ad 3), .ref (ad 4), .ref (ad 5), .int (0 : Int32), .ref (ad 6), .ref (ad 7), .ref (ad 8), .int (0 : Int32), .ref (ad 9), .ref (ad 10), .ref (ad 11), .ref (ad 12), .int (0 : Int32), .ref (ad 13), .ref (ad 14), .ref (ad 15), .ref (ad 16), .ref (ad 17), .ref (ad 18), .ref (ad 19), .ref (ad 20), .ref (ad 21), .ref (ad 22), .ref (ad 23), .ref (ad 24), .ref (ad 25), .ref (ad 26), .ref (ad 27), .ref (ad 28), .ref (ad 29), .ref (ad 30), .ref (ad 31), .ref (ad 32), .ref (ad 33), .ref (ad 34), .int (0 : Int32), .int (0 : Int32), .int (0 : Int32), .ref (G.2.2 (100 + 10)), .ref (ad 35), .ref (ad 36), .ref (ad 37), .int (0 : Int32), .ref (ad 38), .ref (ad 39), .ref (ad 40), .ref (ad 41), .ref (ad 42), .ref (ad 43), .ref (ad 44), .ref (ad 45), .ref (ad 46), .ref (ad 47), .ref (ad 48), .ref (ad 49), .ref (ad 50), .ref (ad 51), .ref (ad 52), .ref (ad 53), .ref (ad 54), .ref (ad 55), .ref (ad 56), .ref (ad 57), .ref (ad 58), .ref (ad 59), .int (0 : Int32), .ref (ad 60), .int (0 : Int32), .ref (ad 61), .ref (ad 62), .int (0 : Int32), .ref (ad 63), .ref (ad 64), .ref (ad 65), .ref (ad 66), .ref (ad 67), .ref (ad 68), .int (0 : Int32), .ref (ad 69), .ref (ad 70), .ref (ad 71), .ref (ad 72), .ref (ad 73), .int (0 : Int32), .int (0 : Int32), .int (0 : Int32), .ref (ad 74), .ref (ad 75), .ref (ad 76), .ref (ad 77), .ref (ad 78), .ref (ad 79)]) := hw2
  refine lv_aload_n hx hb dX12_sum_5 rfl (lv_at hl 0 rfl) ?_
  refine lv_iload_n hx hb dX12_sum_6 rfl (lv_at hl 1 rfl) ?_
  refine tw_calli F hH (tw_runV (r := 0) (As := [.int x1]) (rest := []) F hH (c_X12_isCar l G ad w1 H.size x1 (z1) e1 hw2) (tw_gl kw_1409 rfl) km_X12_isCar kv_X12_isCar rfl rfl ⟨(Nat.le_of_ble_eq_true rfl), (Nat.le_of_ble_eq_true rfl)⟩ (by decide) hw2 rfl rfl hl.1 rfl (Nat.le_of_ble_eq_true rfl) dX12_sum_7 ⟨(Nat.le_of_ble_eq_true rfl), (Nat.le_of_ble_eq_true rfl)⟩) (fun r6 w4 H locs hp5 _ hH => ?_)
  obtain ⟨rfl, hc7, rfl⟩ := hp5
  refine lv_if_eq (tgt := 20) hx hb dX12_sum_10 (by decide) (fun _ => ?_) (fun c => absurd c (by decide))
  refine lv_aload_n hx hb dX12_sum_20 rfl (lv_at hl 0 rfl) ?_
  refine tw_calli F hH (tw_runV (r := 0) (As := []) (rest := []) F hH (c_X12_refuse l G ad w1 H.size hw2) (tw_gl kw_1538 rfl) km_X12_refuse kv_X12_refuse rfl rfl ⟨(Nat.le_of_ble_eq_true rfl), (Nat.le_of_ble_eq_true rfl)⟩ (by decide) hw2 rfl rfl hl.1 rfl (Nat.le_of_ble_eq_true rfl) dX12_sum_21 ⟨(Nat.le_of_ble_eq_true rfl), (Nat.le_of_ble_eq_true rfl)⟩) (fun r11 w9 H locs hp10 _ hH => ?_)
  obtain ⟨rfl, -, hw13, hfr14⟩ := hp10
  exact tw_iret F hH hret hlk rfl (Nat.le_of_ble_eq_true rfl) (Nat.le_of_ble_eq_true rfl) dX12_sum_24 (⟨rfl, (by omega), hw13, fun k h0 => ((hfr14 k (by omega)).trans (hne3 k (by omega)))⟩)
set_option maxHeartbeats 4000000 in
set_option maxRecDepth 100000 in
theorem c_X12_within (l : Launch) (G : tw_G) (ad : Nat → Nat) (w : Nat → va_E) (sz : Nat) (x1 : Int32) (z1 : Int) (e1 : x1.toInt = z1) (x2 : Int32) (z2 : Int) (e2 : x2.toInt = z2) (hw_0 : w 0 = .inr (12, [.int (0 : Int32), .int (2 : Int32), .int (1 : Int32), .ref (ad 1), .ref (ad 2), .ref (ad 3), .ref (ad 4), .ref (ad 5), .int (0 : Int32), .ref (ad 6), .ref (ad 7), .ref (ad 8), .int (0 : Int32), .ref (ad 9), .ref (ad 10), .ref (ad 11), .ref (ad 12), .int (0 : Int32), .ref (ad 13), .ref (ad 14), .ref (ad 15), .ref (ad 16), .ref (ad 17), .ref (ad 18), .ref (ad 19), .ref (ad 20), .ref (ad 21), .ref (ad 22), .ref (ad 23), .ref (ad 24), .ref (ad 25), .ref (ad 26), .ref (ad 27), .ref (ad 28), .ref (ad 29), .ref (ad 30), .ref (ad 31), .ref (ad 32), .ref (ad 33), .ref (ad 34), .int (0 : Int32), .int (0 : Int32), .int (0 : Int32), .ref (G.2.2 (100 + 10)), .ref (ad 35), .ref (ad 36), .ref (ad 37), .int (0 : Int32), .ref (ad 38), .ref (ad 39), .ref (ad 40), .ref (ad 41), .ref (ad 42), .ref (ad 43), .ref (ad 44), .ref (ad 45), .ref (ad 46), .ref (ad 47), .ref (ad 48), .ref (ad 49), .ref (ad 50), .ref (ad 51), .ref (ad 52), .ref (ad 53), .ref (ad 54), .ref (ad 55), .ref (ad 56), .ref (ad 57), .ref (ad 58), .ref (ad 59), .int (0 : Int32), .ref (ad 60), .int (0 : Int32), .ref (ad 61), .ref (ad 62), .int (0 : Int32), .ref (ad 63), .ref (ad 64), .ref (ad 65), .ref (ad 66), .ref (ad 67), .ref (ad 68), .int (0 : Int32), .ref (ad 69), .ref (ad 70), .ref (ad 71), .ref (ad 72), .ref (ad 73), .int (0 : Int32), .int (0 : Int32), .int (0 : Int32), .ref (ad 74), .ref (ad 75), .ref (ad 76), .ref (ad 77), .ref (ad 78), .ref (ad 79)])) : Met l yX12_within (tw_ws yX12_within cX12_within 3 (some .int)) ({ frames := 2, cells := 0, slots := 0, locals := 46 }) (tw_Pre G 80 ad w sz [.ref (ad 0), .int x1, .int x2]) (tw_Qi G 80 ad (fun r w1 => ((-1 : Int32) = r ∧ ((((z1 < 0)) ∨ ((¬ (z1 < 0)) ∧ ((-1) < z1)))))) sz) 0 0 (tw_A 80 ad sz) := by
  refine tw_met (by decide) (Nat.le_of_ble_eq_true rfl) ?_
  intro p e s m args below meth c F hret hlk hin hargs hsz hH ls hl
  have hx := F.1.1
  have hb := F.1.2.1
  have hown := F.1.2.2.2.1
  have hts := F.1.2.2.2.2
  have hl : lv_has ls 3 [(0, .ref (ad 0)), (1, .int x1), (2, .int x2)] := hl
  generalize hH0 : s.heap = H at hH ⊢
  refine lv_aload_n hx hb dX12_within_0 rfl (lv_at hl 0 rfl) ?_
  refine lv_iconst (v := 0) hx hb dX12_within_1 (by decide) ?_
  refine tw_put (r := 0) F hH kf_RX12_3 kp_X12_0 rfl (by decide) hw_0 (Nat.le_of_ble_eq_true rfl) rfl rfl dX12_within_2 (fun H locs w1 hw2 hne3 hH => ?_)
  have hw2 : w1 0 = .inr (12, [.int (0 : Int32), .int (2 : Int32), .int (1 : Int32), .ref (ad 1), .ref (ad 2), .ref (ad 3), .ref (ad 4), .ref (ad 5), .int (0 : Int32), .ref (ad 6), .ref (ad 7), .ref (ad 8), .int (0 : Int32), .ref (ad 9), .ref (ad 10), .ref (ad 11), .ref (ad 12), .int (0 : Int32), .ref (ad 13), .ref (ad 14), .ref (ad 15), .ref (ad 16), .ref (ad 17), .ref (ad 18), .ref (ad 19), .ref (ad 20), .ref (ad 21), .ref (ad 22), .ref (ad 23), .ref (ad 24), .ref (ad 25), .ref (ad 26), .ref (ad 27), .ref (ad 28), .ref (ad 29), .ref (ad 30), .ref (ad 31), .ref (ad 32), .ref (ad 33), .ref (ad 34), .int (0 : Int32), .int (0 : Int32), .int (0 : Int32), .ref (G.2.2 (100 + 10)), .ref (ad 35), .ref (ad 36), .ref (ad 37), .int (0 : Int32), .ref (ad 38), .ref (ad 39), .ref (ad 40), .ref (ad 41), .ref (ad 42), .ref (ad 43), .ref (ad 44), .ref (ad 45), .ref (ad 46), .ref (ad 47), .ref (ad 48), .ref (ad 49), .ref (ad 50), .ref (ad 51), .ref (ad 52), .ref (ad 53), .ref (ad 54), .ref (ad 55), .ref (ad 56), .ref (ad 57), .ref (ad 58), .ref (ad 59), .int (0 : Int32), .ref (ad 60), .int (0 : Int32), .ref (ad 61), .ref (ad 62), .int (0 : Int32), .ref (ad 63), .ref (ad 64), .ref (ad 65), .ref (ad 66), .ref (ad 67), .ref (ad 68), .int (0 : Int32), .ref (ad 69), .ref (ad 70), .ref (ad 71), .ref (ad 72), .ref (ad 73), .int (0 : Int32), .int (0 : Int32), .int (0 : Int32), .ref (ad 74), .ref (ad 75), .ref (ad 76), .ref (ad 77), .ref (ad 78), .ref (ad 79)]) := hw2
  refine lv_aload_n hx hb dX12_within_5 rfl (lv_at hl 0 rfl) ?_
  refine lv_iload_n hx hb dX12_within_6 rfl (lv_at hl 1 rfl) ?_
  refine tw_calli F hH (tw_runV (r := 0) (As := [.int x1]) (rest := []) F hH (c_X12_isCar l G ad w1 H.size x1 (z1) e1 hw2) (tw_gl kw_1409 rfl) km_X12_isCar kv_X12_isCar rfl rfl ⟨(Nat.le_of_ble_eq_true rfl), (Nat.le_of_ble_eq_true rfl)⟩ (by decide) hw2 rfl rfl hl.1 rfl (Nat.le_of_ble_eq_true rfl) dX12_within_7 ⟨(Nat.le_of_ble_eq_true rfl), (Nat.le_of_ble_eq_true rfl)⟩) (fun r6 w4 H locs hp5 _ hH => ?_)
  obtain ⟨rfl, hc7, rfl⟩ := hp5
  refine lv_if_eq (tgt := 20) hx hb dX12_within_10 (by decide) (fun _ => ?_) (fun c => absurd c (by decide))
  refine lv_iconst (v := -1) hx hb dX12_within_20 (by decide) ?_
  exact tw_iret F hH hret hlk rfl (Nat.le_of_ble_eq_true rfl) (Nat.le_of_ble_eq_true rfl) dX12_within_21 (⟨rfl, (by omega)⟩)
set_option maxHeartbeats 4000000 in
set_option maxRecDepth 100000 in
theorem c_X12_judges (l : Launch) (G : tw_G) (ad : Nat → Nat) (w : Nat → va_E) (sz : Nat) (x1 : Int32) (z1 : Int) (e1 : x1.toInt = z1) (hw_0 : w 0 = .inr (12, [.int (0 : Int32), .int (2 : Int32), .int (1 : Int32), .ref (ad 1), .ref (ad 2), .ref (ad 3), .ref (ad 4), .ref (ad 5), .int (0 : Int32), .ref (ad 6), .ref (ad 7), .ref (ad 8), .int (0 : Int32), .ref (ad 9), .ref (ad 10), .ref (ad 11), .ref (ad 12), .int (0 : Int32), .ref (ad 13), .ref (ad 14), .ref (ad 15), .ref (ad 16), .ref (ad 17), .ref (ad 18), .ref (ad 19), .ref (ad 20), .ref (ad 21), .ref (ad 22), .ref (ad 23), .ref (ad 24), .ref (ad 25), .ref (ad 26), .ref (ad 27), .ref (ad 28), .ref (ad 29), .ref (ad 30), .ref (ad 31), .ref (ad 32), .ref (ad 33), .ref (ad 34), .int (0 : Int32), .int (0 : Int32), .int (0 : Int32), .ref (G.2.2 (100 + 10)), .ref (ad 35), .ref (ad 36), .ref (ad 37), .int (0 : Int32), .ref (ad 38), .ref (ad 39), .ref (ad 40), .ref (ad 41), .ref (ad 42), .ref (ad 43), .ref (ad 44), .ref (ad 45), .ref (ad 46), .ref (ad 47), .ref (ad 48), .ref (ad 49), .ref (ad 50), .ref (ad 51), .ref (ad 52), .ref (ad 53), .ref (ad 54), .ref (ad 55), .ref (ad 56), .ref (ad 57), .ref (ad 58), .ref (ad 59), .int (0 : Int32), .ref (ad 60), .int (0 : Int32), .ref (ad 61), .ref (ad 62), .int (0 : Int32), .ref (ad 63), .ref (ad 64), .ref (ad 65), .ref (ad 66), .ref (ad 67), .ref (ad 68), .int (0 : Int32), .ref (ad 69), .ref (ad 70), .ref (ad 71), .ref (ad 72), .ref (ad 73), .int (0 : Int32), .int (0 : Int32), .int (0 : Int32), .ref (ad 74), .ref (ad 75), .ref (ad 76), .ref (ad 77), .ref (ad 78), .ref (ad 79)])) (hw_58 : w 58 = .inl (G.2.1 0, 4, .inl (fun _ => 0))) : Met l yX12_judges (tw_ws yX12_judges cX12_judges 4 none) ({ frames := 2, cells := 0, slots := 0, locals := 43 }) (tw_Pre G 80 ad w sz [.ref (ad 0), .int x1]) (tw_Qv G 80 ad (fun w1 => (True ∧ w1 0 = .inr (12, [.int (0 : Int32), .int (2 : Int32), .int (1 : Int32), .ref (ad 1), .ref (ad 2), .ref (ad 3), .ref (ad 4), .ref (ad 5), .int (0 : Int32), .ref (ad 6), .ref (ad 7), .ref (ad 8), .int (0 : Int32), .ref (ad 9), .ref (ad 10), .ref (ad 11), .ref (ad 12), .int (0 : Int32), .ref (ad 13), .ref (ad 14), .ref (ad 15), .ref (ad 16), .ref (ad 17), .ref (ad 18), .ref (ad 19), .ref (ad 20), .ref (ad 21), .ref (ad 22), .ref (ad 23), .ref (ad 24), .ref (ad 25), .ref (ad 26), .ref (ad 27), .ref (ad 28), .ref (ad 29), .ref (ad 30), .ref (ad 31), .ref (ad 32), .ref (ad 33), .ref (ad 34), .int (0 : Int32), .int (0 : Int32), .int (0 : Int32), .ref (G.2.2 (100 + 10)), .ref (ad 35), .ref (ad 36), .ref (ad 37), .int (0 : Int32), .ref (ad 38), .ref (ad 39), .ref (ad 40), .ref (ad 41), .ref (ad 42), .ref (ad 43), .ref (ad 44), .ref (ad 45), .ref (ad 46), .ref (ad 47), .ref (ad 48), .ref (ad 49), .ref (ad 50), .ref (ad 51), .ref (ad 52), .ref (ad 53), .ref (ad 54), .ref (ad 55), .ref (ad 56), .ref (ad 57), .ref (ad 58), .ref (ad 59), .int (0 : Int32), .ref (ad 60), .int (0 : Int32), .ref (ad 61), .ref (ad 62), .int (0 : Int32), .ref (ad 63), .ref (ad 64), .ref (ad 65), .ref (ad 66), .ref (ad 67), .ref (ad 68), .int (0 : Int32), .ref (ad 69), .ref (ad 70), .ref (ad 71), .ref (ad 72), .ref (ad 73), .int (0 : Int32), .int (0 : Int32), .int (0 : Int32), .ref (ad 74), .ref (ad 75), .ref (ad 76), .ref (ad 77), .ref (ad 78), .ref (ad 79)]) ∧ w1 58 = .inl (G.2.1 0, 4, .inl (upd (upd (upd (upd (fun _ => 0) 0 (0 : Int32)) 1 (0 : Int32)) 2 (0 : Int32)) 3 (0 : Int32))) ∧ ∀ k, k ≠ 0 → k ≠ 58 → w1 k = w k)) sz) 0 0 (tw_A 80 ad sz) := by
  refine tw_met (by decide) (Nat.le_of_ble_eq_true rfl) ?_
  intro p e s m args below meth c F hret hlk hin hargs hsz hH ls hl
  have hx := F.1.1
  have hb := F.1.2.1
  have hown := F.1.2.2.2.1
  have hts := F.1.2.2.2.2
  have hl : lv_has ls 4 [(0, .ref (ad 0)), (1, .int x1)] := hl
  generalize hH0 : s.heap = H at hH ⊢
  refine lv_aload_n hx hb dX12_judges_0 rfl (lv_at hl 0 rfl) ?_
  refine tw_callv F hH (tw_runV (r := 0) (As := []) (rest := []) F hH (c_X12_runs l G ad w H.size hw_0 hw_58) (tw_gl kw_1542 rfl) km_X12_runs kv_X12_runs rfl rfl ⟨(Nat.le_of_ble_eq_true rfl), (Nat.le_of_ble_eq_true rfl)⟩ (by decide) hw_0 rfl rfl hl.1 rfl (Nat.le_of_ble_eq_true rfl) dX12_judges_1 ⟨(Nat.le_of_ble_eq_true rfl), (Nat.le_of_ble_eq_true rfl)⟩) (fun w1 H locs hp2 _ hH => ?_)
  obtain ⟨-, hw4, hw5, hfr6⟩ := hp2
  refine lv_iconst (v := 0) hx hb dX12_judges_4 (by decide) ?_
  refine lv_istore_n (lv' := [(2, .int (0 : Int32)), (0, .ref (ad 0)), (1, .int x1)]) hx hb dX12_judges_5 rfl hl (by decide) rfl (fun ls hl => ?_)
  refine lv_iload_n hx hb dX12_judges_6 rfl (lv_at hl 0 rfl) ?_
  refine lv_aload_n hx hb dX12_judges_7 rfl (lv_at hl 1 rfl) ?_
  refine tw_get (r := 0) F hH kf_RX12_30 rfl (by decide) hw4 rfl dX12_judges_8 ?_
  refine lv_icmp_ge (tgt := 79) hx hb dX12_judges_11 (by decide) (fun _ => ?_) (fun c => absurd c (by decide))
  exact tw_vret F hH hret hlk (Nat.le_of_ble_eq_true rfl) (Nat.le_of_ble_eq_true rfl) dX12_judges_79 (⟨trivial, hw4, hw5, fun k h0 h1 => (hfr6 k (by omega) (by omega))⟩)
set_option maxHeartbeats 4000000 in
set_option maxRecDepth 100000 in
theorem c_X12_result (l : Launch) (G : tw_G) (ad : Nat → Nat) (w : Nat → va_E) (sz : Nat) (x1 : Int32) (z1 : Int) (e1 : x1.toInt = z1) (hw_0 : w 0 = .inr (12, [.int (0 : Int32), .int (2 : Int32), .int (1 : Int32), .ref (ad 1), .ref (ad 2), .ref (ad 3), .ref (ad 4), .ref (ad 5), .int (0 : Int32), .ref (ad 6), .ref (ad 7), .ref (ad 8), .int (0 : Int32), .ref (ad 9), .ref (ad 10), .ref (ad 11), .ref (ad 12), .int (0 : Int32), .ref (ad 13), .ref (ad 14), .ref (ad 15), .ref (ad 16), .ref (ad 17), .ref (ad 18), .ref (ad 19), .ref (ad 20), .ref (ad 21), .ref (ad 22), .ref (ad 23), .ref (ad 24), .ref (ad 25), .ref (ad 26), .ref (ad 27), .ref (ad 28), .ref (ad 29), .ref (ad 30), .ref (ad 31), .ref (ad 32), .ref (ad 33), .ref (ad 34), .int (0 : Int32), .int (0 : Int32), .int (0 : Int32), .ref (G.2.2 (100 + 10)), .ref (ad 35), .ref (ad 36), .ref (ad 37), .int (0 : Int32), .ref (ad 38), .ref (ad 39), .ref (ad 40), .ref (ad 41), .ref (ad 42), .ref (ad 43), .ref (ad 44), .ref (ad 45), .ref (ad 46), .ref (ad 47), .ref (ad 48), .ref (ad 49), .ref (ad 50), .ref (ad 51), .ref (ad 52), .ref (ad 53), .ref (ad 54), .ref (ad 55), .ref (ad 56), .ref (ad 57), .ref (ad 58), .ref (ad 59), .int (0 : Int32), .ref (ad 60), .int (0 : Int32), .ref (ad 61), .ref (ad 62), .int (0 : Int32), .ref (ad 63), .ref (ad 64), .ref (ad 65), .ref (ad 66), .ref (ad 67), .ref (ad 68), .int (0 : Int32), .ref (ad 69), .ref (ad 70), .ref (ad 71), .ref (ad 72), .ref (ad 73), .int (0 : Int32), .int (0 : Int32), .int (0 : Int32), .ref (ad 74), .ref (ad 75), .ref (ad 76), .ref (ad 77), .ref (ad 78), .ref (ad 79)])) (hw_58 : w 58 = .inl (G.2.1 0, 4, .inl (fun _ => 0))) : Met l yX12_result (tw_ws yX12_result cX12_result 3 (some .int)) ({ frames := 3, cells := 0, slots := 0, locals := 66 }) (tw_Pre G 80 ad w sz [.ref (ad 0), .int x1]) (tw_Qi G 80 ad (fun r w1 => ((-1 : Int32) = r ∧ ((((z1 < 0)) ∨ ((¬ (z1 < 0)) ∧ (99 < z1))))) ∨ ((0 : Int32) = r ∧ (((¬ (z1 < 0)) ∧ (¬ (99 < z1)))))) sz) 0 0 (tw_A 80 ad sz) := by
  refine tw_met (by decide) (Nat.le_of_ble_eq_true rfl) ?_
  intro p e s m args below meth c F hret hlk hin hargs hsz hH ls hl
  have hx := F.1.1
  have hb := F.1.2.1
  have hown := F.1.2.2.2.1
  have hts := F.1.2.2.2.2
  have hl : lv_has ls 3 [(0, .ref (ad 0)), (1, .int x1)] := hl
  generalize hH0 : s.heap = H at hH ⊢
  refine lv_aload_n hx hb dX12_result_0 rfl (lv_at hl 0 rfl) ?_
  refine lv_iconst (v := 0) hx hb dX12_result_1 (by decide) ?_
  refine tw_put (r := 0) F hH kf_RX12_3 kp_X12_0 rfl (by decide) hw_0 (Nat.le_of_ble_eq_true rfl) rfl rfl dX12_result_2 (fun H locs w1 hw2 hne3 hH => ?_)
  have hw2 : w1 0 = .inr (12, [.int (0 : Int32), .int (2 : Int32), .int (1 : Int32), .ref (ad 1), .ref (ad 2), .ref (ad 3), .ref (ad 4), .ref (ad 5), .int (0 : Int32), .ref (ad 6), .ref (ad 7), .ref (ad 8), .int (0 : Int32), .ref (ad 9), .ref (ad 10), .ref (ad 11), .ref (ad 12), .int (0 : Int32), .ref (ad 13), .ref (ad 14), .ref (ad 15), .ref (ad 16), .ref (ad 17), .ref (ad 18), .ref (ad 19), .ref (ad 20), .ref (ad 21), .ref (ad 22), .ref (ad 23), .ref (ad 24), .ref (ad 25), .ref (ad 26), .ref (ad 27), .ref (ad 28), .ref (ad 29), .ref (ad 30), .ref (ad 31), .ref (ad 32), .ref (ad 33), .ref (ad 34), .int (0 : Int32), .int (0 : Int32), .int (0 : Int32), .ref (G.2.2 (100 + 10)), .ref (ad 35), .ref (ad 36), .ref (ad 37), .int (0 : Int32), .ref (ad 38), .ref (ad 39), .ref (ad 40), .ref (ad 41), .ref (ad 42), .ref (ad 43), .ref (ad 44), .ref (ad 45), .ref (ad 46), .ref (ad 47), .ref (ad 48), .ref (ad 49), .ref (ad 50), .ref (ad 51), .ref (ad 52), .ref (ad 53), .ref (ad 54), .ref (ad 55), .ref (ad 56), .ref (ad 57), .ref (ad 58), .ref (ad 59), .int (0 : Int32), .ref (ad 60), .int (0 : Int32), .ref (ad 61), .ref (ad 62), .int (0 : Int32), .ref (ad 63), .ref (ad 64), .ref (ad 65), .ref (ad 66), .ref (ad 67), .ref (ad 68), .int (0 : Int32), .ref (ad 69), .ref (ad 70), .ref (ad 71), .ref (ad 72), .ref (ad 73), .int (0 : Int32), .int (0 : Int32), .int (0 : Int32), .ref (ad 74), .ref (ad 75), .ref (ad 76), .ref (ad 77), .ref (ad 78), .ref (ad 79)]) := hw2
  refine lv_iload_n hx hb dX12_result_5 rfl (lv_at hl 1 rfl) ?_
  refine tw_calli F hH (tw_runS (As := [.int x1]) (rest := []) F hH (c_X12_isDay l G 80 ad w1 H.size x1 (z1) e1) (tw_gl kw_1651 rfl) km_X12_isDay (tw_gl kw_1652 rfl) rfl rfl ⟨(Nat.le_of_ble_eq_true rfl), (Nat.le_of_ble_eq_true rfl)⟩ rfl hl.1 rfl (Nat.le_of_ble_eq_true rfl) dX12_result_6 ⟨(Nat.le_of_ble_eq_true rfl), (Nat.le_of_ble_eq_true rfl)⟩) (fun r6 w4 H locs hp5 _ hH => ?_)
  rcases hp5 with ⟨rfl, hc7, rfl⟩ | ⟨rfl, hc8, rfl⟩
  · skip
    refine lv_if_ne (tgt := 14) hx hb dX12_result_9 (by decide) (fun c => absurd c (by decide)) (fun _ => ?_)
    refine lv_iconst (v := -1) hx hb dX12_result_12 (by decide) ?_
    exact tw_iret F hH hret hlk rfl (Nat.le_of_ble_eq_true rfl) (Nat.le_of_ble_eq_true rfl) dX12_result_13 (Or.inl (⟨rfl, (by omega)⟩))
  · skip
    refine lv_if_ne (tgt := 14) hx hb dX12_result_9 (by decide) (fun _ => ?_) (fun c => absurd c (by decide))
    refine lv_aload_n hx hb dX12_result_14 rfl (lv_at hl 0 rfl) ?_
    refine lv_iload_n hx hb dX12_result_15 rfl (lv_at hl 1 rfl) ?_
    have hw11 : w1 58 = .inl (G.2.1 0, 4, .inl (fun _ => 0)) := (hne3 58 (by decide)).trans (hw_58)
    refine tw_callv F hH (tw_runV (r := 0) (As := [.int x1]) (rest := []) F hH (c_X12_judges l G ad w1 H.size x1 (z1) e1 hw2 hw11) (tw_gl kw_1677 rfl) km_X12_judges kv_X12_judges rfl rfl ⟨(Nat.le_of_ble_eq_true rfl), (Nat.le_of_ble_eq_true rfl)⟩ (by decide) hw2 rfl rfl hl.1 rfl (Nat.le_of_ble_eq_true rfl) dX12_result_16 ⟨(Nat.le_of_ble_eq_true rfl), (Nat.le_of_ble_eq_true rfl)⟩) (fun w12 H locs hp13 _ hH => ?_)
    obtain ⟨-, hw15, hw16, hfr17⟩ := hp13
    refine lv_aload_n hx hb dX12_result_19 rfl (lv_at hl 0 rfl) ?_
    refine lv_iconst (v := 0) hx hb dX12_result_20 (by decide) ?_
    refine tw_put (r := 0) F hH kf_RX12_185 kp_X12_82 rfl (by decide) hw15 (Nat.le_of_ble_eq_true rfl) rfl rfl dX12_result_21 (fun H locs w18 hw19 hne20 hH => ?_)
    have hw19 : w18 0 = .inr (12, [.int (0 : Int32), .int (2 : Int32), .int (1 : Int32), .ref (ad 1), .ref (ad 2), .ref (ad 3), .ref (ad 4), .ref (ad 5), .int (0 : Int32), .ref (ad 6), .ref (ad 7), .ref (ad 8), .int (0 : Int32), .ref (ad 9), .ref (ad 10), .ref (ad 11), .ref (ad 12), .int (0 : Int32), .ref (ad 13), .ref (ad 14), .ref (ad 15), .ref (ad 16), .ref (ad 17), .ref (ad 18), .ref (ad 19), .ref (ad 20), .ref (ad 21), .ref (ad 22), .ref (ad 23), .ref (ad 24), .ref (ad 25), .ref (ad 26), .ref (ad 27), .ref (ad 28), .ref (ad 29), .ref (ad 30), .ref (ad 31), .ref (ad 32), .ref (ad 33), .ref (ad 34), .int (0 : Int32), .int (0 : Int32), .int (0 : Int32), .ref (G.2.2 (100 + 10)), .ref (ad 35), .ref (ad 36), .ref (ad 37), .int (0 : Int32), .ref (ad 38), .ref (ad 39), .ref (ad 40), .ref (ad 41), .ref (ad 42), .ref (ad 43), .ref (ad 44), .ref (ad 45), .ref (ad 46), .ref (ad 47), .ref (ad 48), .ref (ad 49), .ref (ad 50), .ref (ad 51), .ref (ad 52), .ref (ad 53), .ref (ad 54), .ref (ad 55), .ref (ad 56), .ref (ad 57), .ref (ad 58), .ref (ad 59), .int (0 : Int32), .ref (ad 60), .int (0 : Int32), .ref (ad 61), .ref (ad 62), .int (0 : Int32), .ref (ad 63), .ref (ad 64), .ref (ad 65), .ref (ad 66), .ref (ad 67), .ref (ad 68), .int (0 : Int32), .ref (ad 69), .ref (ad 70), .ref (ad 71), .ref (ad 72), .ref (ad 73), .int (0 : Int32), .int (0 : Int32), .int (0 : Int32), .ref (ad 74), .ref (ad 75), .ref (ad 76), .ref (ad 77), .ref (ad 78), .ref (ad 79)]) := hw19
    refine lv_iconst (v := 0) hx hb dX12_result_24 (by decide) ?_
    refine lv_istore_n (lv' := [(2, .int (0 : Int32)), (0, .ref (ad 0)), (1, .int x1)]) hx hb dX12_result_25 rfl hl (by decide) rfl (fun ls hl => ?_)
    refine lv_iload_n hx hb dX12_result_26 rfl (lv_at hl 0 rfl) ?_
    refine lv_aload_n hx hb dX12_result_27 rfl (lv_at hl 1 rfl) ?_
    refine tw_get (r := 0) F hH kf_RX12_30 rfl (by decide) hw19 rfl dX12_result_28 ?_
    refine lv_icmp_ge (tgt := 63) hx hb dX12_result_31 (by decide) (fun _ => ?_) (fun c => absurd c (by decide))
    refine lv_iconst (v := 0) hx hb dX12_result_63 (by decide) ?_
    refine lv_istore_n (lv' := [(2, .int (0 : Int32)), (0, .ref (ad 0)), (1, .int x1)]) hx hb dX12_result_64 rfl hl (by decide) rfl (fun ls hl => ?_)
    refine lv_iload_n hx hb dX12_result_65 rfl (lv_at hl 0 rfl) ?_
    refine lv_aload_n hx hb dX12_result_66 rfl (lv_at hl 1 rfl) ?_
    refine tw_get (r := 0) F hH kf_RX12_30 rfl (by decide) hw19 rfl dX12_result_67 ?_
    refine lv_icmp_ge (tgt := 100) hx hb dX12_result_70 (by decide) (fun _ => ?_) (fun c => absurd c (by decide))
    refine lv_aload_n hx hb dX12_result_100 rfl (lv_at hl 1 rfl) ?_
    refine tw_get (r := 0) F hH kf_RX12_185 rfl (by decide) hw19 rfl dX12_result_101 ?_
    exact tw_iret F hH hret hlk rfl (Nat.le_of_ble_eq_true rfl) (Nat.le_of_ble_eq_true rfl) dX12_result_104 (Or.inr (⟨rfl, (by omega)⟩))
set_option maxHeartbeats 4000000 in
set_option maxRecDepth 100000 in
theorem c_X12_move (l : Launch) (G : tw_G) (ad : Nat → Nat) (w : Nat → va_E) (sz : Nat) (x1 : Int32) (z1 : Int) (e1 : x1.toInt = z1) (x2 : Int32) (z2 : Int) (e2 : x2.toInt = z2) (x3 : Int32) (z3 : Int) (e3 : x3.toInt = z3) (x4 : Int32) (z4 : Int) (e4 : x4.toInt = z4) (hw_0 : w 0 = .inr (12, [.int (0 : Int32), .int (2 : Int32), .int (1 : Int32), .ref (ad 1), .ref (ad 2), .ref (ad 3), .ref (ad 4), .ref (ad 5), .int (0 : Int32), .ref (ad 6), .ref (ad 7), .ref (ad 8), .int (0 : Int32), .ref (ad 9), .ref (ad 10), .ref (ad 11), .ref (ad 12), .int (0 : Int32), .ref (ad 13), .ref (ad 14), .ref (ad 15), .ref (ad 16), .ref (ad 17), .ref (ad 18), .ref (ad 19), .ref (ad 20), .ref (ad 21), .ref (ad 22), .ref (ad 23), .ref (ad 24), .ref (ad 25), .ref (ad 26), .ref (ad 27), .ref (ad 28), .ref (ad 29), .ref (ad 30), .ref (ad 31), .ref (ad 32), .ref (ad 33), .ref (ad 34), .int (0 : Int32), .int (0 : Int32), .int (0 : Int32), .ref (G.2.2 (100 + 10)), .ref (ad 35), .ref (ad 36), .ref (ad 37), .int (0 : Int32), .ref (ad 38), .ref (ad 39), .ref (ad 40), .ref (ad 41), .ref (ad 42), .ref (ad 43), .ref (ad 44), .ref (ad 45), .ref (ad 46), .ref (ad 47), .ref (ad 48), .ref (ad 49), .ref (ad 50), .ref (ad 51), .ref (ad 52), .ref (ad 53), .ref (ad 54), .ref (ad 55), .ref (ad 56), .ref (ad 57), .ref (ad 58), .ref (ad 59), .int (0 : Int32), .ref (ad 60), .int (0 : Int32), .ref (ad 61), .ref (ad 62), .int (0 : Int32), .ref (ad 63), .ref (ad 64), .ref (ad 65), .ref (ad 66), .ref (ad 67), .ref (ad 68), .int (0 : Int32), .ref (ad 69), .ref (ad 70), .ref (ad 71), .ref (ad 72), .ref (ad 73), .int (0 : Int32), .int (0 : Int32), .int (0 : Int32), .ref (ad 74), .ref (ad 75), .ref (ad 76), .ref (ad 77), .ref (ad 78), .ref (ad 79)])) : Met l yX12_move (tw_ws yX12_move cX12_move 8 (some .int)) ({ frames := 2, cells := 0, slots := 0, locals := 46 }) (tw_Pre G 80 ad w sz [.ref (ad 0), .int x1, .int x2, .int x3, .int x4]) (tw_Qi G 80 ad (fun r w1 => ((-1 : Int32) = r ∧ ((((z1 < 0)) ∨ ((¬ (z1 < 0)) ∧ ((-1) < z1)))))) sz) 0 0 (tw_A 80 ad sz) := by
  refine tw_met (by decide) (Nat.le_of_ble_eq_true rfl) ?_
  intro p e s m args below meth c F hret hlk hin hargs hsz hH ls hl
  have hx := F.1.1
  have hb := F.1.2.1
  have hown := F.1.2.2.2.1
  have hts := F.1.2.2.2.2
  have hl : lv_has ls 8 [(0, .ref (ad 0)), (1, .int x1), (2, .int x2), (3, .int x3), (4, .int x4)] := hl
  generalize hH0 : s.heap = H at hH ⊢
  refine lv_aload_n hx hb dX12_move_0 rfl (lv_at hl 0 rfl) ?_
  refine lv_iconst (v := 0) hx hb dX12_move_1 (by decide) ?_
  refine tw_put (r := 0) F hH kf_RX12_3 kp_X12_0 rfl (by decide) hw_0 (Nat.le_of_ble_eq_true rfl) rfl rfl dX12_move_2 (fun H locs w1 hw2 hne3 hH => ?_)
  have hw2 : w1 0 = .inr (12, [.int (0 : Int32), .int (2 : Int32), .int (1 : Int32), .ref (ad 1), .ref (ad 2), .ref (ad 3), .ref (ad 4), .ref (ad 5), .int (0 : Int32), .ref (ad 6), .ref (ad 7), .ref (ad 8), .int (0 : Int32), .ref (ad 9), .ref (ad 10), .ref (ad 11), .ref (ad 12), .int (0 : Int32), .ref (ad 13), .ref (ad 14), .ref (ad 15), .ref (ad 16), .ref (ad 17), .ref (ad 18), .ref (ad 19), .ref (ad 20), .ref (ad 21), .ref (ad 22), .ref (ad 23), .ref (ad 24), .ref (ad 25), .ref (ad 26), .ref (ad 27), .ref (ad 28), .ref (ad 29), .ref (ad 30), .ref (ad 31), .ref (ad 32), .ref (ad 33), .ref (ad 34), .int (0 : Int32), .int (0 : Int32), .int (0 : Int32), .ref (G.2.2 (100 + 10)), .ref (ad 35), .ref (ad 36), .ref (ad 37), .int (0 : Int32), .ref (ad 38), .ref (ad 39), .ref (ad 40), .ref (ad 41), .ref (ad 42), .ref (ad 43), .ref (ad 44), .ref (ad 45), .ref (ad 46), .ref (ad 47), .ref (ad 48), .ref (ad 49), .ref (ad 50), .ref (ad 51), .ref (ad 52), .ref (ad 53), .ref (ad 54), .ref (ad 55), .ref (ad 56), .ref (ad 57), .ref (ad 58), .ref (ad 59), .int (0 : Int32), .ref (ad 60), .int (0 : Int32), .ref (ad 61), .ref (ad 62), .int (0 : Int32), .ref (ad 63), .ref (ad 64), .ref (ad 65), .ref (ad 66), .ref (ad 67), .ref (ad 68), .int (0 : Int32), .ref (ad 69), .ref (ad 70), .ref (ad 71), .ref (ad 72), .ref (ad 73), .int (0 : Int32), .int (0 : Int32), .int (0 : Int32), .ref (ad 74), .ref (ad 75), .ref (ad 76), .ref (ad 77), .ref (ad 78), .ref (ad 79)]) := hw2
  refine lv_aload_n hx hb dX12_move_5 rfl (lv_at hl 0 rfl) ?_
  refine lv_iload_n hx hb dX12_move_6 rfl (lv_at hl 1 rfl) ?_
  refine tw_calli F hH (tw_runV (r := 0) (As := [.int x1]) (rest := []) F hH (c_X12_isCar l G ad w1 H.size x1 (z1) e1 hw2) (tw_gl kw_1409 rfl) km_X12_isCar kv_X12_isCar rfl rfl ⟨(Nat.le_of_ble_eq_true rfl), (Nat.le_of_ble_eq_true rfl)⟩ (by decide) hw2 rfl rfl hl.1 rfl (Nat.le_of_ble_eq_true rfl) dX12_move_7 ⟨(Nat.le_of_ble_eq_true rfl), (Nat.le_of_ble_eq_true rfl)⟩) (fun r6 w4 H locs hp5 _ hH => ?_)
  obtain ⟨rfl, hc7, rfl⟩ := hp5
  refine lv_if_eq (tgt := 47) hx hb dX12_move_10 (by decide) (fun _ => ?_) (fun c => absurd c (by decide))
  refine lv_iconst (v := -1) hx hb dX12_move_47 (by decide) ?_
  exact tw_iret F hH hret hlk rfl (Nat.le_of_ble_eq_true rfl) (Nat.le_of_ble_eq_true rfl) dX12_move_48 (⟨rfl, (by omega)⟩)
set_option maxHeartbeats 4000000 in
set_option maxRecDepth 100000 in
theorem c_X12_isAsked (l : Launch) (G : tw_G) (ad : Nat → Nat) (w : Nat → va_E) (sz : Nat) (x1 : Int32) (z1 : Int) (e1 : x1.toInt = z1) (x2 : Int32) (z2 : Int) (e2 : x2.toInt = z2) (x3 : Int32) (z3 : Int) (e3 : x3.toInt = z3) (hw_0 : w 0 = .inr (12, [.int (0 : Int32), .int (2 : Int32), .int (1 : Int32), .ref (ad 1), .ref (ad 2), .ref (ad 3), .ref (ad 4), .ref (ad 5), .int (0 : Int32), .ref (ad 6), .ref (ad 7), .ref (ad 8), .int (0 : Int32), .ref (ad 9), .ref (ad 10), .ref (ad 11), .ref (ad 12), .int (0 : Int32), .ref (ad 13), .ref (ad 14), .ref (ad 15), .ref (ad 16), .ref (ad 17), .ref (ad 18), .ref (ad 19), .ref (ad 20), .ref (ad 21), .ref (ad 22), .ref (ad 23), .ref (ad 24), .ref (ad 25), .ref (ad 26), .ref (ad 27), .ref (ad 28), .ref (ad 29), .ref (ad 30), .ref (ad 31), .ref (ad 32), .ref (ad 33), .ref (ad 34), .int (0 : Int32), .int (0 : Int32), .int (0 : Int32), .ref (G.2.2 (100 + 10)), .ref (ad 35), .ref (ad 36), .ref (ad 37), .int (0 : Int32), .ref (ad 38), .ref (ad 39), .ref (ad 40), .ref (ad 41), .ref (ad 42), .ref (ad 43), .ref (ad 44), .ref (ad 45), .ref (ad 46), .ref (ad 47), .ref (ad 48), .ref (ad 49), .ref (ad 50), .ref (ad 51), .ref (ad 52), .ref (ad 53), .ref (ad 54), .ref (ad 55), .ref (ad 56), .ref (ad 57), .ref (ad 58), .ref (ad 59), .int (0 : Int32), .ref (ad 60), .int (0 : Int32), .ref (ad 61), .ref (ad 62), .int (0 : Int32), .ref (ad 63), .ref (ad 64), .ref (ad 65), .ref (ad 66), .ref (ad 67), .ref (ad 68), .int (0 : Int32), .ref (ad 69), .ref (ad 70), .ref (ad 71), .ref (ad 72), .ref (ad 73), .int (0 : Int32), .int (0 : Int32), .int (0 : Int32), .ref (ad 74), .ref (ad 75), .ref (ad 76), .ref (ad 77), .ref (ad 78), .ref (ad 79)])) : Met l yX12_isAsked (tw_ws yX12_isAsked cX12_isAsked 4 (some .boolean)) ({ frames := 2, cells := 0, slots := 0, locals := 46 }) (tw_Pre G 80 ad w sz [.ref (ad 0), .int x1, .int x2, .int x3]) (tw_Qi G 80 ad (fun r w1 => ((0 : Int32) = r ∧ ((((z1 < 0)) ∨ ((¬ (z1 < 0)) ∧ ((-1) < z1)))) ∧ w = w1)) sz) 0 0 (tw_A 80 ad sz) := by
  refine tw_met (by decide) (Nat.le_of_ble_eq_true rfl) ?_
  intro p e s m args below meth c F hret hlk hin hargs hsz hH ls hl
  have hx := F.1.1
  have hb := F.1.2.1
  have hown := F.1.2.2.2.1
  have hts := F.1.2.2.2.2
  have hl : lv_has ls 4 [(0, .ref (ad 0)), (1, .int x1), (2, .int x2), (3, .int x3)] := hl
  generalize hH0 : s.heap = H at hH ⊢
  refine lv_aload_n hx hb dX12_isAsked_0 rfl (lv_at hl 0 rfl) ?_
  refine lv_iload_n hx hb dX12_isAsked_1 rfl (lv_at hl 1 rfl) ?_
  refine tw_calli F hH (tw_runV (r := 0) (As := [.int x1]) (rest := []) F hH (c_X12_isCar l G ad w H.size x1 (z1) e1 hw_0) (tw_gl kw_1409 rfl) km_X12_isCar kv_X12_isCar rfl rfl ⟨(Nat.le_of_ble_eq_true rfl), (Nat.le_of_ble_eq_true rfl)⟩ (by decide) hw_0 rfl rfl hl.1 rfl (Nat.le_of_ble_eq_true rfl) dX12_isAsked_2 ⟨(Nat.le_of_ble_eq_true rfl), (Nat.le_of_ble_eq_true rfl)⟩) (fun r3 w1 H locs hp2 _ hH => ?_)
  obtain ⟨rfl, hc4, rfl⟩ := hp2
  refine lv_if_eq (tgt := 31) hx hb dX12_isAsked_5 (by decide) (fun _ => ?_) (fun c => absurd c (by decide))
  refine lv_iconst (v := 0) hx hb dX12_isAsked_31 (by decide) ?_
  exact tw_iret F hH hret hlk rfl (Nat.le_of_ble_eq_true rfl) (Nat.le_of_ble_eq_true rfl) dX12_isAsked_32 (⟨rfl, (by omega), rfl⟩)
set_option maxHeartbeats 4000000 in
set_option maxRecDepth 100000 in
theorem c_X12_best (l : Launch) (G : tw_G) (ad : Nat → Nat) (w : Nat → va_E) (sz : Nat) (x1 : Int32) (z1 : Int) (e1 : x1.toInt = z1) (x2 : Int32) (z2 : Int) (e2 : x2.toInt = z2) (x3 : Int32) (z3 : Int) (e3 : x3.toInt = z3) (hw_0 : w 0 = .inr (12, [.int (0 : Int32), .int (2 : Int32), .int (1 : Int32), .ref (ad 1), .ref (ad 2), .ref (ad 3), .ref (ad 4), .ref (ad 5), .int (0 : Int32), .ref (ad 6), .ref (ad 7), .ref (ad 8), .int (0 : Int32), .ref (ad 9), .ref (ad 10), .ref (ad 11), .ref (ad 12), .int (0 : Int32), .ref (ad 13), .ref (ad 14), .ref (ad 15), .ref (ad 16), .ref (ad 17), .ref (ad 18), .ref (ad 19), .ref (ad 20), .ref (ad 21), .ref (ad 22), .ref (ad 23), .ref (ad 24), .ref (ad 25), .ref (ad 26), .ref (ad 27), .ref (ad 28), .ref (ad 29), .ref (ad 30), .ref (ad 31), .ref (ad 32), .ref (ad 33), .ref (ad 34), .int (0 : Int32), .int (0 : Int32), .int (0 : Int32), .ref (G.2.2 (100 + 10)), .ref (ad 35), .ref (ad 36), .ref (ad 37), .int (0 : Int32), .ref (ad 38), .ref (ad 39), .ref (ad 40), .ref (ad 41), .ref (ad 42), .ref (ad 43), .ref (ad 44), .ref (ad 45), .ref (ad 46), .ref (ad 47), .ref (ad 48), .ref (ad 49), .ref (ad 50), .ref (ad 51), .ref (ad 52), .ref (ad 53), .ref (ad 54), .ref (ad 55), .ref (ad 56), .ref (ad 57), .ref (ad 58), .ref (ad 59), .int (0 : Int32), .ref (ad 60), .int (0 : Int32), .ref (ad 61), .ref (ad 62), .int (0 : Int32), .ref (ad 63), .ref (ad 64), .ref (ad 65), .ref (ad 66), .ref (ad 67), .ref (ad 68), .int (0 : Int32), .ref (ad 69), .ref (ad 70), .ref (ad 71), .ref (ad 72), .ref (ad 73), .int (0 : Int32), .int (0 : Int32), .int (0 : Int32), .ref (ad 74), .ref (ad 75), .ref (ad 76), .ref (ad 77), .ref (ad 78), .ref (ad 79)])) : Met l yX12_best (tw_ws yX12_best cX12_best 5 (some .int)) ({ frames := 3, cells := 0, slots := 0, locals := 69 }) (tw_Pre G 80 ad w sz [.ref (ad 0), .int x1, .int x2, .int x3]) (tw_Qi G 80 ad (fun r w1 => ((-1 : Int32) = r ∧ (((((z1 < 0)) ∨ ((¬ (z1 < 0)) ∧ ((-1) < z1))))))) sz) 0 0 (tw_A 80 ad sz) := by
  refine tw_met (by decide) (Nat.le_of_ble_eq_true rfl) ?_
  intro p e s m args below meth c F hret hlk hin hargs hsz hH ls hl
  have hx := F.1.1
  have hb := F.1.2.1
  have hown := F.1.2.2.2.1
  have hts := F.1.2.2.2.2
  have hl : lv_has ls 5 [(0, .ref (ad 0)), (1, .int x1), (2, .int x2), (3, .int x3)] := hl
  generalize hH0 : s.heap = H at hH ⊢
  refine lv_aload_n hx hb dX12_best_0 rfl (lv_at hl 0 rfl) ?_
  refine lv_iconst (v := 0) hx hb dX12_best_1 (by decide) ?_
  refine tw_put (r := 0) F hH kf_RX12_3 kp_X12_0 rfl (by decide) hw_0 (Nat.le_of_ble_eq_true rfl) rfl rfl dX12_best_2 (fun H locs w1 hw2 hne3 hH => ?_)
  have hw2 : w1 0 = .inr (12, [.int (0 : Int32), .int (2 : Int32), .int (1 : Int32), .ref (ad 1), .ref (ad 2), .ref (ad 3), .ref (ad 4), .ref (ad 5), .int (0 : Int32), .ref (ad 6), .ref (ad 7), .ref (ad 8), .int (0 : Int32), .ref (ad 9), .ref (ad 10), .ref (ad 11), .ref (ad 12), .int (0 : Int32), .ref (ad 13), .ref (ad 14), .ref (ad 15), .ref (ad 16), .ref (ad 17), .ref (ad 18), .ref (ad 19), .ref (ad 20), .ref (ad 21), .ref (ad 22), .ref (ad 23), .ref (ad 24), .ref (ad 25), .ref (ad 26), .ref (ad 27), .ref (ad 28), .ref (ad 29), .ref (ad 30), .ref (ad 31), .ref (ad 32), .ref (ad 33), .ref (ad 34), .int (0 : Int32), .int (0 : Int32), .int (0 : Int32), .ref (G.2.2 (100 + 10)), .ref (ad 35), .ref (ad 36), .ref (ad 37), .int (0 : Int32), .ref (ad 38), .ref (ad 39), .ref (ad 40), .ref (ad 41), .ref (ad 42), .ref (ad 43), .ref (ad 44), .ref (ad 45), .ref (ad 46), .ref (ad 47), .ref (ad 48), .ref (ad 49), .ref (ad 50), .ref (ad 51), .ref (ad 52), .ref (ad 53), .ref (ad 54), .ref (ad 55), .ref (ad 56), .ref (ad 57), .ref (ad 58), .ref (ad 59), .int (0 : Int32), .ref (ad 60), .int (0 : Int32), .ref (ad 61), .ref (ad 62), .int (0 : Int32), .ref (ad 63), .ref (ad 64), .ref (ad 65), .ref (ad 66), .ref (ad 67), .ref (ad 68), .int (0 : Int32), .ref (ad 69), .ref (ad 70), .ref (ad 71), .ref (ad 72), .ref (ad 73), .int (0 : Int32), .int (0 : Int32), .int (0 : Int32), .ref (ad 74), .ref (ad 75), .ref (ad 76), .ref (ad 77), .ref (ad 78), .ref (ad 79)]) := hw2
  refine lv_aload_n hx hb dX12_best_5 rfl (lv_at hl 0 rfl) ?_
  refine lv_iload_n hx hb dX12_best_6 rfl (lv_at hl 1 rfl) ?_
  refine lv_iload_n hx hb dX12_best_7 rfl (lv_at hl 2 rfl) ?_
  refine lv_iload_n hx hb dX12_best_8 rfl (lv_at hl 3 rfl) ?_
  refine tw_calli F hH (tw_runV (r := 0) (As := [.int x1, .int x2, .int x3]) (rest := []) F hH (c_X12_isAsked l G ad w1 H.size x1 (z1) e1 x2 (z2) e2 x3 (z3) e3 hw2) (tw_gl kw_1713 rfl) km_X12_isAsked kv_X12_isAsked rfl rfl ⟨(Nat.le_of_ble_eq_true rfl), (Nat.le_of_ble_eq_true rfl)⟩ (by decide) hw2 rfl rfl hl.1 rfl (Nat.le_of_ble_eq_true rfl) dX12_best_9 ⟨(Nat.le_of_ble_eq_true rfl), (Nat.le_of_ble_eq_true rfl)⟩) (fun r6 w4 H locs hp5 _ hH => ?_)
  obtain ⟨rfl, hc7, rfl⟩ := hp5
  refine lv_if_eq (tgt := 25) hx hb dX12_best_12 (by decide) (fun _ => ?_) (fun c => absurd c (by decide))
  refine lv_iconst (v := -1) hx hb dX12_best_25 (by decide) ?_
  exact tw_iret F hH hret hlk rfl (Nat.le_of_ble_eq_true rfl) (Nat.le_of_ble_eq_true rfl) dX12_best_26 (⟨rfl, (by omega)⟩)
set_option maxHeartbeats 4000000 in
set_option maxRecDepth 100000 in
theorem c_X12_gain (l : Launch) (G : tw_G) (ad : Nat → Nat) (w : Nat → va_E) (sz : Nat) (x1 : Int32) (z1 : Int) (e1 : x1.toInt = z1) (x2 : Int32) (z2 : Int) (e2 : x2.toInt = z2) (x3 : Int32) (z3 : Int) (e3 : x3.toInt = z3) (hw_0 : w 0 = .inr (12, [.int (0 : Int32), .int (2 : Int32), .int (1 : Int32), .ref (ad 1), .ref (ad 2), .ref (ad 3), .ref (ad 4), .ref (ad 5), .int (0 : Int32), .ref (ad 6), .ref (ad 7), .ref (ad 8), .int (0 : Int32), .ref (ad 9), .ref (ad 10), .ref (ad 11), .ref (ad 12), .int (0 : Int32), .ref (ad 13), .ref (ad 14), .ref (ad 15), .ref (ad 16), .ref (ad 17), .ref (ad 18), .ref (ad 19), .ref (ad 20), .ref (ad 21), .ref (ad 22), .ref (ad 23), .ref (ad 24), .ref (ad 25), .ref (ad 26), .ref (ad 27), .ref (ad 28), .ref (ad 29), .ref (ad 30), .ref (ad 31), .ref (ad 32), .ref (ad 33), .ref (ad 34), .int (0 : Int32), .int (0 : Int32), .int (0 : Int32), .ref (G.2.2 (100 + 10)), .ref (ad 35), .ref (ad 36), .ref (ad 37), .int (0 : Int32), .ref (ad 38), .ref (ad 39), .ref (ad 40), .ref (ad 41), .ref (ad 42), .ref (ad 43), .ref (ad 44), .ref (ad 45), .ref (ad 46), .ref (ad 47), .ref (ad 48), .ref (ad 49), .ref (ad 50), .ref (ad 51), .ref (ad 52), .ref (ad 53), .ref (ad 54), .ref (ad 55), .ref (ad 56), .ref (ad 57), .ref (ad 58), .ref (ad 59), .int (0 : Int32), .ref (ad 60), .int (0 : Int32), .ref (ad 61), .ref (ad 62), .int (0 : Int32), .ref (ad 63), .ref (ad 64), .ref (ad 65), .ref (ad 66), .ref (ad 67), .ref (ad 68), .int (0 : Int32), .ref (ad 69), .ref (ad 70), .ref (ad 71), .ref (ad 72), .ref (ad 73), .int (0 : Int32), .int (0 : Int32), .int (0 : Int32), .ref (ad 74), .ref (ad 75), .ref (ad 76), .ref (ad 77), .ref (ad 78), .ref (ad 79)])) : Met l yX12_gain (tw_ws yX12_gain cX12_gain 6 (some .int)) ({ frames := 3, cells := 0, slots := 0, locals := 69 }) (tw_Pre G 80 ad w sz [.ref (ad 0), .int x1, .int x2, .int x3]) (tw_Qi G 80 ad (fun r w1 => ((-1 : Int32) = r ∧ (((((z1 < 0)) ∨ ((¬ (z1 < 0)) ∧ ((-1) < z1))))))) sz) 0 0 (tw_A 80 ad sz) := by
  refine tw_met (by decide) (Nat.le_of_ble_eq_true rfl) ?_
  intro p e s m args below meth c F hret hlk hin hargs hsz hH ls hl
  have hx := F.1.1
  have hb := F.1.2.1
  have hown := F.1.2.2.2.1
  have hts := F.1.2.2.2.2
  have hl : lv_has ls 6 [(0, .ref (ad 0)), (1, .int x1), (2, .int x2), (3, .int x3)] := hl
  generalize hH0 : s.heap = H at hH ⊢
  refine lv_aload_n hx hb dX12_gain_0 rfl (lv_at hl 0 rfl) ?_
  refine lv_iconst (v := 0) hx hb dX12_gain_1 (by decide) ?_
  refine tw_put (r := 0) F hH kf_RX12_3 kp_X12_0 rfl (by decide) hw_0 (Nat.le_of_ble_eq_true rfl) rfl rfl dX12_gain_2 (fun H locs w1 hw2 hne3 hH => ?_)
  have hw2 : w1 0 = .inr (12, [.int (0 : Int32), .int (2 : Int32), .int (1 : Int32), .ref (ad 1), .ref (ad 2), .ref (ad 3), .ref (ad 4), .ref (ad 5), .int (0 : Int32), .ref (ad 6), .ref (ad 7), .ref (ad 8), .int (0 : Int32), .ref (ad 9), .ref (ad 10), .ref (ad 11), .ref (ad 12), .int (0 : Int32), .ref (ad 13), .ref (ad 14), .ref (ad 15), .ref (ad 16), .ref (ad 17), .ref (ad 18), .ref (ad 19), .ref (ad 20), .ref (ad 21), .ref (ad 22), .ref (ad 23), .ref (ad 24), .ref (ad 25), .ref (ad 26), .ref (ad 27), .ref (ad 28), .ref (ad 29), .ref (ad 30), .ref (ad 31), .ref (ad 32), .ref (ad 33), .ref (ad 34), .int (0 : Int32), .int (0 : Int32), .int (0 : Int32), .ref (G.2.2 (100 + 10)), .ref (ad 35), .ref (ad 36), .ref (ad 37), .int (0 : Int32), .ref (ad 38), .ref (ad 39), .ref (ad 40), .ref (ad 41), .ref (ad 42), .ref (ad 43), .ref (ad 44), .ref (ad 45), .ref (ad 46), .ref (ad 47), .ref (ad 48), .ref (ad 49), .ref (ad 50), .ref (ad 51), .ref (ad 52), .ref (ad 53), .ref (ad 54), .ref (ad 55), .ref (ad 56), .ref (ad 57), .ref (ad 58), .ref (ad 59), .int (0 : Int32), .ref (ad 60), .int (0 : Int32), .ref (ad 61), .ref (ad 62), .int (0 : Int32), .ref (ad 63), .ref (ad 64), .ref (ad 65), .ref (ad 66), .ref (ad 67), .ref (ad 68), .int (0 : Int32), .ref (ad 69), .ref (ad 70), .ref (ad 71), .ref (ad 72), .ref (ad 73), .int (0 : Int32), .int (0 : Int32), .int (0 : Int32), .ref (ad 74), .ref (ad 75), .ref (ad 76), .ref (ad 77), .ref (ad 78), .ref (ad 79)]) := hw2
  refine lv_aload_n hx hb dX12_gain_5 rfl (lv_at hl 0 rfl) ?_
  refine lv_iload_n hx hb dX12_gain_6 rfl (lv_at hl 1 rfl) ?_
  refine lv_iload_n hx hb dX12_gain_7 rfl (lv_at hl 2 rfl) ?_
  refine lv_iload_n hx hb dX12_gain_8 rfl (lv_at hl 3 rfl) ?_
  refine tw_calli F hH (tw_runV (r := 0) (As := [.int x1, .int x2, .int x3]) (rest := []) F hH (c_X12_isAsked l G ad w1 H.size x1 (z1) e1 x2 (z2) e2 x3 (z3) e3 hw2) (tw_gl kw_1713 rfl) km_X12_isAsked kv_X12_isAsked rfl rfl ⟨(Nat.le_of_ble_eq_true rfl), (Nat.le_of_ble_eq_true rfl)⟩ (by decide) hw2 rfl rfl hl.1 rfl (Nat.le_of_ble_eq_true rfl) dX12_gain_9 ⟨(Nat.le_of_ble_eq_true rfl), (Nat.le_of_ble_eq_true rfl)⟩) (fun r6 w4 H locs hp5 _ hH => ?_)
  obtain ⟨rfl, hc7, rfl⟩ := hp5
  refine lv_if_eq (tgt := 25) hx hb dX12_gain_12 (by decide) (fun _ => ?_) (fun c => absurd c (by decide))
  refine lv_iconst (v := -1) hx hb dX12_gain_25 (by decide) ?_
  exact tw_iret F hH hret hlk rfl (Nat.le_of_ble_eq_true rfl) (Nat.le_of_ble_eq_true rfl) dX12_gain_26 (⟨rfl, (by omega)⟩)
set_option maxHeartbeats 4000000 in
set_option maxRecDepth 100000 in
theorem c_X12_option (l : Launch) (G : tw_G) (ad : Nat → Nat) (w : Nat → va_E) (sz : Nat) (x1 : Int32) (z1 : Int) (e1 : x1.toInt = z1) (x2 : Int32) (z2 : Int) (e2 : x2.toInt = z2) (x3 : Int32) (z3 : Int) (e3 : x3.toInt = z3) (hw_0 : w 0 = .inr (12, [.int (0 : Int32), .int (2 : Int32), .int (1 : Int32), .ref (ad 1), .ref (ad 2), .ref (ad 3), .ref (ad 4), .ref (ad 5), .int (0 : Int32), .ref (ad 6), .ref (ad 7), .ref (ad 8), .int (0 : Int32), .ref (ad 9), .ref (ad 10), .ref (ad 11), .ref (ad 12), .int (0 : Int32), .ref (ad 13), .ref (ad 14), .ref (ad 15), .ref (ad 16), .ref (ad 17), .ref (ad 18), .ref (ad 19), .ref (ad 20), .ref (ad 21), .ref (ad 22), .ref (ad 23), .ref (ad 24), .ref (ad 25), .ref (ad 26), .ref (ad 27), .ref (ad 28), .ref (ad 29), .ref (ad 30), .ref (ad 31), .ref (ad 32), .ref (ad 33), .ref (ad 34), .int (0 : Int32), .int (0 : Int32), .int (0 : Int32), .ref (G.2.2 (100 + 10)), .ref (ad 35), .ref (ad 36), .ref (ad 37), .int (0 : Int32), .ref (ad 38), .ref (ad 39), .ref (ad 40), .ref (ad 41), .ref (ad 42), .ref (ad 43), .ref (ad 44), .ref (ad 45), .ref (ad 46), .ref (ad 47), .ref (ad 48), .ref (ad 49), .ref (ad 50), .ref (ad 51), .ref (ad 52), .ref (ad 53), .ref (ad 54), .ref (ad 55), .ref (ad 56), .ref (ad 57), .ref (ad 58), .ref (ad 59), .int (0 : Int32), .ref (ad 60), .int (0 : Int32), .ref (ad 61), .ref (ad 62), .int (0 : Int32), .ref (ad 63), .ref (ad 64), .ref (ad 65), .ref (ad 66), .ref (ad 67), .ref (ad 68), .int (0 : Int32), .ref (ad 69), .ref (ad 70), .ref (ad 71), .ref (ad 72), .ref (ad 73), .int (0 : Int32), .int (0 : Int32), .int (0 : Int32), .ref (ad 74), .ref (ad 75), .ref (ad 76), .ref (ad 77), .ref (ad 78), .ref (ad 79)])) : Met l yX12_option (tw_ws yX12_option cX12_option 5 (some .int)) ({ frames := 2, cells := 0, slots := 0, locals := 46 }) (tw_Pre G 80 ad w sz [.ref (ad 0), .int x1, .int x2, .int x3]) (tw_Qi G 80 ad (fun r w1 => ((-1 : Int32) = r ∧ ((((z1 < 0)) ∨ ((¬ (z1 < 0)) ∧ ((-1) < z1)))))) sz) 0 0 (tw_A 80 ad sz) := by
  refine tw_met (by decide) (Nat.le_of_ble_eq_true rfl) ?_
  intro p e s m args below meth c F hret hlk hin hargs hsz hH ls hl
  have hx := F.1.1
  have hb := F.1.2.1
  have hown := F.1.2.2.2.1
  have hts := F.1.2.2.2.2
  have hl : lv_has ls 5 [(0, .ref (ad 0)), (1, .int x1), (2, .int x2), (3, .int x3)] := hl
  generalize hH0 : s.heap = H at hH ⊢
  refine lv_aload_n hx hb dX12_option_0 rfl (lv_at hl 0 rfl) ?_
  refine lv_iconst (v := 0) hx hb dX12_option_1 (by decide) ?_
  refine tw_put (r := 0) F hH kf_RX12_3 kp_X12_0 rfl (by decide) hw_0 (Nat.le_of_ble_eq_true rfl) rfl rfl dX12_option_2 (fun H locs w1 hw2 hne3 hH => ?_)
  have hw2 : w1 0 = .inr (12, [.int (0 : Int32), .int (2 : Int32), .int (1 : Int32), .ref (ad 1), .ref (ad 2), .ref (ad 3), .ref (ad 4), .ref (ad 5), .int (0 : Int32), .ref (ad 6), .ref (ad 7), .ref (ad 8), .int (0 : Int32), .ref (ad 9), .ref (ad 10), .ref (ad 11), .ref (ad 12), .int (0 : Int32), .ref (ad 13), .ref (ad 14), .ref (ad 15), .ref (ad 16), .ref (ad 17), .ref (ad 18), .ref (ad 19), .ref (ad 20), .ref (ad 21), .ref (ad 22), .ref (ad 23), .ref (ad 24), .ref (ad 25), .ref (ad 26), .ref (ad 27), .ref (ad 28), .ref (ad 29), .ref (ad 30), .ref (ad 31), .ref (ad 32), .ref (ad 33), .ref (ad 34), .int (0 : Int32), .int (0 : Int32), .int (0 : Int32), .ref (G.2.2 (100 + 10)), .ref (ad 35), .ref (ad 36), .ref (ad 37), .int (0 : Int32), .ref (ad 38), .ref (ad 39), .ref (ad 40), .ref (ad 41), .ref (ad 42), .ref (ad 43), .ref (ad 44), .ref (ad 45), .ref (ad 46), .ref (ad 47), .ref (ad 48), .ref (ad 49), .ref (ad 50), .ref (ad 51), .ref (ad 52), .ref (ad 53), .ref (ad 54), .ref (ad 55), .ref (ad 56), .ref (ad 57), .ref (ad 58), .ref (ad 59), .int (0 : Int32), .ref (ad 60), .int (0 : Int32), .ref (ad 61), .ref (ad 62), .int (0 : Int32), .ref (ad 63), .ref (ad 64), .ref (ad 65), .ref (ad 66), .ref (ad 67), .ref (ad 68), .int (0 : Int32), .ref (ad 69), .ref (ad 70), .ref (ad 71), .ref (ad 72), .ref (ad 73), .int (0 : Int32), .int (0 : Int32), .int (0 : Int32), .ref (ad 74), .ref (ad 75), .ref (ad 76), .ref (ad 77), .ref (ad 78), .ref (ad 79)]) := hw2
  refine lv_aload_n hx hb dX12_option_5 rfl (lv_at hl 0 rfl) ?_
  refine lv_iload_n hx hb dX12_option_6 rfl (lv_at hl 1 rfl) ?_
  refine tw_calli F hH (tw_runV (r := 0) (As := [.int x1]) (rest := []) F hH (c_X12_isCar l G ad w1 H.size x1 (z1) e1 hw2) (tw_gl kw_1409 rfl) km_X12_isCar kv_X12_isCar rfl rfl ⟨(Nat.le_of_ble_eq_true rfl), (Nat.le_of_ble_eq_true rfl)⟩ (by decide) hw2 rfl rfl hl.1 rfl (Nat.le_of_ble_eq_true rfl) dX12_option_7 ⟨(Nat.le_of_ble_eq_true rfl), (Nat.le_of_ble_eq_true rfl)⟩) (fun r6 w4 H locs hp5 _ hH => ?_)
  obtain ⟨rfl, hc7, rfl⟩ := hp5
  refine lv_if_eq (tgt := 37) hx hb dX12_option_10 (by decide) (fun _ => ?_) (fun c => absurd c (by decide))
  refine lv_iconst (v := 0) hx hb dX12_option_37 (by decide) ?_
  refine lv_istore (lv' := [(4, .int (0 : Int32)), (0, .ref (ad 0)), (1, .int x1), (2, .int x2), (3, .int x3)]) hx hb dX12_option_38 hl (by decide) rfl (fun ls hl => ?_)
  refine lv_iload hx hb dX12_option_40 (lv_at hl 0 rfl) ?_
  refine lv_if_eq (tgt := 55) hx hb dX12_option_42 (by decide) (fun _ => ?_) (fun c => absurd c (by decide))
  refine lv_iconst (v := -1) hx hb dX12_option_55 (by decide) ?_
  exact tw_iret F hH hret hlk rfl (Nat.le_of_ble_eq_true rfl) (Nat.le_of_ble_eq_true rfl) dX12_option_56 (⟨rfl, (by omega)⟩)
set_option maxHeartbeats 4000000 in
set_option maxRecDepth 100000 in
theorem c_X12_clear (l : Launch) (G : tw_G) (ad : Nat → Nat) (w : Nat → va_E) (sz : Nat) (hw_0 : w 0 = .inr (12, [.int (0 : Int32), .int (2 : Int32), .int (1 : Int32), .ref (ad 1), .ref (ad 2), .ref (ad 3), .ref (ad 4), .ref (ad 5), .int (0 : Int32), .ref (ad 6), .ref (ad 7), .ref (ad 8), .int (0 : Int32), .ref (ad 9), .ref (ad 10), .ref (ad 11), .ref (ad 12), .int (0 : Int32), .ref (ad 13), .ref (ad 14), .ref (ad 15), .ref (ad 16), .ref (ad 17), .ref (ad 18), .ref (ad 19), .ref (ad 20), .ref (ad 21), .ref (ad 22), .ref (ad 23), .ref (ad 24), .ref (ad 25), .ref (ad 26), .ref (ad 27), .ref (ad 28), .ref (ad 29), .ref (ad 30), .ref (ad 31), .ref (ad 32), .ref (ad 33), .ref (ad 34), .int (0 : Int32), .int (0 : Int32), .int (0 : Int32), .ref (G.2.2 (100 + 10)), .ref (ad 35), .ref (ad 36), .ref (ad 37), .int (0 : Int32), .ref (ad 38), .ref (ad 39), .ref (ad 40), .ref (ad 41), .ref (ad 42), .ref (ad 43), .ref (ad 44), .ref (ad 45), .ref (ad 46), .ref (ad 47), .ref (ad 48), .ref (ad 49), .ref (ad 50), .ref (ad 51), .ref (ad 52), .ref (ad 53), .ref (ad 54), .ref (ad 55), .ref (ad 56), .ref (ad 57), .ref (ad 58), .ref (ad 59), .int (0 : Int32), .ref (ad 60), .int (0 : Int32), .ref (ad 61), .ref (ad 62), .int (0 : Int32), .ref (ad 63), .ref (ad 64), .ref (ad 65), .ref (ad 66), .ref (ad 67), .ref (ad 68), .int (0 : Int32), .ref (ad 69), .ref (ad 70), .ref (ad 71), .ref (ad 72), .ref (ad 73), .int (0 : Int32), .int (0 : Int32), .int (0 : Int32), .ref (ad 74), .ref (ad 75), .ref (ad 76), .ref (ad 77), .ref (ad 78), .ref (ad 79)])) (hw_31 : w 31 = .inl (G.2.1 0, 6, .inl (upd (upd (upd (upd (upd (upd (fun _ => 0) 0 (0 : Int32)) 1 (0 : Int32)) 2 (0 : Int32)) 3 (0 : Int32)) 4 (0 : Int32)) 5 (0 : Int32)))) : Met l yX12_clear (tw_ws yX12_clear cX12_clear 3 (some .int)) ({ frames := 0, cells := 0, slots := 0, locals := 0 }) (tw_Pre G 80 ad w sz [.ref (ad 0)]) (tw_Qi G 80 ad (fun r w1 => ((0 : Int32) = r ∧ True)) sz) 0 0 (tw_A 80 ad sz) := by
  refine tw_met (by decide) (Nat.le_of_ble_eq_true rfl) ?_
  intro p e s m args below meth c F hret hlk hin hargs hsz hH ls hl
  have hx := F.1.1
  have hb := F.1.2.1
  have hown := F.1.2.2.2.1
  have hts := F.1.2.2.2.2
  have hl : lv_has ls 3 [(0, .ref (ad 0))] := hl
  generalize hH0 : s.heap = H at hH ⊢
  refine lv_aload_n hx hb dX12_clear_0 rfl (lv_at hl 0 rfl) ?_
  refine lv_iconst (v := 0) hx hb dX12_clear_1 (by decide) ?_
  refine tw_put (r := 0) F hH kf_RX12_3 kp_X12_0 rfl (by decide) hw_0 (Nat.le_of_ble_eq_true rfl) rfl rfl dX12_clear_2 (fun H locs w1 hw2 hne3 hH => ?_)
  have hw2 : w1 0 = .inr (12, [.int (0 : Int32), .int (2 : Int32), .int (1 : Int32), .ref (ad 1), .ref (ad 2), .ref (ad 3), .ref (ad 4), .ref (ad 5), .int (0 : Int32), .ref (ad 6), .ref (ad 7), .ref (ad 8), .int (0 : Int32), .ref (ad 9), .ref (ad 10), .ref (ad 11), .ref (ad 12), .int (0 : Int32), .ref (ad 13), .ref (ad 14), .ref (ad 15), .ref (ad 16), .ref (ad 17), .ref (ad 18), .ref (ad 19), .ref (ad 20), .ref (ad 21), .ref (ad 22), .ref (ad 23), .ref (ad 24), .ref (ad 25), .ref (ad 26), .ref (ad 27), .ref (ad 28), .ref (ad 29), .ref (ad 30), .ref (ad 31), .ref (ad 32), .ref (ad 33), .ref (ad 34), .int (0 : Int32), .int (0 : Int32), .int (0 : Int32), .ref (G.2.2 (100 + 10)), .ref (ad 35), .ref (ad 36), .ref (ad 37), .int (0 : Int32), .ref (ad 38), .ref (ad 39), .ref (ad 40), .ref (ad 41), .ref (ad 42), .ref (ad 43), .ref (ad 44), .ref (ad 45), .ref (ad 46), .ref (ad 47), .ref (ad 48), .ref (ad 49), .ref (ad 50), .ref (ad 51), .ref (ad 52), .ref (ad 53), .ref (ad 54), .ref (ad 55), .ref (ad 56), .ref (ad 57), .ref (ad 58), .ref (ad 59), .int (0 : Int32), .ref (ad 60), .int (0 : Int32), .ref (ad 61), .ref (ad 62), .int (0 : Int32), .ref (ad 63), .ref (ad 64), .ref (ad 65), .ref (ad 66), .ref (ad 67), .ref (ad 68), .int (0 : Int32), .ref (ad 69), .ref (ad 70), .ref (ad 71), .ref (ad 72), .ref (ad 73), .int (0 : Int32), .int (0 : Int32), .int (0 : Int32), .ref (ad 74), .ref (ad 75), .ref (ad 76), .ref (ad 77), .ref (ad 78), .ref (ad 79)]) := hw2
  refine lv_iconst (v := 0) hx hb dX12_clear_5 (by decide) ?_
  refine lv_istore_n (lv' := [(1, .int (0 : Int32)), (0, .ref (ad 0))]) hx hb dX12_clear_6 rfl hl (by decide) rfl (fun ls hl => ?_)
  refine lv_iconst (v := 0) hx hb dX12_clear_7 (by decide) ?_
  refine lv_istore_n (lv' := [(2, .int (0 : Int32)), (1, .int (0 : Int32)), (0, .ref (ad 0))]) hx hb dX12_clear_8 rfl hl (by decide) rfl (fun ls hl => ?_)
  refine lv_iload_n hx hb dX12_clear_9 rfl (lv_at hl 0 rfl) ?_
  refine lv_bipush (v := 6) hx hb dX12_clear_10 (by decide) ?_
  refine lv_icmp_ge (tgt := 49) hx hb dX12_clear_12 (by decide) (fun c => absurd c (by decide)) (fun _ => ?_)
  refine lv_iload_n hx hb dX12_clear_15 rfl (lv_at hl 1 rfl) ?_
  refine lv_iload_n hx hb dX12_clear_16 rfl (lv_at hl 0 rfl) ?_
  refine lv_aload_n hx hb dX12_clear_17 rfl (lv_at hl 2 rfl) ?_
  refine tw_get (r := 0) F hH kf_RX12_30 rfl (by decide) hw2 rfl dX12_clear_18 ?_
  refine lv_icmp_ge (tgt := 33) hx hb dX12_clear_21 (by decide) (fun _ => ?_) (fun c => absurd c (by decide))
  refine lv_iconst (v := 0) hx hb dX12_clear_33 (by decide) ?_
  refine lv_iadd hx hb dX12_clear_34 ?_
  refine tw_cv (v := (0 : Int32)) (by decide) ?_
  refine lv_istore_n (lv' := [(1, .int (0 : Int32)), (2, .int (0 : Int32)), (0, .ref (ad 0))]) hx hb dX12_clear_35 rfl hl (by decide) rfl (fun ls hl => ?_)
  refine lv_aload_n hx hb dX12_clear_36 rfl (lv_at hl 2 rfl) ?_
  refine tw_get (r := 0) F hH kf_RX12_39 rfl (by decide) hw2 rfl dX12_clear_37 ?_
  refine lv_iload_n hx hb dX12_clear_40 rfl (lv_at hl 1 rfl) ?_
  refine lv_iconst (v := 0) hx hb dX12_clear_41 (by decide) ?_
  have hw6 : w1 31 = .inl (G.2.1 0, 6, .inl (upd (upd (upd (upd (upd (upd (fun _ => 0) 0 (0 : Int32)) 1 (0 : Int32)) 2 (0 : Int32)) 3 (0 : Int32)) 4 (0 : Int32)) 5 (0 : Int32))) := (hne3 31 (by decide)).trans (hw_31)
  refine tw_iast (r := 31) (j := 0) F hH rfl (by decide) hw6 (by decide) (by decide) dX12_clear_42 (fun H locs w7 hw8 hne9 hH => ?_)
  refine lv_iinc (v := (1 : Int32)) (lv' := [(2, .int (1 : Int32)), (1, .int (0 : Int32)), (0, .ref (ad 0))]) hx hb dX12_clear_43 hl (k := 1) rfl (by decide) (by decide) rfl (fun ls hl => ?_)
  refine lv_goto (tgt := 9) hx hb dX12_clear_46 (by decide) ?_
  refine lv_iload_n hx hb dX12_clear_9 rfl (lv_at hl 0 rfl) ?_
  refine lv_bipush (v := 6) hx hb dX12_clear_10 (by decide) ?_
  refine lv_icmp_ge (tgt := 49) hx hb dX12_clear_12 (by decide) (fun c => absurd c (by decide)) (fun _ => ?_)
  refine lv_iload_n hx hb dX12_clear_15 rfl (lv_at hl 1 rfl) ?_
  refine lv_iload_n hx hb dX12_clear_16 rfl (lv_at hl 0 rfl) ?_
  refine lv_aload_n hx hb dX12_clear_17 rfl (lv_at hl 2 rfl) ?_
  have hw11 : w7 0 = .inr (12, [.int (0 : Int32), .int (2 : Int32), .int (1 : Int32), .ref (ad 1), .ref (ad 2), .ref (ad 3), .ref (ad 4), .ref (ad 5), .int (0 : Int32), .ref (ad 6), .ref (ad 7), .ref (ad 8), .int (0 : Int32), .ref (ad 9), .ref (ad 10), .ref (ad 11), .ref (ad 12), .int (0 : Int32), .ref (ad 13), .ref (ad 14), .ref (ad 15), .ref (ad 16), .ref (ad 17), .ref (ad 18), .ref (ad 19), .ref (ad 20), .ref (ad 21), .ref (ad 22), .ref (ad 23), .ref (ad 24), .ref (ad 25), .ref (ad 26), .ref (ad 27), .ref (ad 28), .ref (ad 29), .ref (ad 30), .ref (ad 31), .ref (ad 32), .ref (ad 33), .ref (ad 34), .int (0 : Int32), .int (0 : Int32), .int (0 : Int32), .ref (G.2.2 (100 + 10)), .ref (ad 35), .ref (ad 36), .ref (ad 37), .int (0 : Int32), .ref (ad 38), .ref (ad 39), .ref (ad 40), .ref (ad 41), .ref (ad 42), .ref (ad 43), .ref (ad 44), .ref (ad 45), .ref (ad 46), .ref (ad 47), .ref (ad 48), .ref (ad 49), .ref (ad 50), .ref (ad 51), .ref (ad 52), .ref (ad 53), .ref (ad 54), .ref (ad 55), .ref (ad 56), .ref (ad 57), .ref (ad 58), .ref (ad 59), .int (0 : Int32), .ref (ad 60), .int (0 : Int32), .ref (ad 61), .ref (ad 62), .int (0 : Int32), .ref (ad 63), .ref (ad 64), .ref (ad 65), .ref (ad 66), .ref (ad 67), .ref (ad 68), .int (0 : Int32), .ref (ad 69), .ref (ad 70), .ref (ad 71), .ref (ad 72), .ref (ad 73), .int (0 : Int32), .int (0 : Int32), .int (0 : Int32), .ref (ad 74), .ref (ad 75), .ref (ad 76), .ref (ad 77), .ref (ad 78), .ref (ad 79)]) := (hne9 0 (by decide)).trans (hw2)
  refine tw_get (r := 0) F hH kf_RX12_30 rfl (by decide) hw11 rfl dX12_clear_18 ?_
  refine lv_icmp_ge (tgt := 33) hx hb dX12_clear_21 (by decide) (fun _ => ?_) (fun c => absurd c (by decide))
  refine lv_iconst (v := 0) hx hb dX12_clear_33 (by decide) ?_
  refine lv_iadd hx hb dX12_clear_34 ?_
  refine tw_cv (v := (0 : Int32)) (by decide) ?_
  refine lv_istore_n (lv' := [(1, .int (0 : Int32)), (2, .int (1 : Int32)), (0, .ref (ad 0))]) hx hb dX12_clear_35 rfl hl (by decide) rfl (fun ls hl => ?_)
  refine lv_aload_n hx hb dX12_clear_36 rfl (lv_at hl 2 rfl) ?_
  refine tw_get (r := 0) F hH kf_RX12_39 rfl (by decide) hw11 rfl dX12_clear_37 ?_
  refine lv_iload_n hx hb dX12_clear_40 rfl (lv_at hl 1 rfl) ?_
  refine lv_iconst (v := 0) hx hb dX12_clear_41 (by decide) ?_
  refine tw_iast (r := 31) (j := 1) F hH rfl (by decide) hw8 (by decide) (by decide) dX12_clear_42 (fun H locs w13 hw14 hne15 hH => ?_)
  refine lv_iinc (v := (2 : Int32)) (lv' := [(2, .int (2 : Int32)), (1, .int (0 : Int32)), (0, .ref (ad 0))]) hx hb dX12_clear_43 hl (k := 1) rfl (by decide) (by decide) rfl (fun ls hl => ?_)
  refine lv_goto (tgt := 9) hx hb dX12_clear_46 (by decide) ?_
  refine lv_iload_n hx hb dX12_clear_9 rfl (lv_at hl 0 rfl) ?_
  refine lv_bipush (v := 6) hx hb dX12_clear_10 (by decide) ?_
  refine lv_icmp_ge (tgt := 49) hx hb dX12_clear_12 (by decide) (fun c => absurd c (by decide)) (fun _ => ?_)
  refine lv_iload_n hx hb dX12_clear_15 rfl (lv_at hl 1 rfl) ?_
  refine lv_iload_n hx hb dX12_clear_16 rfl (lv_at hl 0 rfl) ?_
  refine lv_aload_n hx hb dX12_clear_17 rfl (lv_at hl 2 rfl) ?_
  have hw17 : w13 0 = .inr (12, [.int (0 : Int32), .int (2 : Int32), .int (1 : Int32), .ref (ad 1), .ref (ad 2), .ref (ad 3), .ref (ad 4), .ref (ad 5), .int (0 : Int32), .ref (ad 6), .ref (ad 7), .ref (ad 8), .int (0 : Int32), .ref (ad 9), .ref (ad 10), .ref (ad 11), .ref (ad 12), .int (0 : Int32), .ref (ad 13), .ref (ad 14), .ref (ad 15), .ref (ad 16), .ref (ad 17), .ref (ad 18), .ref (ad 19), .ref (ad 20), .ref (ad 21), .ref (ad 22), .ref (ad 23), .ref (ad 24), .ref (ad 25), .ref (ad 26), .ref (ad 27), .ref (ad 28), .ref (ad 29), .ref (ad 30), .ref (ad 31), .ref (ad 32), .ref (ad 33), .ref (ad 34), .int (0 : Int32), .int (0 : Int32), .int (0 : Int32), .ref (G.2.2 (100 + 10)), .ref (ad 35), .ref (ad 36), .ref (ad 37), .int (0 : Int32), .ref (ad 38), .ref (ad 39), .ref (ad 40), .ref (ad 41), .ref (ad 42), .ref (ad 43), .ref (ad 44), .ref (ad 45), .ref (ad 46), .ref (ad 47), .ref (ad 48), .ref (ad 49), .ref (ad 50), .ref (ad 51), .ref (ad 52), .ref (ad 53), .ref (ad 54), .ref (ad 55), .ref (ad 56), .ref (ad 57), .ref (ad 58), .ref (ad 59), .int (0 : Int32), .ref (ad 60), .int (0 : Int32), .ref (ad 61), .ref (ad 62), .int (0 : Int32), .ref (ad 63), .ref (ad 64), .ref (ad 65), .ref (ad 66), .ref (ad 67), .ref (ad 68), .int (0 : Int32), .ref (ad 69), .ref (ad 70), .ref (ad 71), .ref (ad 72), .ref (ad 73), .int (0 : Int32), .int (0 : Int32), .int (0 : Int32), .ref (ad 74), .ref (ad 75), .ref (ad 76), .ref (ad 77), .ref (ad 78), .ref (ad 79)]) := (hne15 0 (by decide)).trans (hw11)
  refine tw_get (r := 0) F hH kf_RX12_30 rfl (by decide) hw17 rfl dX12_clear_18 ?_
  refine lv_icmp_ge (tgt := 33) hx hb dX12_clear_21 (by decide) (fun _ => ?_) (fun c => absurd c (by decide))
  refine lv_iconst (v := 0) hx hb dX12_clear_33 (by decide) ?_
  refine lv_iadd hx hb dX12_clear_34 ?_
  refine tw_cv (v := (0 : Int32)) (by decide) ?_
  refine lv_istore_n (lv' := [(1, .int (0 : Int32)), (2, .int (2 : Int32)), (0, .ref (ad 0))]) hx hb dX12_clear_35 rfl hl (by decide) rfl (fun ls hl => ?_)
  refine lv_aload_n hx hb dX12_clear_36 rfl (lv_at hl 2 rfl) ?_
  refine tw_get (r := 0) F hH kf_RX12_39 rfl (by decide) hw17 rfl dX12_clear_37 ?_
  refine lv_iload_n hx hb dX12_clear_40 rfl (lv_at hl 1 rfl) ?_
  refine lv_iconst (v := 0) hx hb dX12_clear_41 (by decide) ?_
  refine tw_iast (r := 31) (j := 2) F hH rfl (by decide) hw14 (by decide) (by decide) dX12_clear_42 (fun H locs w19 hw20 hne21 hH => ?_)
  refine lv_iinc (v := (3 : Int32)) (lv' := [(2, .int (3 : Int32)), (1, .int (0 : Int32)), (0, .ref (ad 0))]) hx hb dX12_clear_43 hl (k := 1) rfl (by decide) (by decide) rfl (fun ls hl => ?_)
  refine lv_goto (tgt := 9) hx hb dX12_clear_46 (by decide) ?_
  refine lv_iload_n hx hb dX12_clear_9 rfl (lv_at hl 0 rfl) ?_
  refine lv_bipush (v := 6) hx hb dX12_clear_10 (by decide) ?_
  refine lv_icmp_ge (tgt := 49) hx hb dX12_clear_12 (by decide) (fun c => absurd c (by decide)) (fun _ => ?_)
  refine lv_iload_n hx hb dX12_clear_15 rfl (lv_at hl 1 rfl) ?_
  refine lv_iload_n hx hb dX12_clear_16 rfl (lv_at hl 0 rfl) ?_
  refine lv_aload_n hx hb dX12_clear_17 rfl (lv_at hl 2 rfl) ?_
  have hw23 : w19 0 = .inr (12, [.int (0 : Int32), .int (2 : Int32), .int (1 : Int32), .ref (ad 1), .ref (ad 2), .ref (ad 3), .ref (ad 4), .ref (ad 5), .int (0 : Int32), .ref (ad 6), .ref (ad 7), .ref (ad 8), .int (0 : Int32), .ref (ad 9), .ref (ad 10), .ref (ad 11), .ref (ad 12), .int (0 : Int32), .ref (ad 13), .ref (ad 14), .ref (ad 15), .ref (ad 16), .ref (ad 17), .ref (ad 18), .ref (ad 19), .ref (ad 20), .ref (ad 21), .ref (ad 22), .ref (ad 23), .ref (ad 24), .ref (ad 25), .ref (ad 26), .ref (ad 27), .ref (ad 28), .ref (ad 29), .ref (ad 30), .ref (ad 31), .ref (ad 32), .ref (ad 33), .ref (ad 34), .int (0 : Int32), .int (0 : Int32), .int (0 : Int32), .ref (G.2.2 (100 + 10)), .ref (ad 35), .ref (ad 36), .ref (ad 37), .int (0 : Int32), .ref (ad 38), .ref (ad 39), .ref (ad 40), .ref (ad 41), .ref (ad 42), .ref (ad 43), .ref (ad 44), .ref (ad 45), .ref (ad 46), .ref (ad 47), .ref (ad 48), .ref (ad 49), .ref (ad 50), .ref (ad 51), .ref (ad 52), .ref (ad 53), .ref (ad 54), .ref (ad 55), .ref (ad 56), .ref (ad 57), .ref (ad 58), .ref (ad 59), .int (0 : Int32), .ref (ad 60), .int (0 : Int32), .ref (ad 61), .ref (ad 62), .int (0 : Int32), .ref (ad 63), .ref (ad 64), .ref (ad 65), .ref (ad 66), .ref (ad 67), .ref (ad 68), .int (0 : Int32), .ref (ad 69), .ref (ad 70), .ref (ad 71), .ref (ad 72), .ref (ad 73), .int (0 : Int32), .int (0 : Int32), .int (0 : Int32), .ref (ad 74), .ref (ad 75), .ref (ad 76), .ref (ad 77), .ref (ad 78), .ref (ad 79)]) := (hne21 0 (by decide)).trans (hw17)
  refine tw_get (r := 0) F hH kf_RX12_30 rfl (by decide) hw23 rfl dX12_clear_18 ?_
  refine lv_icmp_ge (tgt := 33) hx hb dX12_clear_21 (by decide) (fun _ => ?_) (fun c => absurd c (by decide))
  refine lv_iconst (v := 0) hx hb dX12_clear_33 (by decide) ?_
  refine lv_iadd hx hb dX12_clear_34 ?_
  refine tw_cv (v := (0 : Int32)) (by decide) ?_
  refine lv_istore_n (lv' := [(1, .int (0 : Int32)), (2, .int (3 : Int32)), (0, .ref (ad 0))]) hx hb dX12_clear_35 rfl hl (by decide) rfl (fun ls hl => ?_)
  refine lv_aload_n hx hb dX12_clear_36 rfl (lv_at hl 2 rfl) ?_
  refine tw_get (r := 0) F hH kf_RX12_39 rfl (by decide) hw23 rfl dX12_clear_37 ?_
  refine lv_iload_n hx hb dX12_clear_40 rfl (lv_at hl 1 rfl) ?_
  refine lv_iconst (v := 0) hx hb dX12_clear_41 (by decide) ?_
  refine tw_iast (r := 31) (j := 3) F hH rfl (by decide) hw20 (by decide) (by decide) dX12_clear_42 (fun H locs w25 hw26 hne27 hH => ?_)
  refine lv_iinc (v := (4 : Int32)) (lv' := [(2, .int (4 : Int32)), (1, .int (0 : Int32)), (0, .ref (ad 0))]) hx hb dX12_clear_43 hl (k := 1) rfl (by decide) (by decide) rfl (fun ls hl => ?_)
  refine lv_goto (tgt := 9) hx hb dX12_clear_46 (by decide) ?_
  refine lv_iload_n hx hb dX12_clear_9 rfl (lv_at hl 0 rfl) ?_
  refine lv_bipush (v := 6) hx hb dX12_clear_10 (by decide) ?_
  refine lv_icmp_ge (tgt := 49) hx hb dX12_clear_12 (by decide) (fun c => absurd c (by decide)) (fun _ => ?_)
  refine lv_iload_n hx hb dX12_clear_15 rfl (lv_at hl 1 rfl) ?_
  refine lv_iload_n hx hb dX12_clear_16 rfl (lv_at hl 0 rfl) ?_
  refine lv_aload_n hx hb dX12_clear_17 rfl (lv_at hl 2 rfl) ?_
  have hw29 : w25 0 = .inr (12, [.int (0 : Int32), .int (2 : Int32), .int (1 : Int32), .ref (ad 1), .ref (ad 2), .ref (ad 3), .ref (ad 4), .ref (ad 5), .int (0 : Int32), .ref (ad 6), .ref (ad 7), .ref (ad 8), .int (0 : Int32), .ref (ad 9), .ref (ad 10), .ref (ad 11), .ref (ad 12), .int (0 : Int32), .ref (ad 13), .ref (ad 14), .ref (ad 15), .ref (ad 16), .ref (ad 17), .ref (ad 18), .ref (ad 19), .ref (ad 20), .ref (ad 21), .ref (ad 22), .ref (ad 23), .ref (ad 24), .ref (ad 25), .ref (ad 26), .ref (ad 27), .ref (ad 28), .ref (ad 29), .ref (ad 30), .ref (ad 31), .ref (ad 32), .ref (ad 33), .ref (ad 34), .int (0 : Int32), .int (0 : Int32), .int (0 : Int32), .ref (G.2.2 (100 + 10)), .ref (ad 35), .ref (ad 36), .ref (ad 37), .int (0 : Int32), .ref (ad 38), .ref (ad 39), .ref (ad 40), .ref (ad 41), .ref (ad 42), .ref (ad 43), .ref (ad 44), .ref (ad 45), .ref (ad 46), .ref (ad 47), .ref (ad 48), .ref (ad 49), .ref (ad 50), .ref (ad 51), .ref (ad 52), .ref (ad 53), .ref (ad 54), .ref (ad 55), .ref (ad 56), .ref (ad 57), .ref (ad 58), .ref (ad 59), .int (0 : Int32), .ref (ad 60), .int (0 : Int32), .ref (ad 61), .ref (ad 62), .int (0 : Int32), .ref (ad 63), .ref (ad 64), .ref (ad 65), .ref (ad 66), .ref (ad 67), .ref (ad 68), .int (0 : Int32), .ref (ad 69), .ref (ad 70), .ref (ad 71), .ref (ad 72), .ref (ad 73), .int (0 : Int32), .int (0 : Int32), .int (0 : Int32), .ref (ad 74), .ref (ad 75), .ref (ad 76), .ref (ad 77), .ref (ad 78), .ref (ad 79)]) := (hne27 0 (by decide)).trans (hw23)
  refine tw_get (r := 0) F hH kf_RX12_30 rfl (by decide) hw29 rfl dX12_clear_18 ?_
  refine lv_icmp_ge (tgt := 33) hx hb dX12_clear_21 (by decide) (fun _ => ?_) (fun c => absurd c (by decide))
  refine lv_iconst (v := 0) hx hb dX12_clear_33 (by decide) ?_
  refine lv_iadd hx hb dX12_clear_34 ?_
  refine tw_cv (v := (0 : Int32)) (by decide) ?_
  refine lv_istore_n (lv' := [(1, .int (0 : Int32)), (2, .int (4 : Int32)), (0, .ref (ad 0))]) hx hb dX12_clear_35 rfl hl (by decide) rfl (fun ls hl => ?_)
  refine lv_aload_n hx hb dX12_clear_36 rfl (lv_at hl 2 rfl) ?_
  refine tw_get (r := 0) F hH kf_RX12_39 rfl (by decide) hw29 rfl dX12_clear_37 ?_
  refine lv_iload_n hx hb dX12_clear_40 rfl (lv_at hl 1 rfl) ?_
  refine lv_iconst (v := 0) hx hb dX12_clear_41 (by decide) ?_
  refine tw_iast (r := 31) (j := 4) F hH rfl (by decide) hw26 (by decide) (by decide) dX12_clear_42 (fun H locs w31 hw32 hne33 hH => ?_)
  refine lv_iinc (v := (5 : Int32)) (lv' := [(2, .int (5 : Int32)), (1, .int (0 : Int32)), (0, .ref (ad 0))]) hx hb dX12_clear_43 hl (k := 1) rfl (by decide) (by decide) rfl (fun ls hl => ?_)
  refine lv_goto (tgt := 9) hx hb dX12_clear_46 (by decide) ?_
  refine lv_iload_n hx hb dX12_clear_9 rfl (lv_at hl 0 rfl) ?_
  refine lv_bipush (v := 6) hx hb dX12_clear_10 (by decide) ?_
  refine lv_icmp_ge (tgt := 49) hx hb dX12_clear_12 (by decide) (fun c => absurd c (by decide)) (fun _ => ?_)
  refine lv_iload_n hx hb dX12_clear_15 rfl (lv_at hl 1 rfl) ?_
  refine lv_iload_n hx hb dX12_clear_16 rfl (lv_at hl 0 rfl) ?_
  refine lv_aload_n hx hb dX12_clear_17 rfl (lv_at hl 2 rfl) ?_
  have hw35 : w31 0 = .inr (12, [.int (0 : Int32), .int (2 : Int32), .int (1 : Int32), .ref (ad 1), .ref (ad 2), .ref (ad 3), .ref (ad 4), .ref (ad 5), .int (0 : Int32), .ref (ad 6), .ref (ad 7), .ref (ad 8), .int (0 : Int32), .ref (ad 9), .ref (ad 10), .ref (ad 11), .ref (ad 12), .int (0 : Int32), .ref (ad 13), .ref (ad 14), .ref (ad 15), .ref (ad 16), .ref (ad 17), .ref (ad 18), .ref (ad 19), .ref (ad 20), .ref (ad 21), .ref (ad 22), .ref (ad 23), .ref (ad 24), .ref (ad 25), .ref (ad 26), .ref (ad 27), .ref (ad 28), .ref (ad 29), .ref (ad 30), .ref (ad 31), .ref (ad 32), .ref (ad 33), .ref (ad 34), .int (0 : Int32), .int (0 : Int32), .int (0 : Int32), .ref (G.2.2 (100 + 10)), .ref (ad 35), .ref (ad 36), .ref (ad 37), .int (0 : Int32), .ref (ad 38), .ref (ad 39), .ref (ad 40), .ref (ad 41), .ref (ad 42), .ref (ad 43), .ref (ad 44), .ref (ad 45), .ref (ad 46), .ref (ad 47), .ref (ad 48), .ref (ad 49), .ref (ad 50), .ref (ad 51), .ref (ad 52), .ref (ad 53), .ref (ad 54), .ref (ad 55), .ref (ad 56), .ref (ad 57), .ref (ad 58), .ref (ad 59), .int (0 : Int32), .ref (ad 60), .int (0 : Int32), .ref (ad 61), .ref (ad 62), .int (0 : Int32), .ref (ad 63), .ref (ad 64), .ref (ad 65), .ref (ad 66), .ref (ad 67), .ref (ad 68), .int (0 : Int32), .ref (ad 69), .ref (ad 70), .ref (ad 71), .ref (ad 72), .ref (ad 73), .int (0 : Int32), .int (0 : Int32), .int (0 : Int32), .ref (ad 74), .ref (ad 75), .ref (ad 76), .ref (ad 77), .ref (ad 78), .ref (ad 79)]) := (hne33 0 (by decide)).trans (hw29)
  refine tw_get (r := 0) F hH kf_RX12_30 rfl (by decide) hw35 rfl dX12_clear_18 ?_
  refine lv_icmp_ge (tgt := 33) hx hb dX12_clear_21 (by decide) (fun _ => ?_) (fun c => absurd c (by decide))
  refine lv_iconst (v := 0) hx hb dX12_clear_33 (by decide) ?_
  refine lv_iadd hx hb dX12_clear_34 ?_
  refine tw_cv (v := (0 : Int32)) (by decide) ?_
  refine lv_istore_n (lv' := [(1, .int (0 : Int32)), (2, .int (5 : Int32)), (0, .ref (ad 0))]) hx hb dX12_clear_35 rfl hl (by decide) rfl (fun ls hl => ?_)
  refine lv_aload_n hx hb dX12_clear_36 rfl (lv_at hl 2 rfl) ?_
  refine tw_get (r := 0) F hH kf_RX12_39 rfl (by decide) hw35 rfl dX12_clear_37 ?_
  refine lv_iload_n hx hb dX12_clear_40 rfl (lv_at hl 1 rfl) ?_
  refine lv_iconst (v := 0) hx hb dX12_clear_41 (by decide) ?_
  refine tw_iast (r := 31) (j := 5) F hH rfl (by decide) hw32 (by decide) (by decide) dX12_clear_42 (fun H locs w37 hw38 hne39 hH => ?_)
  refine lv_iinc (v := (6 : Int32)) (lv' := [(2, .int (6 : Int32)), (1, .int (0 : Int32)), (0, .ref (ad 0))]) hx hb dX12_clear_43 hl (k := 1) rfl (by decide) (by decide) rfl (fun ls hl => ?_)
  refine lv_goto (tgt := 9) hx hb dX12_clear_46 (by decide) ?_
  refine lv_iload_n hx hb dX12_clear_9 rfl (lv_at hl 0 rfl) ?_
  refine lv_bipush (v := 6) hx hb dX12_clear_10 (by decide) ?_
  refine lv_icmp_ge (tgt := 49) hx hb dX12_clear_12 (by decide) (fun _ => ?_) (fun c => absurd c (by decide))
  refine lv_iload_n hx hb dX12_clear_49 rfl (lv_at hl 1 rfl) ?_
  exact tw_iret F hH hret hlk rfl (Nat.le_of_ble_eq_true rfl) (Nat.le_of_ble_eq_true rfl) dX12_clear_50 (⟨rfl, trivial⟩)
set_option maxHeartbeats 4000000 in
set_option maxRecDepth 100000 in
theorem c_X12_settle (l : Launch) (G : tw_G) (ad : Nat → Nat) (w : Nat → va_E) (sz : Nat) (x1 : Int32) (z1 : Int) (e1 : x1.toInt = z1) (x2 : Int32) (z2 : Int) (e2 : x2.toInt = z2) (x3 : Int32) (z3 : Int) (e3 : x3.toInt = z3) (hw_0 : w 0 = .inr (12, [.int (0 : Int32), .int (2 : Int32), .int (1 : Int32), .ref (ad 1), .ref (ad 2), .ref (ad 3), .ref (ad 4), .ref (ad 5), .int (0 : Int32), .ref (ad 6), .ref (ad 7), .ref (ad 8), .int (0 : Int32), .ref (ad 9), .ref (ad 10), .ref (ad 11), .ref (ad 12), .int (0 : Int32), .ref (ad 13), .ref (ad 14), .ref (ad 15), .ref (ad 16), .ref (ad 17), .ref (ad 18), .ref (ad 19), .ref (ad 20), .ref (ad 21), .ref (ad 22), .ref (ad 23), .ref (ad 24), .ref (ad 25), .ref (ad 26), .ref (ad 27), .ref (ad 28), .ref (ad 29), .ref (ad 30), .ref (ad 31), .ref (ad 32), .ref (ad 33), .ref (ad 34), .int (0 : Int32), .int (0 : Int32), .int (0 : Int32), .ref (G.2.2 (100 + 10)), .ref (ad 35), .ref (ad 36), .ref (ad 37), .int (0 : Int32), .ref (ad 38), .ref (ad 39), .ref (ad 40), .ref (ad 41), .ref (ad 42), .ref (ad 43), .ref (ad 44), .ref (ad 45), .ref (ad 46), .ref (ad 47), .ref (ad 48), .ref (ad 49), .ref (ad 50), .ref (ad 51), .ref (ad 52), .ref (ad 53), .ref (ad 54), .ref (ad 55), .ref (ad 56), .ref (ad 57), .ref (ad 58), .ref (ad 59), .int (0 : Int32), .ref (ad 60), .int (0 : Int32), .ref (ad 61), .ref (ad 62), .int (0 : Int32), .ref (ad 63), .ref (ad 64), .ref (ad 65), .ref (ad 66), .ref (ad 67), .ref (ad 68), .int (0 : Int32), .ref (ad 69), .ref (ad 70), .ref (ad 71), .ref (ad 72), .ref (ad 73), .int (0 : Int32), .int (0 : Int32), .int (0 : Int32), .ref (ad 74), .ref (ad 75), .ref (ad 76), .ref (ad 77), .ref (ad 78), .ref (ad 79)])) : Met l yX12_settle (tw_ws yX12_settle cX12_settle 6 (some .int)) ({ frames := 2, cells := 0, slots := 0, locals := 46 }) (tw_Pre G 80 ad w sz [.ref (ad 0), .int x1, .int x2, .int x3]) (tw_Qi G 80 ad (fun r w1 => ((-1 : Int32) = r ∧ ((((z1 < 0)) ∨ ((¬ (z1 < 0)) ∧ ((-1) < z1)))))) sz) 0 0 (tw_A 80 ad sz) := by
  refine tw_met (by decide) (Nat.le_of_ble_eq_true rfl) ?_
  intro p e s m args below meth c F hret hlk hin hargs hsz hH ls hl
  have hx := F.1.1
  have hb := F.1.2.1
  have hown := F.1.2.2.2.1
  have hts := F.1.2.2.2.2
  have hl : lv_has ls 6 [(0, .ref (ad 0)), (1, .int x1), (2, .int x2), (3, .int x3)] := hl
  generalize hH0 : s.heap = H at hH ⊢
  refine lv_aload_n hx hb dX12_settle_0 rfl (lv_at hl 0 rfl) ?_
  refine lv_iconst (v := 0) hx hb dX12_settle_1 (by decide) ?_
  refine tw_put (r := 0) F hH kf_RX12_3 kp_X12_0 rfl (by decide) hw_0 (Nat.le_of_ble_eq_true rfl) rfl rfl dX12_settle_2 (fun H locs w1 hw2 hne3 hH => ?_)
  have hw2 : w1 0 = .inr (12, [.int (0 : Int32), .int (2 : Int32), .int (1 : Int32), .ref (ad 1), .ref (ad 2), .ref (ad 3), .ref (ad 4), .ref (ad 5), .int (0 : Int32), .ref (ad 6), .ref (ad 7), .ref (ad 8), .int (0 : Int32), .ref (ad 9), .ref (ad 10), .ref (ad 11), .ref (ad 12), .int (0 : Int32), .ref (ad 13), .ref (ad 14), .ref (ad 15), .ref (ad 16), .ref (ad 17), .ref (ad 18), .ref (ad 19), .ref (ad 20), .ref (ad 21), .ref (ad 22), .ref (ad 23), .ref (ad 24), .ref (ad 25), .ref (ad 26), .ref (ad 27), .ref (ad 28), .ref (ad 29), .ref (ad 30), .ref (ad 31), .ref (ad 32), .ref (ad 33), .ref (ad 34), .int (0 : Int32), .int (0 : Int32), .int (0 : Int32), .ref (G.2.2 (100 + 10)), .ref (ad 35), .ref (ad 36), .ref (ad 37), .int (0 : Int32), .ref (ad 38), .ref (ad 39), .ref (ad 40), .ref (ad 41), .ref (ad 42), .ref (ad 43), .ref (ad 44), .ref (ad 45), .ref (ad 46), .ref (ad 47), .ref (ad 48), .ref (ad 49), .ref (ad 50), .ref (ad 51), .ref (ad 52), .ref (ad 53), .ref (ad 54), .ref (ad 55), .ref (ad 56), .ref (ad 57), .ref (ad 58), .ref (ad 59), .int (0 : Int32), .ref (ad 60), .int (0 : Int32), .ref (ad 61), .ref (ad 62), .int (0 : Int32), .ref (ad 63), .ref (ad 64), .ref (ad 65), .ref (ad 66), .ref (ad 67), .ref (ad 68), .int (0 : Int32), .ref (ad 69), .ref (ad 70), .ref (ad 71), .ref (ad 72), .ref (ad 73), .int (0 : Int32), .int (0 : Int32), .int (0 : Int32), .ref (ad 74), .ref (ad 75), .ref (ad 76), .ref (ad 77), .ref (ad 78), .ref (ad 79)]) := hw2
  refine lv_aload_n hx hb dX12_settle_5 rfl (lv_at hl 0 rfl) ?_
  refine lv_iload_n hx hb dX12_settle_6 rfl (lv_at hl 1 rfl) ?_
  refine tw_calli F hH (tw_runV (r := 0) (As := [.int x1]) (rest := []) F hH (c_X12_isCar l G ad w1 H.size x1 (z1) e1 hw2) (tw_gl kw_1409 rfl) km_X12_isCar kv_X12_isCar rfl rfl ⟨(Nat.le_of_ble_eq_true rfl), (Nat.le_of_ble_eq_true rfl)⟩ (by decide) hw2 rfl rfl hl.1 rfl (Nat.le_of_ble_eq_true rfl) dX12_settle_7 ⟨(Nat.le_of_ble_eq_true rfl), (Nat.le_of_ble_eq_true rfl)⟩) (fun r6 w4 H locs hp5 _ hH => ?_)
  obtain ⟨rfl, hc7, rfl⟩ := hp5
  refine lv_if_eq (tgt := 51) hx hb dX12_settle_10 (by decide) (fun _ => ?_) (fun c => absurd c (by decide))
  refine lv_iconst (v := -1) hx hb dX12_settle_51 (by decide) ?_
  exact tw_iret F hH hret hlk rfl (Nat.le_of_ble_eq_true rfl) (Nat.le_of_ble_eq_true rfl) dX12_settle_52 (⟨rfl, (by omega)⟩)
set_option maxHeartbeats 4000000 in
set_option maxRecDepth 100000 in
theorem c_X12_lost (l : Launch) (G : tw_G) (ad : Nat → Nat) (w : Nat → va_E) (sz : Nat) (x1 : Int32) (z1 : Int) (e1 : x1.toInt = z1) (x2 : Int32) (z2 : Int) (e2 : x2.toInt = z2) (b2 : x2 = 0 ∨ x2 = 1) (hw_0 : w 0 = .inr (12, [.int (0 : Int32), .int (2 : Int32), .int (1 : Int32), .ref (ad 1), .ref (ad 2), .ref (ad 3), .ref (ad 4), .ref (ad 5), .int (0 : Int32), .ref (ad 6), .ref (ad 7), .ref (ad 8), .int (0 : Int32), .ref (ad 9), .ref (ad 10), .ref (ad 11), .ref (ad 12), .int (0 : Int32), .ref (ad 13), .ref (ad 14), .ref (ad 15), .ref (ad 16), .ref (ad 17), .ref (ad 18), .ref (ad 19), .ref (ad 20), .ref (ad 21), .ref (ad 22), .ref (ad 23), .ref (ad 24), .ref (ad 25), .ref (ad 26), .ref (ad 27), .ref (ad 28), .ref (ad 29), .ref (ad 30), .ref (ad 31), .ref (ad 32), .ref (ad 33), .ref (ad 34), .int (0 : Int32), .int (0 : Int32), .int (0 : Int32), .ref (G.2.2 (100 + 10)), .ref (ad 35), .ref (ad 36), .ref (ad 37), .int (0 : Int32), .ref (ad 38), .ref (ad 39), .ref (ad 40), .ref (ad 41), .ref (ad 42), .ref (ad 43), .ref (ad 44), .ref (ad 45), .ref (ad 46), .ref (ad 47), .ref (ad 48), .ref (ad 49), .ref (ad 50), .ref (ad 51), .ref (ad 52), .ref (ad 53), .ref (ad 54), .ref (ad 55), .ref (ad 56), .ref (ad 57), .ref (ad 58), .ref (ad 59), .int (0 : Int32), .ref (ad 60), .int (0 : Int32), .ref (ad 61), .ref (ad 62), .int (0 : Int32), .ref (ad 63), .ref (ad 64), .ref (ad 65), .ref (ad 66), .ref (ad 67), .ref (ad 68), .int (0 : Int32), .ref (ad 69), .ref (ad 70), .ref (ad 71), .ref (ad 72), .ref (ad 73), .int (0 : Int32), .int (0 : Int32), .int (0 : Int32), .ref (ad 74), .ref (ad 75), .ref (ad 76), .ref (ad 77), .ref (ad 78), .ref (ad 79)])) (hw_3 : w 3 = .inl (G.2.1 1, 5, .inl (upd (upd (upd (upd (upd (fun _ => 0) 0 (0 : Int32)) 1 (0 : Int32)) 2 (0 : Int32)) 3 (0 : Int32)) 4 (0 : Int32)))) : Met l yX12_lost (tw_ws yX12_lost cX12_lost 3 (some .boolean)) ({ frames := 1, cells := 0, slots := 0, locals := 25 }) (tw_Pre G 80 ad w sz [.ref (ad 0), .int x1, .int x2]) (tw_Qi G 80 ad (fun r w1 => ((0 : Int32) = r ∧ (((z1 < 0)) ∨ ((¬ (z1 < 0)) ∧ (0 < z1)))) ∨ ((1 : Int32) = r ∧ (((¬ (z1 < 0)) ∧ (¬ (0 < z1))) ∧ (z1 = 0)))) sz) 0 0 (tw_A 80 ad sz) := by
  refine tw_met (by decide) (Nat.le_of_ble_eq_true rfl) ?_
  intro p e s m args below meth c F hret hlk hin hargs hsz hH ls hl
  have hx := F.1.1
  have hb := F.1.2.1
  have hown := F.1.2.2.2.1
  have hts := F.1.2.2.2.2
  have hl : lv_has ls 3 [(0, .ref (ad 0)), (1, .int x1), (2, .int x2)] := hl
  generalize hH0 : s.heap = H at hH ⊢
  refine lv_aload_n hx hb dX12_lost_0 rfl (lv_at hl 0 rfl) ?_
  refine lv_iconst (v := 0) hx hb dX12_lost_1 (by decide) ?_
  refine tw_put (r := 0) F hH kf_RX12_3 kp_X12_0 rfl (by decide) hw_0 (Nat.le_of_ble_eq_true rfl) rfl rfl dX12_lost_2 (fun H locs w1 hw2 hne3 hH => ?_)
  have hw2 : w1 0 = .inr (12, [.int (0 : Int32), .int (2 : Int32), .int (1 : Int32), .ref (ad 1), .ref (ad 2), .ref (ad 3), .ref (ad 4), .ref (ad 5), .int (0 : Int32), .ref (ad 6), .ref (ad 7), .ref (ad 8), .int (0 : Int32), .ref (ad 9), .ref (ad 10), .ref (ad 11), .ref (ad 12), .int (0 : Int32), .ref (ad 13), .ref (ad 14), .ref (ad 15), .ref (ad 16), .ref (ad 17), .ref (ad 18), .ref (ad 19), .ref (ad 20), .ref (ad 21), .ref (ad 22), .ref (ad 23), .ref (ad 24), .ref (ad 25), .ref (ad 26), .ref (ad 27), .ref (ad 28), .ref (ad 29), .ref (ad 30), .ref (ad 31), .ref (ad 32), .ref (ad 33), .ref (ad 34), .int (0 : Int32), .int (0 : Int32), .int (0 : Int32), .ref (G.2.2 (100 + 10)), .ref (ad 35), .ref (ad 36), .ref (ad 37), .int (0 : Int32), .ref (ad 38), .ref (ad 39), .ref (ad 40), .ref (ad 41), .ref (ad 42), .ref (ad 43), .ref (ad 44), .ref (ad 45), .ref (ad 46), .ref (ad 47), .ref (ad 48), .ref (ad 49), .ref (ad 50), .ref (ad 51), .ref (ad 52), .ref (ad 53), .ref (ad 54), .ref (ad 55), .ref (ad 56), .ref (ad 57), .ref (ad 58), .ref (ad 59), .int (0 : Int32), .ref (ad 60), .int (0 : Int32), .ref (ad 61), .ref (ad 62), .int (0 : Int32), .ref (ad 63), .ref (ad 64), .ref (ad 65), .ref (ad 66), .ref (ad 67), .ref (ad 68), .int (0 : Int32), .ref (ad 69), .ref (ad 70), .ref (ad 71), .ref (ad 72), .ref (ad 73), .int (0 : Int32), .int (0 : Int32), .int (0 : Int32), .ref (ad 74), .ref (ad 75), .ref (ad 76), .ref (ad 77), .ref (ad 78), .ref (ad 79)]) := hw2
  refine lv_iload_n hx hb dX12_lost_5 rfl (lv_at hl 1 rfl) ?_
  refine lv_i2l (v := x1.toInt64) hx hb dX12_lost_6 rfl ?_
  refine lv_lconst (v := 0) hx hb dX12_lost_7 rfl ?_
  refine lv_aload_n hx hb dX12_lost_8 rfl (lv_at hl 0 rfl) ?_
  refine tw_get (r := 0) F hH kf_RX12_7 rfl (by decide) hw2 rfl dX12_lost_9 ?_
  refine lv_iconst (v := 2) hx hb dX12_lost_12 (by decide) ?_
  refine lv_isub hx hb dX12_lost_13 ?_
  refine tw_cv (v := (0 : Int32)) (by decide) ?_
  refine lv_i2l (v := (0 : Int32).toInt64) hx hb dX12_lost_14 rfl ?_
  have el3 : ((0 : Int32)).toInt64.toInt = 0 := by decide
  refine tw_calli F hH (tw_runS (As := [.long x1.toInt64, .long (0 : Int64), .long ((0 : Int32).toInt64)]) (rest := []) F hH (c_X12_in l G 80 ad w1 H.size x1.toInt64 (z1) ((tw_wide _).trans e1) (0 : Int64) 0 (by decide : (0 : Int64).toInt = 0) ((0 : Int32).toInt64) 0 el3) (tw_gl kw_1351 rfl) km_X12_in (tw_gl kw_1352 rfl) rfl rfl ⟨(Nat.le_of_ble_eq_true rfl), (Nat.le_of_ble_eq_true rfl)⟩ rfl hl.1 rfl (Nat.le_of_ble_eq_true rfl) dX12_lost_15 ⟨(Nat.le_of_ble_eq_true rfl), (Nat.le_of_ble_eq_true rfl)⟩) (fun r7 w5 H locs hp6 _ hH => ?_)
  rcases hp6 with ⟨rfl, hc8, rfl⟩ | ⟨rfl, hc9, rfl⟩
  · skip
    refine lv_if_ne (tgt := 23) hx hb dX12_lost_18 (by decide) (fun c => absurd c (by decide)) (fun _ => ?_)
    refine lv_iconst (v := 0) hx hb dX12_lost_21 (by decide) ?_
    exact tw_iret F hH hret hlk rfl (Nat.le_of_ble_eq_true rfl) (Nat.le_of_ble_eq_true rfl) dX12_lost_22 (Or.inl (⟨rfl, (by omega)⟩))
  · skip
    refine lv_if_ne (tgt := 23) hx hb dX12_lost_18 (by decide) (fun _ => ?_) (fun c => absurd c (by decide))
    refine lv_aload_n hx hb dX12_lost_23 rfl (lv_at hl 0 rfl) ?_
    refine tw_get (r := 0) F hH kf_RX12_20 rfl (by decide) hw2 rfl dX12_lost_24 ?_
    refine lv_iload_n hx hb dX12_lost_27 rfl (lv_at hl 1 rfl) ?_
    refine lv_iload_n hx hb dX12_lost_28 rfl (lv_at hl 2 rfl) ?_
    have hz12 : z1 = 0 := by omega
    obtain rfl : (0 : Int32) = x1 := (Int32.toInt_inj.mp ((e1.trans hz12).trans (by decide : (0 : Int) = (0 : Int32).toInt))).symm
    have hw13 : w1 3 = .inl (G.2.1 1, 5, .inl (upd (upd (upd (upd (upd (fun _ => 0) 0 (0 : Int32)) 1 (0 : Int32)) 2 (0 : Int32)) 3 (0 : Int32)) 4 (0 : Int32))) := (hne3 3 (by decide)).trans (hw_3)
    refine tw_zast (r := 3) (j := 0) F hH rfl (by decide) hw13 (by decide) (by decide) (by rcases b2 with h | h <;> rw [h] <;> rfl) dX12_lost_29 (fun H locs w14 hw15 hne16 hH => ?_)
    refine lv_iconst (v := 1) hx hb dX12_lost_30 (by decide) ?_
    exact tw_iret F hH hret hlk rfl (Nat.le_of_ble_eq_true rfl) (Nat.le_of_ble_eq_true rfl) dX12_lost_31 (Or.inr (⟨rfl, (by omega)⟩))
set_option maxHeartbeats 4000000 in
set_option maxRecDepth 100000 in
theorem c_X12_known (l : Launch) (G : tw_G) (ad : Nat → Nat) (w : Nat → va_E) (sz : Nat) (x1 : Int32) (z1 : Int) (e1 : x1.toInt = z1) (x2 : Int32) (z2 : Int) (e2 : x2.toInt = z2) (x3 : Int32) (z3 : Int) (e3 : x3.toInt = z3) (x4 : Int32) (z4 : Int) (e4 : x4.toInt = z4) (hw_0 : w 0 = .inr (12, [.int (0 : Int32), .int (2 : Int32), .int (1 : Int32), .ref (ad 1), .ref (ad 2), .ref (ad 3), .ref (ad 4), .ref (ad 5), .int (0 : Int32), .ref (ad 6), .ref (ad 7), .ref (ad 8), .int (0 : Int32), .ref (ad 9), .ref (ad 10), .ref (ad 11), .ref (ad 12), .int (0 : Int32), .ref (ad 13), .ref (ad 14), .ref (ad 15), .ref (ad 16), .ref (ad 17), .ref (ad 18), .ref (ad 19), .ref (ad 20), .ref (ad 21), .ref (ad 22), .ref (ad 23), .ref (ad 24), .ref (ad 25), .ref (ad 26), .ref (ad 27), .ref (ad 28), .ref (ad 29), .ref (ad 30), .ref (ad 31), .ref (ad 32), .ref (ad 33), .ref (ad 34), .int (0 : Int32), .int (0 : Int32), .int (0 : Int32), .ref (G.2.2 (100 + 10)), .ref (ad 35), .ref (ad 36), .ref (ad 37), .int (0 : Int32), .ref (ad 38), .ref (ad 39), .ref (ad 40), .ref (ad 41), .ref (ad 42), .ref (ad 43), .ref (ad 44), .ref (ad 45), .ref (ad 46), .ref (ad 47), .ref (ad 48), .ref (ad 49), .ref (ad 50), .ref (ad 51), .ref (ad 52), .ref (ad 53), .ref (ad 54), .ref (ad 55), .ref (ad 56), .ref (ad 57), .ref (ad 58), .ref (ad 59), .int (0 : Int32), .ref (ad 60), .int (0 : Int32), .ref (ad 61), .ref (ad 62), .int (0 : Int32), .ref (ad 63), .ref (ad 64), .ref (ad 65), .ref (ad 66), .ref (ad 67), .ref (ad 68), .int (0 : Int32), .ref (ad 69), .ref (ad 70), .ref (ad 71), .ref (ad 72), .ref (ad 73), .int (0 : Int32), .int (0 : Int32), .int (0 : Int32), .ref (ad 74), .ref (ad 75), .ref (ad 76), .ref (ad 77), .ref (ad 78), .ref (ad 79)])) : Met l yX12_known (tw_ws yX12_known cX12_known 5 (some .int)) ({ frames := 2, cells := 0, slots := 0, locals := 46 }) (tw_Pre G 80 ad w sz [.ref (ad 0), .int x1, .int x2, .int x3, .int x4]) (tw_Qi G 80 ad (fun r w1 => ((-1 : Int32) = r ∧ ((((z1 < 0)) ∨ ((¬ (z1 < 0)) ∧ ((-1) < z1)))))) sz) 0 0 (tw_A 80 ad sz) := by
  refine tw_met (by decide) (Nat.le_of_ble_eq_true rfl) ?_
  intro p e s m args below meth c F hret hlk hin hargs hsz hH ls hl
  have hx := F.1.1
  have hb := F.1.2.1
  have hown := F.1.2.2.2.1
  have hts := F.1.2.2.2.2
  have hl : lv_has ls 5 [(0, .ref (ad 0)), (1, .int x1), (2, .int x2), (3, .int x3), (4, .int x4)] := hl
  generalize hH0 : s.heap = H at hH ⊢
  refine lv_aload_n hx hb dX12_known_0 rfl (lv_at hl 0 rfl) ?_
  refine lv_iconst (v := 0) hx hb dX12_known_1 (by decide) ?_
  refine tw_put (r := 0) F hH kf_RX12_3 kp_X12_0 rfl (by decide) hw_0 (Nat.le_of_ble_eq_true rfl) rfl rfl dX12_known_2 (fun H locs w1 hw2 hne3 hH => ?_)
  have hw2 : w1 0 = .inr (12, [.int (0 : Int32), .int (2 : Int32), .int (1 : Int32), .ref (ad 1), .ref (ad 2), .ref (ad 3), .ref (ad 4), .ref (ad 5), .int (0 : Int32), .ref (ad 6), .ref (ad 7), .ref (ad 8), .int (0 : Int32), .ref (ad 9), .ref (ad 10), .ref (ad 11), .ref (ad 12), .int (0 : Int32), .ref (ad 13), .ref (ad 14), .ref (ad 15), .ref (ad 16), .ref (ad 17), .ref (ad 18), .ref (ad 19), .ref (ad 20), .ref (ad 21), .ref (ad 22), .ref (ad 23), .ref (ad 24), .ref (ad 25), .ref (ad 26), .ref (ad 27), .ref (ad 28), .ref (ad 29), .ref (ad 30), .ref (ad 31), .ref (ad 32), .ref (ad 33), .ref (ad 34), .int (0 : Int32), .int (0 : Int32), .int (0 : Int32), .ref (G.2.2 (100 + 10)), .ref (ad 35), .ref (ad 36), .ref (ad 37), .int (0 : Int32), .ref (ad 38), .ref (ad 39), .ref (ad 40), .ref (ad 41), .ref (ad 42), .ref (ad 43), .ref (ad 44), .ref (ad 45), .ref (ad 46), .ref (ad 47), .ref (ad 48), .ref (ad 49), .ref (ad 50), .ref (ad 51), .ref (ad 52), .ref (ad 53), .ref (ad 54), .ref (ad 55), .ref (ad 56), .ref (ad 57), .ref (ad 58), .ref (ad 59), .int (0 : Int32), .ref (ad 60), .int (0 : Int32), .ref (ad 61), .ref (ad 62), .int (0 : Int32), .ref (ad 63), .ref (ad 64), .ref (ad 65), .ref (ad 66), .ref (ad 67), .ref (ad 68), .int (0 : Int32), .ref (ad 69), .ref (ad 70), .ref (ad 71), .ref (ad 72), .ref (ad 73), .int (0 : Int32), .int (0 : Int32), .int (0 : Int32), .ref (ad 74), .ref (ad 75), .ref (ad 76), .ref (ad 77), .ref (ad 78), .ref (ad 79)]) := hw2
  refine lv_aload_n hx hb dX12_known_5 rfl (lv_at hl 0 rfl) ?_
  refine lv_iload_n hx hb dX12_known_6 rfl (lv_at hl 1 rfl) ?_
  refine tw_calli F hH (tw_runV (r := 0) (As := [.int x1]) (rest := []) F hH (c_X12_isCar l G ad w1 H.size x1 (z1) e1 hw2) (tw_gl kw_1409 rfl) km_X12_isCar kv_X12_isCar rfl rfl ⟨(Nat.le_of_ble_eq_true rfl), (Nat.le_of_ble_eq_true rfl)⟩ (by decide) hw2 rfl rfl hl.1 rfl (Nat.le_of_ble_eq_true rfl) dX12_known_7 ⟨(Nat.le_of_ble_eq_true rfl), (Nat.le_of_ble_eq_true rfl)⟩) (fun r6 w4 H locs hp5 _ hH => ?_)
  obtain ⟨rfl, hc7, rfl⟩ := hp5
  refine lv_if_eq (tgt := 40) hx hb dX12_known_10 (by decide) (fun _ => ?_) (fun c => absurd c (by decide))
  refine lv_iconst (v := -1) hx hb dX12_known_40 (by decide) ?_
  exact tw_iret F hH hret hlk rfl (Nat.le_of_ble_eq_true rfl) (Nat.le_of_ble_eq_true rfl) dX12_known_41 (⟨rfl, (by omega)⟩)
set_option maxHeartbeats 4000000 in
set_option maxRecDepth 100000 in
theorem c_X12_ahead (l : Launch) (G : tw_G) (ad : Nat → Nat) (w : Nat → va_E) (sz : Nat) (x1 : Int32) (z1 : Int) (e1 : x1.toInt = z1) (x2 : Int32) (z2 : Int) (e2 : x2.toInt = z2) (x3 : Int32) (z3 : Int) (e3 : x3.toInt = z3) (x4 : Int32) (z4 : Int) (e4 : x4.toInt = z4) (hw_0 : w 0 = .inr (12, [.int (0 : Int32), .int (2 : Int32), .int (1 : Int32), .ref (ad 1), .ref (ad 2), .ref (ad 3), .ref (ad 4), .ref (ad 5), .int (0 : Int32), .ref (ad 6), .ref (ad 7), .ref (ad 8), .int (0 : Int32), .ref (ad 9), .ref (ad 10), .ref (ad 11), .ref (ad 12), .int (0 : Int32), .ref (ad 13), .ref (ad 14), .ref (ad 15), .ref (ad 16), .ref (ad 17), .ref (ad 18), .ref (ad 19), .ref (ad 20), .ref (ad 21), .ref (ad 22), .ref (ad 23), .ref (ad 24), .ref (ad 25), .ref (ad 26), .ref (ad 27), .ref (ad 28), .ref (ad 29), .ref (ad 30), .ref (ad 31), .ref (ad 32), .ref (ad 33), .ref (ad 34), .int (0 : Int32), .int (0 : Int32), .int (0 : Int32), .ref (G.2.2 (100 + 10)), .ref (ad 35), .ref (ad 36), .ref (ad 37), .int (0 : Int32), .ref (ad 38), .ref (ad 39), .ref (ad 40), .ref (ad 41), .ref (ad 42), .ref (ad 43), .ref (ad 44), .ref (ad 45), .ref (ad 46), .ref (ad 47), .ref (ad 48), .ref (ad 49), .ref (ad 50), .ref (ad 51), .ref (ad 52), .ref (ad 53), .ref (ad 54), .ref (ad 55), .ref (ad 56), .ref (ad 57), .ref (ad 58), .ref (ad 59), .int (0 : Int32), .ref (ad 60), .int (0 : Int32), .ref (ad 61), .ref (ad 62), .int (0 : Int32), .ref (ad 63), .ref (ad 64), .ref (ad 65), .ref (ad 66), .ref (ad 67), .ref (ad 68), .int (0 : Int32), .ref (ad 69), .ref (ad 70), .ref (ad 71), .ref (ad 72), .ref (ad 73), .int (0 : Int32), .int (0 : Int32), .int (0 : Int32), .ref (ad 74), .ref (ad 75), .ref (ad 76), .ref (ad 77), .ref (ad 78), .ref (ad 79)])) : Met l yX12_ahead (tw_ws yX12_ahead cX12_ahead 7 (some .int)) ({ frames := 2, cells := 0, slots := 0, locals := 46 }) (tw_Pre G 80 ad w sz [.ref (ad 0), .int x1, .int x2, .int x3, .int x4]) (tw_Qi G 80 ad (fun r w1 => ((-1 : Int32) = r ∧ ((((z1 < 0)) ∨ ((¬ (z1 < 0)) ∧ ((-1) < z1)))))) sz) 0 0 (tw_A 80 ad sz) := by
  refine tw_met (by decide) (Nat.le_of_ble_eq_true rfl) ?_
  intro p e s m args below meth c F hret hlk hin hargs hsz hH ls hl
  have hx := F.1.1
  have hb := F.1.2.1
  have hown := F.1.2.2.2.1
  have hts := F.1.2.2.2.2
  have hl : lv_has ls 7 [(0, .ref (ad 0)), (1, .int x1), (2, .int x2), (3, .int x3), (4, .int x4)] := hl
  generalize hH0 : s.heap = H at hH ⊢
  refine lv_aload_n hx hb dX12_ahead_0 rfl (lv_at hl 0 rfl) ?_
  refine lv_iconst (v := 0) hx hb dX12_ahead_1 (by decide) ?_
  refine tw_put (r := 0) F hH kf_RX12_3 kp_X12_0 rfl (by decide) hw_0 (Nat.le_of_ble_eq_true rfl) rfl rfl dX12_ahead_2 (fun H locs w1 hw2 hne3 hH => ?_)
  have hw2 : w1 0 = .inr (12, [.int (0 : Int32), .int (2 : Int32), .int (1 : Int32), .ref (ad 1), .ref (ad 2), .ref (ad 3), .ref (ad 4), .ref (ad 5), .int (0 : Int32), .ref (ad 6), .ref (ad 7), .ref (ad 8), .int (0 : Int32), .ref (ad 9), .ref (ad 10), .ref (ad 11), .ref (ad 12), .int (0 : Int32), .ref (ad 13), .ref (ad 14), .ref (ad 15), .ref (ad 16), .ref (ad 17), .ref (ad 18), .ref (ad 19), .ref (ad 20), .ref (ad 21), .ref (ad 22), .ref (ad 23), .ref (ad 24), .ref (ad 25), .ref (ad 26), .ref (ad 27), .ref (ad 28), .ref (ad 29), .ref (ad 30), .ref (ad 31), .ref (ad 32), .ref (ad 33), .ref (ad 34), .int (0 : Int32), .int (0 : Int32), .int (0 : Int32), .ref (G.2.2 (100 + 10)), .ref (ad 35), .ref (ad 36), .ref (ad 37), .int (0 : Int32), .ref (ad 38), .ref (ad 39), .ref (ad 40), .ref (ad 41), .ref (ad 42), .ref (ad 43), .ref (ad 44), .ref (ad 45), .ref (ad 46), .ref (ad 47), .ref (ad 48), .ref (ad 49), .ref (ad 50), .ref (ad 51), .ref (ad 52), .ref (ad 53), .ref (ad 54), .ref (ad 55), .ref (ad 56), .ref (ad 57), .ref (ad 58), .ref (ad 59), .int (0 : Int32), .ref (ad 60), .int (0 : Int32), .ref (ad 61), .ref (ad 62), .int (0 : Int32), .ref (ad 63), .ref (ad 64), .ref (ad 65), .ref (ad 66), .ref (ad 67), .ref (ad 68), .int (0 : Int32), .ref (ad 69), .ref (ad 70), .ref (ad 71), .ref (ad 72), .ref (ad 73), .int (0 : Int32), .int (0 : Int32), .int (0 : Int32), .ref (ad 74), .ref (ad 75), .ref (ad 76), .ref (ad 77), .ref (ad 78), .ref (ad 79)]) := hw2
  refine lv_aload_n hx hb dX12_ahead_5 rfl (lv_at hl 0 rfl) ?_
  refine lv_iload_n hx hb dX12_ahead_6 rfl (lv_at hl 1 rfl) ?_
  refine tw_calli F hH (tw_runV (r := 0) (As := [.int x1]) (rest := []) F hH (c_X12_isCar l G ad w1 H.size x1 (z1) e1 hw2) (tw_gl kw_1409 rfl) km_X12_isCar kv_X12_isCar rfl rfl ⟨(Nat.le_of_ble_eq_true rfl), (Nat.le_of_ble_eq_true rfl)⟩ (by decide) hw2 rfl rfl hl.1 rfl (Nat.le_of_ble_eq_true rfl) dX12_ahead_7 ⟨(Nat.le_of_ble_eq_true rfl), (Nat.le_of_ble_eq_true rfl)⟩) (fun r6 w4 H locs hp5 _ hH => ?_)
  obtain ⟨rfl, hc7, rfl⟩ := hp5
  refine lv_if_eq (tgt := 43) hx hb dX12_ahead_10 (by decide) (fun _ => ?_) (fun c => absurd c (by decide))
  refine lv_iconst (v := -1) hx hb dX12_ahead_43 (by decide) ?_
  exact tw_iret F hH hret hlk rfl (Nat.le_of_ble_eq_true rfl) (Nat.le_of_ble_eq_true rfl) dX12_ahead_44 (⟨rfl, (by omega)⟩)
set_option maxHeartbeats 4000000 in
set_option maxRecDepth 100000 in
theorem c_X12_wall (l : Launch) (G : tw_G) (ad : Nat → Nat) (w : Nat → va_E) (sz : Nat) (x1 : Int32) (z1 : Int) (e1 : x1.toInt = z1) (x2 : Int32) (z2 : Int) (e2 : x2.toInt = z2) (hw_0 : w 0 = .inr (12, [.int (0 : Int32), .int (2 : Int32), .int (1 : Int32), .ref (ad 1), .ref (ad 2), .ref (ad 3), .ref (ad 4), .ref (ad 5), .int (0 : Int32), .ref (ad 6), .ref (ad 7), .ref (ad 8), .int (0 : Int32), .ref (ad 9), .ref (ad 10), .ref (ad 11), .ref (ad 12), .int (0 : Int32), .ref (ad 13), .ref (ad 14), .ref (ad 15), .ref (ad 16), .ref (ad 17), .ref (ad 18), .ref (ad 19), .ref (ad 20), .ref (ad 21), .ref (ad 22), .ref (ad 23), .ref (ad 24), .ref (ad 25), .ref (ad 26), .ref (ad 27), .ref (ad 28), .ref (ad 29), .ref (ad 30), .ref (ad 31), .ref (ad 32), .ref (ad 33), .ref (ad 34), .int (0 : Int32), .int (0 : Int32), .int (0 : Int32), .ref (G.2.2 (100 + 10)), .ref (ad 35), .ref (ad 36), .ref (ad 37), .int (0 : Int32), .ref (ad 38), .ref (ad 39), .ref (ad 40), .ref (ad 41), .ref (ad 42), .ref (ad 43), .ref (ad 44), .ref (ad 45), .ref (ad 46), .ref (ad 47), .ref (ad 48), .ref (ad 49), .ref (ad 50), .ref (ad 51), .ref (ad 52), .ref (ad 53), .ref (ad 54), .ref (ad 55), .ref (ad 56), .ref (ad 57), .ref (ad 58), .ref (ad 59), .int (0 : Int32), .ref (ad 60), .int (0 : Int32), .ref (ad 61), .ref (ad 62), .int (0 : Int32), .ref (ad 63), .ref (ad 64), .ref (ad 65), .ref (ad 66), .ref (ad 67), .ref (ad 68), .int (0 : Int32), .ref (ad 69), .ref (ad 70), .ref (ad 71), .ref (ad 72), .ref (ad 73), .int (0 : Int32), .int (0 : Int32), .int (0 : Int32), .ref (ad 74), .ref (ad 75), .ref (ad 76), .ref (ad 77), .ref (ad 78), .ref (ad 79)])) : Met l yX12_wall (tw_ws yX12_wall cX12_wall 9 (some .int)) ({ frames := 2, cells := 0, slots := 0, locals := 46 }) (tw_Pre G 80 ad w sz [.ref (ad 0), .int x1, .int x2]) (tw_Qi G 80 ad (fun r w1 => ((-1 : Int32) = r ∧ ((((z1 < 0)) ∨ ((¬ (z1 < 0)) ∧ ((-1) < z1)))))) sz) 0 0 (tw_A 80 ad sz) := by
  refine tw_met (by decide) (Nat.le_of_ble_eq_true rfl) ?_
  intro p e s m args below meth c F hret hlk hin hargs hsz hH ls hl
  have hx := F.1.1
  have hb := F.1.2.1
  have hown := F.1.2.2.2.1
  have hts := F.1.2.2.2.2
  have hl : lv_has ls 9 [(0, .ref (ad 0)), (1, .int x1), (2, .int x2)] := hl
  generalize hH0 : s.heap = H at hH ⊢
  refine lv_aload_n hx hb dX12_wall_0 rfl (lv_at hl 0 rfl) ?_
  refine lv_iconst (v := 0) hx hb dX12_wall_1 (by decide) ?_
  refine tw_put (r := 0) F hH kf_RX12_3 kp_X12_0 rfl (by decide) hw_0 (Nat.le_of_ble_eq_true rfl) rfl rfl dX12_wall_2 (fun H locs w1 hw2 hne3 hH => ?_)
  have hw2 : w1 0 = .inr (12, [.int (0 : Int32), .int (2 : Int32), .int (1 : Int32), .ref (ad 1), .ref (ad 2), .ref (ad 3), .ref (ad 4), .ref (ad 5), .int (0 : Int32), .ref (ad 6), .ref (ad 7), .ref (ad 8), .int (0 : Int32), .ref (ad 9), .ref (ad 10), .ref (ad 11), .ref (ad 12), .int (0 : Int32), .ref (ad 13), .ref (ad 14), .ref (ad 15), .ref (ad 16), .ref (ad 17), .ref (ad 18), .ref (ad 19), .ref (ad 20), .ref (ad 21), .ref (ad 22), .ref (ad 23), .ref (ad 24), .ref (ad 25), .ref (ad 26), .ref (ad 27), .ref (ad 28), .ref (ad 29), .ref (ad 30), .ref (ad 31), .ref (ad 32), .ref (ad 33), .ref (ad 34), .int (0 : Int32), .int (0 : Int32), .int (0 : Int32), .ref (G.2.2 (100 + 10)), .ref (ad 35), .ref (ad 36), .ref (ad 37), .int (0 : Int32), .ref (ad 38), .ref (ad 39), .ref (ad 40), .ref (ad 41), .ref (ad 42), .ref (ad 43), .ref (ad 44), .ref (ad 45), .ref (ad 46), .ref (ad 47), .ref (ad 48), .ref (ad 49), .ref (ad 50), .ref (ad 51), .ref (ad 52), .ref (ad 53), .ref (ad 54), .ref (ad 55), .ref (ad 56), .ref (ad 57), .ref (ad 58), .ref (ad 59), .int (0 : Int32), .ref (ad 60), .int (0 : Int32), .ref (ad 61), .ref (ad 62), .int (0 : Int32), .ref (ad 63), .ref (ad 64), .ref (ad 65), .ref (ad 66), .ref (ad 67), .ref (ad 68), .int (0 : Int32), .ref (ad 69), .ref (ad 70), .ref (ad 71), .ref (ad 72), .ref (ad 73), .int (0 : Int32), .int (0 : Int32), .int (0 : Int32), .ref (ad 74), .ref (ad 75), .ref (ad 76), .ref (ad 77), .ref (ad 78), .ref (ad 79)]) := hw2
  refine lv_aload_n hx hb dX12_wall_5 rfl (lv_at hl 0 rfl) ?_
  refine lv_iload_n hx hb dX12_wall_6 rfl (lv_at hl 1 rfl) ?_
  refine tw_calli F hH (tw_runV (r := 0) (As := [.int x1]) (rest := []) F hH (c_X12_isCar l G ad w1 H.size x1 (z1) e1 hw2) (tw_gl kw_1409 rfl) km_X12_isCar kv_X12_isCar rfl rfl ⟨(Nat.le_of_ble_eq_true rfl), (Nat.le_of_ble_eq_true rfl)⟩ (by decide) hw2 rfl rfl hl.1 rfl (Nat.le_of_ble_eq_true rfl) dX12_wall_7 ⟨(Nat.le_of_ble_eq_true rfl), (Nat.le_of_ble_eq_true rfl)⟩) (fun r6 w4 H locs hp5 _ hH => ?_)
  obtain ⟨rfl, hc7, rfl⟩ := hp5
  refine lv_if_eq (tgt := 17) hx hb dX12_wall_10 (by decide) (fun _ => ?_) (fun c => absurd c (by decide))
  refine lv_iconst (v := -1) hx hb dX12_wall_17 (by decide) ?_
  exact tw_iret F hH hret hlk rfl (Nat.le_of_ble_eq_true rfl) (Nat.le_of_ble_eq_true rfl) dX12_wall_18 (⟨rfl, (by omega)⟩)
set_option maxHeartbeats 4000000 in
set_option maxRecDepth 100000 in
theorem c_X12_why (l : Launch) (G : tw_G) (ad : Nat → Nat) (w : Nat → va_E) (sz : Nat) (x1 : Int32) (z1 : Int) (e1 : x1.toInt = z1) (x2 : Int32) (z2 : Int) (e2 : x2.toInt = z2) (hw_0 : w 0 = .inr (12, [.int (0 : Int32), .int (2 : Int32), .int (1 : Int32), .ref (ad 1), .ref (ad 2), .ref (ad 3), .ref (ad 4), .ref (ad 5), .int (0 : Int32), .ref (ad 6), .ref (ad 7), .ref (ad 8), .int (0 : Int32), .ref (ad 9), .ref (ad 10), .ref (ad 11), .ref (ad 12), .int (0 : Int32), .ref (ad 13), .ref (ad 14), .ref (ad 15), .ref (ad 16), .ref (ad 17), .ref (ad 18), .ref (ad 19), .ref (ad 20), .ref (ad 21), .ref (ad 22), .ref (ad 23), .ref (ad 24), .ref (ad 25), .ref (ad 26), .ref (ad 27), .ref (ad 28), .ref (ad 29), .ref (ad 30), .ref (ad 31), .ref (ad 32), .ref (ad 33), .ref (ad 34), .int (0 : Int32), .int (0 : Int32), .int (0 : Int32), .ref (G.2.2 (100 + 10)), .ref (ad 35), .ref (ad 36), .ref (ad 37), .int (0 : Int32), .ref (ad 38), .ref (ad 39), .ref (ad 40), .ref (ad 41), .ref (ad 42), .ref (ad 43), .ref (ad 44), .ref (ad 45), .ref (ad 46), .ref (ad 47), .ref (ad 48), .ref (ad 49), .ref (ad 50), .ref (ad 51), .ref (ad 52), .ref (ad 53), .ref (ad 54), .ref (ad 55), .ref (ad 56), .ref (ad 57), .ref (ad 58), .ref (ad 59), .int (0 : Int32), .ref (ad 60), .int (0 : Int32), .ref (ad 61), .ref (ad 62), .int (0 : Int32), .ref (ad 63), .ref (ad 64), .ref (ad 65), .ref (ad 66), .ref (ad 67), .ref (ad 68), .int (0 : Int32), .ref (ad 69), .ref (ad 70), .ref (ad 71), .ref (ad 72), .ref (ad 73), .int (0 : Int32), .int (0 : Int32), .int (0 : Int32), .ref (ad 74), .ref (ad 75), .ref (ad 76), .ref (ad 77), .ref (ad 78), .ref (ad 79)])) : Met l yX12_why (tw_ws yX12_why cX12_why 3 (some .int)) ({ frames := 2, cells := 0, slots := 0, locals := 46 }) (tw_Pre G 80 ad w sz [.ref (ad 0), .int x1, .int x2]) (tw_Qi G 80 ad (fun r w1 => ((-1 : Int32) = r ∧ ((((z1 < 0)) ∨ ((¬ (z1 < 0)) ∧ ((-1) < z1)))))) sz) 0 0 (tw_A 80 ad sz) := by
  refine tw_met (by decide) (Nat.le_of_ble_eq_true rfl) ?_
  intro p e s m args below meth c F hret hlk hin hargs hsz hH ls hl
  have hx := F.1.1
  have hb := F.1.2.1
  have hown := F.1.2.2.2.1
  have hts := F.1.2.2.2.2
  have hl : lv_has ls 3 [(0, .ref (ad 0)), (1, .int x1), (2, .int x2)] := hl
  generalize hH0 : s.heap = H at hH ⊢
  refine lv_aload_n hx hb dX12_why_0 rfl (lv_at hl 0 rfl) ?_
  refine lv_iconst (v := 0) hx hb dX12_why_1 (by decide) ?_
  refine tw_put (r := 0) F hH kf_RX12_3 kp_X12_0 rfl (by decide) hw_0 (Nat.le_of_ble_eq_true rfl) rfl rfl dX12_why_2 (fun H locs w1 hw2 hne3 hH => ?_)
  have hw2 : w1 0 = .inr (12, [.int (0 : Int32), .int (2 : Int32), .int (1 : Int32), .ref (ad 1), .ref (ad 2), .ref (ad 3), .ref (ad 4), .ref (ad 5), .int (0 : Int32), .ref (ad 6), .ref (ad 7), .ref (ad 8), .int (0 : Int32), .ref (ad 9), .ref (ad 10), .ref (ad 11), .ref (ad 12), .int (0 : Int32), .ref (ad 13), .ref (ad 14), .ref (ad 15), .ref (ad 16), .ref (ad 17), .ref (ad 18), .ref (ad 19), .ref (ad 20), .ref (ad 21), .ref (ad 22), .ref (ad 23), .ref (ad 24), .ref (ad 25), .ref (ad 26), .ref (ad 27), .ref (ad 28), .ref (ad 29), .ref (ad 30), .ref (ad 31), .ref (ad 32), .ref (ad 33), .ref (ad 34), .int (0 : Int32), .int (0 : Int32), .int (0 : Int32), .ref (G.2.2 (100 + 10)), .ref (ad 35), .ref (ad 36), .ref (ad 37), .int (0 : Int32), .ref (ad 38), .ref (ad 39), .ref (ad 40), .ref (ad 41), .ref (ad 42), .ref (ad 43), .ref (ad 44), .ref (ad 45), .ref (ad 46), .ref (ad 47), .ref (ad 48), .ref (ad 49), .ref (ad 50), .ref (ad 51), .ref (ad 52), .ref (ad 53), .ref (ad 54), .ref (ad 55), .ref (ad 56), .ref (ad 57), .ref (ad 58), .ref (ad 59), .int (0 : Int32), .ref (ad 60), .int (0 : Int32), .ref (ad 61), .ref (ad 62), .int (0 : Int32), .ref (ad 63), .ref (ad 64), .ref (ad 65), .ref (ad 66), .ref (ad 67), .ref (ad 68), .int (0 : Int32), .ref (ad 69), .ref (ad 70), .ref (ad 71), .ref (ad 72), .ref (ad 73), .int (0 : Int32), .int (0 : Int32), .int (0 : Int32), .ref (ad 74), .ref (ad 75), .ref (ad 76), .ref (ad 77), .ref (ad 78), .ref (ad 79)]) := hw2
  refine lv_aload_n hx hb dX12_why_5 rfl (lv_at hl 0 rfl) ?_
  refine lv_iload_n hx hb dX12_why_6 rfl (lv_at hl 1 rfl) ?_
  refine tw_calli F hH (tw_runV (r := 0) (As := [.int x1]) (rest := []) F hH (c_X12_isCar l G ad w1 H.size x1 (z1) e1 hw2) (tw_gl kw_1409 rfl) km_X12_isCar kv_X12_isCar rfl rfl ⟨(Nat.le_of_ble_eq_true rfl), (Nat.le_of_ble_eq_true rfl)⟩ (by decide) hw2 rfl rfl hl.1 rfl (Nat.le_of_ble_eq_true rfl) dX12_why_7 ⟨(Nat.le_of_ble_eq_true rfl), (Nat.le_of_ble_eq_true rfl)⟩) (fun r6 w4 H locs hp5 _ hH => ?_)
  obtain ⟨rfl, hc7, rfl⟩ := hp5
  refine lv_if_eq (tgt := 21) hx hb dX12_why_10 (by decide) (fun _ => ?_) (fun c => absurd c (by decide))
  refine lv_iconst (v := -1) hx hb dX12_why_21 (by decide) ?_
  exact tw_iret F hH hret hlk rfl (Nat.le_of_ble_eq_true rfl) (Nat.le_of_ble_eq_true rfl) dX12_why_22 (⟨rfl, (by omega)⟩)
set_option maxHeartbeats 4000000 in
set_option maxRecDepth 100000 in
theorem c_X12_row (l : Launch) (G : tw_G) (ad : Nat → Nat) (w : Nat → va_E) (sz : Nat) (x1 : Int32) (z1 : Int) (e1 : x1.toInt = z1) (hw_0 : w 0 = .inr (12, [.int (0 : Int32), .int (2 : Int32), .int (1 : Int32), .ref (ad 1), .ref (ad 2), .ref (ad 3), .ref (ad 4), .ref (ad 5), .int (0 : Int32), .ref (ad 6), .ref (ad 7), .ref (ad 8), .int (0 : Int32), .ref (ad 9), .ref (ad 10), .ref (ad 11), .ref (ad 12), .int (0 : Int32), .ref (ad 13), .ref (ad 14), .ref (ad 15), .ref (ad 16), .ref (ad 17), .ref (ad 18), .ref (ad 19), .ref (ad 20), .ref (ad 21), .ref (ad 22), .ref (ad 23), .ref (ad 24), .ref (ad 25), .ref (ad 26), .ref (ad 27), .ref (ad 28), .ref (ad 29), .ref (ad 30), .ref (ad 31), .ref (ad 32), .ref (ad 33), .ref (ad 34), .int (0 : Int32), .int (0 : Int32), .int (0 : Int32), .ref (G.2.2 (100 + 10)), .ref (ad 35), .ref (ad 36), .ref (ad 37), .int (0 : Int32), .ref (ad 38), .ref (ad 39), .ref (ad 40), .ref (ad 41), .ref (ad 42), .ref (ad 43), .ref (ad 44), .ref (ad 45), .ref (ad 46), .ref (ad 47), .ref (ad 48), .ref (ad 49), .ref (ad 50), .ref (ad 51), .ref (ad 52), .ref (ad 53), .ref (ad 54), .ref (ad 55), .ref (ad 56), .ref (ad 57), .ref (ad 58), .ref (ad 59), .int (0 : Int32), .ref (ad 60), .int (0 : Int32), .ref (ad 61), .ref (ad 62), .int (0 : Int32), .ref (ad 63), .ref (ad 64), .ref (ad 65), .ref (ad 66), .ref (ad 67), .ref (ad 68), .int (0 : Int32), .ref (ad 69), .ref (ad 70), .ref (ad 71), .ref (ad 72), .ref (ad 73), .int (0 : Int32), .int (0 : Int32), .int (0 : Int32), .ref (ad 74), .ref (ad 75), .ref (ad 76), .ref (ad 77), .ref (ad 78), .ref (ad 79)])) : Met l yX12_row (tw_ws yX12_row cX12_row 2 (some .int)) ({ frames := 1, cells := 0, slots := 0, locals := 25 }) (tw_Pre G 80 ad w sz [.ref (ad 0), .int x1]) (tw_Qi G 80 ad (fun r w1 => ((0 : Int32) = r ∧ (((z1 < 0)) ∨ ((¬ (z1 < 0)) ∧ ((-1) < z1))) ∧ w1 0 = .inr (12, [.int (1 : Int32), .int (2 : Int32), .int (1 : Int32), .ref (ad 1), .ref (ad 2), .ref (ad 3), .ref (ad 4), .ref (ad 5), .int (0 : Int32), .ref (ad 6), .ref (ad 7), .ref (ad 8), .int (0 : Int32), .ref (ad 9), .ref (ad 10), .ref (ad 11), .ref (ad 12), .int (0 : Int32), .ref (ad 13), .ref (ad 14), .ref (ad 15), .ref (ad 16), .ref (ad 17), .ref (ad 18), .ref (ad 19), .ref (ad 20), .ref (ad 21), .ref (ad 22), .ref (ad 23), .ref (ad 24), .ref (ad 25), .ref (ad 26), .ref (ad 27), .ref (ad 28), .ref (ad 29), .ref (ad 30), .ref (ad 31), .ref (ad 32), .ref (ad 33), .ref (ad 34), .int (0 : Int32), .int (0 : Int32), .int (0 : Int32), .ref (G.2.2 (100 + 10)), .ref (ad 35), .ref (ad 36), .ref (ad 37), .int (0 : Int32), .ref (ad 38), .ref (ad 39), .ref (ad 40), .ref (ad 41), .ref (ad 42), .ref (ad 43), .ref (ad 44), .ref (ad 45), .ref (ad 46), .ref (ad 47), .ref (ad 48), .ref (ad 49), .ref (ad 50), .ref (ad 51), .ref (ad 52), .ref (ad 53), .ref (ad 54), .ref (ad 55), .ref (ad 56), .ref (ad 57), .ref (ad 58), .ref (ad 59), .int (0 : Int32), .ref (ad 60), .int (0 : Int32), .ref (ad 61), .ref (ad 62), .int (0 : Int32), .ref (ad 63), .ref (ad 64), .ref (ad 65), .ref (ad 66), .ref (ad 67), .ref (ad 68), .int (0 : Int32), .ref (ad 69), .ref (ad 70), .ref (ad 71), .ref (ad 72), .ref (ad 73), .int (0 : Int32), .int (0 : Int32), .int (0 : Int32), .ref (ad 74), .ref (ad 75), .ref (ad 76), .ref (ad 77), .ref (ad 78), .ref (ad 79)]) ∧ ∀ k, k ≠ 0 → w1 k = w k)) sz) 0 0 (tw_A 80 ad sz) := by
  refine tw_met (by decide) (Nat.le_of_ble_eq_true rfl) ?_
  intro p e s m args below meth c F hret hlk hin hargs hsz hH ls hl
  have hx := F.1.1
  have hb := F.1.2.1
  have hown := F.1.2.2.2.1
  have hts := F.1.2.2.2.2
  have hl : lv_has ls 2 [(0, .ref (ad 0)), (1, .int x1)] := hl
  generalize hH0 : s.heap = H at hH ⊢
  refine lv_aload_n hx hb dX12_row_0 rfl (lv_at hl 0 rfl) ?_
  refine lv_iconst (v := 0) hx hb dX12_row_1 (by decide) ?_
  refine tw_put (r := 0) F hH kf_RX12_3 kp_X12_0 rfl (by decide) hw_0 (Nat.le_of_ble_eq_true rfl) rfl rfl dX12_row_2 (fun H locs w1 hw2 hne3 hH => ?_)
  have hw2 : w1 0 = .inr (12, [.int (0 : Int32), .int (2 : Int32), .int (1 : Int32), .ref (ad 1), .ref (ad 2), .ref (ad 3), .ref (ad 4), .ref (ad 5), .int (0 : Int32), .ref (ad 6), .ref (ad 7), .ref (ad 8), .int (0 : Int32), .ref (ad 9), .ref (ad 10), .ref (ad 11), .ref (ad 12), .int (0 : Int32), .ref (ad 13), .ref (ad 14), .ref (ad 15), .ref (ad 16), .ref (ad 17), .ref (ad 18), .ref (ad 19), .ref (ad 20), .ref (ad 21), .ref (ad 22), .ref (ad 23), .ref (ad 24), .ref (ad 25), .ref (ad 26), .ref (ad 27), .ref (ad 28), .ref (ad 29), .ref (ad 30), .ref (ad 31), .ref (ad 32), .ref (ad 33), .ref (ad 34), .int (0 : Int32), .int (0 : Int32), .int (0 : Int32), .ref (G.2.2 (100 + 10)), .ref (ad 35), .ref (ad 36), .ref (ad 37), .int (0 : Int32), .ref (ad 38), .ref (ad 39), .ref (ad 40), .ref (ad 41), .ref (ad 42), .ref (ad 43), .ref (ad 44), .ref (ad 45), .ref (ad 46), .ref (ad 47), .ref (ad 48), .ref (ad 49), .ref (ad 50), .ref (ad 51), .ref (ad 52), .ref (ad 53), .ref (ad 54), .ref (ad 55), .ref (ad 56), .ref (ad 57), .ref (ad 58), .ref (ad 59), .int (0 : Int32), .ref (ad 60), .int (0 : Int32), .ref (ad 61), .ref (ad 62), .int (0 : Int32), .ref (ad 63), .ref (ad 64), .ref (ad 65), .ref (ad 66), .ref (ad 67), .ref (ad 68), .int (0 : Int32), .ref (ad 69), .ref (ad 70), .ref (ad 71), .ref (ad 72), .ref (ad 73), .int (0 : Int32), .int (0 : Int32), .int (0 : Int32), .ref (ad 74), .ref (ad 75), .ref (ad 76), .ref (ad 77), .ref (ad 78), .ref (ad 79)]) := hw2
  refine lv_iload_n hx hb dX12_row_5 rfl (lv_at hl 1 rfl) ?_
  refine lv_i2l (v := x1.toInt64) hx hb dX12_row_6 rfl ?_
  refine lv_lconst (v := 0) hx hb dX12_row_7 rfl ?_
  refine lv_aload_n hx hb dX12_row_8 rfl (lv_at hl 0 rfl) ?_
  refine tw_get (r := 0) F hH kf_RX12_185 rfl (by decide) hw2 rfl dX12_row_9 ?_
  refine lv_iconst (v := 1) hx hb dX12_row_12 (by decide) ?_
  refine lv_isub hx hb dX12_row_13 ?_
  refine tw_cv (v := (-1 : Int32)) (by decide) ?_
  refine lv_i2l (v := (-1 : Int32).toInt64) hx hb dX12_row_14 rfl ?_
  have el3 : ((-1 : Int32)).toInt64.toInt = -1 := by decide
  refine tw_calli F hH (tw_runS (As := [.long x1.toInt64, .long (0 : Int64), .long ((-1 : Int32).toInt64)]) (rest := []) F hH (c_X12_in l G 80 ad w1 H.size x1.toInt64 (z1) ((tw_wide _).trans e1) (0 : Int64) 0 (by decide : (0 : Int64).toInt = 0) ((-1 : Int32).toInt64) (-1) el3) (tw_gl kw_1351 rfl) km_X12_in (tw_gl kw_1352 rfl) rfl rfl ⟨(Nat.le_of_ble_eq_true rfl), (Nat.le_of_ble_eq_true rfl)⟩ rfl hl.1 rfl (Nat.le_of_ble_eq_true rfl) dX12_row_15 ⟨(Nat.le_of_ble_eq_true rfl), (Nat.le_of_ble_eq_true rfl)⟩) (fun r7 w5 H locs hp6 _ hH => ?_)
  rcases hp6 with ⟨rfl, hc8, rfl⟩ | ⟨rfl, hc9, rfl⟩
  · skip
    refine lv_if_eq (tgt := 30) hx hb dX12_row_18 (by decide) (fun _ => ?_) (fun c => absurd c (by decide))
    refine lv_aload_n hx hb dX12_row_30 rfl (lv_at hl 0 rfl) ?_
    refine tw_calli F hH (tw_runV (r := 0) (As := []) (rest := []) F hH (c_X12_refuse l G ad w1 H.size hw2) (tw_gl kw_1538 rfl) km_X12_refuse kv_X12_refuse rfl rfl ⟨(Nat.le_of_ble_eq_true rfl), (Nat.le_of_ble_eq_true rfl)⟩ (by decide) hw2 rfl rfl hl.1 rfl (Nat.le_of_ble_eq_true rfl) dX12_row_31 ⟨(Nat.le_of_ble_eq_true rfl), (Nat.le_of_ble_eq_true rfl)⟩) (fun r13 w11 H locs hp12 _ hH => ?_)
    obtain ⟨rfl, -, hw15, hfr16⟩ := hp12
    exact tw_iret F hH hret hlk rfl (Nat.le_of_ble_eq_true rfl) (Nat.le_of_ble_eq_true rfl) dX12_row_34 (⟨rfl, (by omega), hw15, fun k h0 => ((hfr16 k (by omega)).trans (hne3 k (by omega)))⟩)
  · exfalso; omega
set_option maxHeartbeats 4000000 in
set_option maxRecDepth 100000 in
theorem c_X12_thrown (l : Launch) (G : tw_G) (ad : Nat → Nat) (w : Nat → va_E) (sz : Nat) (hw_0 : w 0 = .inr (12, [.int (1 : Int32), .int (2 : Int32), .int (1 : Int32), .ref (ad 1), .ref (ad 2), .ref (ad 3), .ref (ad 4), .ref (ad 5), .int (0 : Int32), .ref (ad 6), .ref (ad 7), .ref (ad 8), .int (0 : Int32), .ref (ad 9), .ref (ad 10), .ref (ad 11), .ref (ad 12), .int (0 : Int32), .ref (ad 13), .ref (ad 14), .ref (ad 15), .ref (ad 16), .ref (ad 17), .ref (ad 18), .ref (ad 19), .ref (ad 20), .ref (ad 21), .ref (ad 22), .ref (ad 23), .ref (ad 24), .ref (ad 25), .ref (ad 26), .ref (ad 27), .ref (ad 28), .ref (ad 29), .ref (ad 30), .ref (ad 31), .ref (ad 32), .ref (ad 33), .ref (ad 34), .int (0 : Int32), .int (0 : Int32), .int (0 : Int32), .ref (G.2.2 (100 + 10)), .ref (ad 35), .ref (ad 36), .ref (ad 37), .int (0 : Int32), .ref (ad 38), .ref (ad 39), .ref (ad 40), .ref (ad 41), .ref (ad 42), .ref (ad 43), .ref (ad 44), .ref (ad 45), .ref (ad 46), .ref (ad 47), .ref (ad 48), .ref (ad 49), .ref (ad 50), .ref (ad 51), .ref (ad 52), .ref (ad 53), .ref (ad 54), .ref (ad 55), .ref (ad 56), .ref (ad 57), .ref (ad 58), .ref (ad 59), .int (0 : Int32), .ref (ad 60), .int (0 : Int32), .ref (ad 61), .ref (ad 62), .int (0 : Int32), .ref (ad 63), .ref (ad 64), .ref (ad 65), .ref (ad 66), .ref (ad 67), .ref (ad 68), .int (0 : Int32), .ref (ad 69), .ref (ad 70), .ref (ad 71), .ref (ad 72), .ref (ad 73), .int (0 : Int32), .int (0 : Int32), .int (0 : Int32), .ref (ad 74), .ref (ad 75), .ref (ad 76), .ref (ad 77), .ref (ad 78), .ref (ad 79)])) : Met l yX12_thrown (tw_ws yX12_thrown cX12_thrown 1 (some .int)) ({ frames := 0, cells := 0, slots := 0, locals := 0 }) (tw_Pre G 80 ad w sz [.ref (ad 0)]) (tw_Qi G 80 ad (fun r w1 => ((1 : Int32) = r ∧ True ∧ w = w1)) sz) 0 0 (tw_A 80 ad sz) := by
  refine tw_met (by decide) (Nat.le_of_ble_eq_true rfl) ?_
  intro p e s m args below meth c F hret hlk hin hargs hsz hH ls hl
  have hx := F.1.1
  have hb := F.1.2.1
  have hown := F.1.2.2.2.1
  have hts := F.1.2.2.2.2
  have hl : lv_has ls 1 [(0, .ref (ad 0))] := hl
  generalize hH0 : s.heap = H at hH ⊢
  refine lv_aload_n hx hb dX12_thrown_0 rfl (lv_at hl 0 rfl) ?_
  refine tw_get (r := 0) F hH kf_RX12_3 rfl (by decide) hw_0 rfl dX12_thrown_1 ?_
  exact tw_iret F hH hret hlk rfl (Nat.le_of_ble_eq_true rfl) (Nat.le_of_ble_eq_true rfl) dX12_thrown_4 (⟨rfl, trivial, rfl⟩)
