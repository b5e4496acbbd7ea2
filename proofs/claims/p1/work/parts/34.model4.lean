set_option maxHeartbeats 40000000 in
set_option maxRecDepth 100000 in
theorem c_X12_tyres (l : Launch) (G : tw_G) (ad : Nat → Nat) (w : Nat → va_E) (sz : Nat) (x1 : Int32) (z1 : Int) (e1 : x1.toInt = z1) (x2 : Int32) (z2 : Int) (e2 : x2.toInt = z2) (x3 : Int32) (z3 : Int) (e3 : x3.toInt = z3) (hw_0 : w 0 = .inr (12, [.int (0 : Int32), .int (2 : Int32), .int (1 : Int32), .ref (ad 1), .ref (ad 2), .ref (ad 3), .ref (ad 4), .ref (ad 5), .int (0 : Int32), .ref (ad 6), .ref (ad 7), .ref (ad 8), .int (0 : Int32), .ref (ad 9), .ref (ad 10), .ref (ad 11), .ref (ad 12), .int (0 : Int32), .ref (ad 13), .ref (ad 14), .ref (ad 15), .ref (ad 16), .ref (ad 17), .ref (ad 18), .ref (ad 19), .ref (ad 20), .ref (ad 21), .ref (ad 22), .ref (ad 23), .ref (ad 24), .ref (ad 25), .ref (ad 26), .ref (ad 27), .ref (ad 28), .ref (ad 29), .ref (ad 30), .ref (ad 31), .ref (ad 32), .ref (ad 33), .ref (ad 34), .int (0 : Int32), .int (0 : Int32), .int (0 : Int32), .ref (G.2.2 (100 + 10)), .ref (ad 35), .ref (ad 36), .ref (ad 37), .int (0 : Int32), .ref (ad 38), .ref (ad 39), .ref (ad 40), .ref (ad 41), .ref (ad 42), .ref (ad 43), .ref (ad 44), .ref (ad 45), .ref (ad 46), .ref (ad 47), .ref (ad 48), .ref (ad 49), .ref (ad 50), .ref (ad 51), .ref (ad 52), .ref (ad 53), .ref (ad 54), .ref (ad 55), .ref (ad 56), .ref (ad 57), .ref (ad 58), .ref (ad 59), .int (0 : Int32), .ref (ad 60), .int (0 : Int32), .ref (ad 61), .ref (ad 62), .int (0 : Int32), .ref (ad 63), .ref (ad 64), .ref (ad 65), .ref (ad 66), .ref (ad 67), .ref (ad 68), .int (0 : Int32), .ref (ad 69), .ref (ad 70), .ref (ad 71), .ref (ad 72), .ref (ad 73), .int (0 : Int32), .int (0 : Int32), .int (0 : Int32), .ref (ad 74), .ref (ad 75), .ref (ad 76), .ref (ad 77), .ref (ad 78), .ref (ad 79)])) (hw_4 : w 4 = .inl (G.2.1 0, 24, .inl (upd (upd (upd (upd (upd (upd (upd (upd (upd (upd (upd (upd (upd (upd (upd (upd (fun _ => 0) 1 (10 : Int32)) 2 (40 : Int32)) 3 (1000 : Int32)) 5 (5 : Int32)) 7 (10 : Int32)) 8 (40 : Int32)) 9 (1000 : Int32)) 11 (5 : Int32)) 13 (10 : Int32)) 14 (40 : Int32)) 15 (1000 : Int32)) 17 (5 : Int32)) 19 (10 : Int32)) 20 (40 : Int32)) 21 (1000 : Int32)) 23 (5 : Int32)))) : Met l yX12_tyres (tw_ws yX12_tyres cX12_tyres 5 (some .int)) ({ frames := 1, cells := 0, slots := 0, locals := 25 }) (tw_Pre G 80 ad w sz [.ref (ad 0), .int x1, .int x2, .int x3]) (tw_Qi G 80 ad (fun r w1 => ((-1 : Int32) = r ∧ (((((z1 < 0)) ∨ ((¬ (z1 < 0)) ∧ (3 < z1)))) ∨ (((¬ (z1 < 0)) ∧ (¬ (3 < z1))) ∧ (((z2 < 0)) ∨ ((¬ (z2 < 0)) ∧ (5 < z2)))) ∨ (((¬ (z1 < 0)) ∧ (¬ (3 < z1))) ∧ ((¬ (z2 < 0)) ∧ (¬ (5 < z2))) ∧ ((¬ (z2 = 0)) ∧ (¬ (z2 = 2)) ∧ (¬ (z2 = 3))) ∧ (((z3 < 0)) ∨ ((¬ (z3 < 0)) ∧ (100 < z3)))) ∨ (((¬ (z1 < 0)) ∧ (¬ (3 < z1))) ∧ ((¬ (z2 < 0)) ∧ (¬ (5 < z2))) ∧ ((¬ (z2 = 0)) ∧ (¬ (z2 = 2)) ∧ (z2 = 3)) ∧ (((z3 < 0)) ∨ ((¬ (z3 < 0)) ∧ (5000 < z3)))) ∨ (((¬ (z1 < 0)) ∧ (¬ (3 < z1))) ∧ ((¬ (z2 < 0)) ∧ (¬ (5 < z2))) ∧ ((¬ (z2 = 0)) ∧ (z2 = 2)) ∧ (((z3 < 0)) ∨ ((¬ (z3 < 0)) ∧ (200 < z3)))) ∨ (((¬ (z1 < 0)) ∧ (¬ (3 < z1))) ∧ ((¬ (z2 < 0)) ∧ (¬ (5 < z2))) ∧ ((z2 = 0)) ∧ (((z3 < 0)) ∨ ((¬ (z3 < 0)) ∧ (3000 < z3)))))) ∨ ((10 : Int32) = r ∧ ((((¬ (z1 < 0)) ∧ (¬ (3 < z1))) ∧ ((¬ (z2 < 0)) ∧ (¬ (5 < z2))) ∧ ((¬ (z2 = 0)) ∧ (¬ (z2 = 2)) ∧ (¬ (z2 = 3))) ∧ ((¬ (z3 < 0)) ∧ (¬ (100 < z3))) ∧ (z1 = 0) ∧ (z2 = 1)) ∨ (((¬ (z1 < 0)) ∧ (¬ (3 < z1))) ∧ ((¬ (z2 < 0)) ∧ (¬ (5 < z2))) ∧ ((¬ (z2 = 0)) ∧ (¬ (z2 = 2)) ∧ (¬ (z2 = 3))) ∧ ((¬ (z3 < 0)) ∧ (¬ (100 < z3))) ∧ (z1 = 1) ∧ (z2 = 1)) ∨ (((¬ (z1 < 0)) ∧ (¬ (3 < z1))) ∧ ((¬ (z2 < 0)) ∧ (¬ (5 < z2))) ∧ ((¬ (z2 = 0)) ∧ (¬ (z2 = 2)) ∧ (¬ (z2 = 3))) ∧ ((¬ (z3 < 0)) ∧ (¬ (100 < z3))) ∧ (z1 = 2) ∧ (z2 = 1)) ∨ (((¬ (z1 < 0)) ∧ (¬ (3 < z1))) ∧ ((¬ (z2 < 0)) ∧ (¬ (5 < z2))) ∧ ((¬ (z2 = 0)) ∧ (¬ (z2 = 2)) ∧ (¬ (z2 = 3))) ∧ ((¬ (z3 < 0)) ∧ (¬ (100 < z3))) ∧ (z1 = 3) ∧ (z2 = 1)))) ∨ ((0 : Int32) = r ∧ ((((¬ (z1 < 0)) ∧ (¬ (3 < z1))) ∧ ((¬ (z2 < 0)) ∧ (¬ (5 < z2))) ∧ ((¬ (z2 = 0)) ∧ (¬ (z2 = 2)) ∧ (¬ (z2 = 3))) ∧ ((¬ (z3 < 0)) ∧ (¬ (100 < z3))) ∧ (z1 = 0) ∧ (z2 = 4)) ∨ (((¬ (z1 < 0)) ∧ (¬ (3 < z1))) ∧ ((¬ (z2 < 0)) ∧ (¬ (5 < z2))) ∧ ((¬ (z2 = 0)) ∧ (¬ (z2 = 2)) ∧ (¬ (z2 = 3))) ∧ ((¬ (z3 < 0)) ∧ (¬ (100 < z3))) ∧ (z1 = 1) ∧ (z2 = 4)) ∨ (((¬ (z1 < 0)) ∧ (¬ (3 < z1))) ∧ ((¬ (z2 < 0)) ∧ (¬ (5 < z2))) ∧ ((¬ (z2 = 0)) ∧ (¬ (z2 = 2)) ∧ (¬ (z2 = 3))) ∧ ((¬ (z3 < 0)) ∧ (¬ (100 < z3))) ∧ (z1 = 2) ∧ (z2 = 4)) ∨ (((¬ (z1 < 0)) ∧ (¬ (3 < z1))) ∧ ((¬ (z2 < 0)) ∧ (¬ (5 < z2))) ∧ ((¬ (z2 = 0)) ∧ (¬ (z2 = 2)) ∧ (¬ (z2 = 3))) ∧ ((¬ (z3 < 0)) ∧ (¬ (100 < z3))) ∧ (z1 = 3) ∧ (z2 = 4)) ∨ (((¬ (z1 < 0)) ∧ (¬ (3 < z1))) ∧ ((¬ (z2 < 0)) ∧ (¬ (5 < z2))) ∧ ((z2 = 0)) ∧ ((¬ (z3 < 0)) ∧ (¬ (3000 < z3))) ∧ (z1 = 0) ∧ (z2 = 0)) ∨ (((¬ (z1 < 0)) ∧ (¬ (3 < z1))) ∧ ((¬ (z2 < 0)) ∧ (¬ (5 < z2))) ∧ ((z2 = 0)) ∧ ((¬ (z3 < 0)) ∧ (¬ (3000 < z3))) ∧ (z1 = 1) ∧ (z2 = 0)) ∨ (((¬ (z1 < 0)) ∧ (¬ (3 < z1))) ∧ ((¬ (z2 < 0)) ∧ (¬ (5 < z2))) ∧ ((z2 = 0)) ∧ ((¬ (z3 < 0)) ∧ (¬ (3000 < z3))) ∧ (z1 = 2) ∧ (z2 = 0)) ∨ (((¬ (z1 < 0)) ∧ (¬ (3 < z1))) ∧ ((¬ (z2 < 0)) ∧ (¬ (5 < z2))) ∧ ((z2 = 0)) ∧ ((¬ (z3 < 0)) ∧ (¬ (3000 < z3))) ∧ (z1 = 3) ∧ (z2 = 0)))) ∨ ((5 : Int32) = r ∧ ((((¬ (z1 < 0)) ∧ (¬ (3 < z1))) ∧ ((¬ (z2 < 0)) ∧ (¬ (5 < z2))) ∧ ((¬ (z2 = 0)) ∧ (¬ (z2 = 2)) ∧ (¬ (z2 = 3))) ∧ ((¬ (z3 < 0)) ∧ (¬ (100 < z3))) ∧ (z1 = 0) ∧ (z2 = 5)) ∨ (((¬ (z1 < 0)) ∧ (¬ (3 < z1))) ∧ ((¬ (z2 < 0)) ∧ (¬ (5 < z2))) ∧ ((¬ (z2 = 0)) ∧ (¬ (z2 = 2)) ∧ (¬ (z2 = 3))) ∧ ((¬ (z3 < 0)) ∧ (¬ (100 < z3))) ∧ (z1 = 1) ∧ (z2 = 5)) ∨ (((¬ (z1 < 0)) ∧ (¬ (3 < z1))) ∧ ((¬ (z2 < 0)) ∧ (¬ (5 < z2))) ∧ ((¬ (z2 = 0)) ∧ (¬ (z2 = 2)) ∧ (¬ (z2 = 3))) ∧ ((¬ (z3 < 0)) ∧ (¬ (100 < z3))) ∧ (z1 = 2) ∧ (z2 = 5)) ∨ (((¬ (z1 < 0)) ∧ (¬ (3 < z1))) ∧ ((¬ (z2 < 0)) ∧ (¬ (5 < z2))) ∧ ((¬ (z2 = 0)) ∧ (¬ (z2 = 2)) ∧ (¬ (z2 = 3))) ∧ ((¬ (z3 < 0)) ∧ (¬ (100 < z3))) ∧ (z1 = 3) ∧ (z2 = 5)))) ∨ ((1000 : Int32) = r ∧ ((((¬ (z1 < 0)) ∧ (¬ (3 < z1))) ∧ ((¬ (z2 < 0)) ∧ (¬ (5 < z2))) ∧ ((¬ (z2 = 0)) ∧ (¬ (z2 = 2)) ∧ (z2 = 3)) ∧ ((¬ (z3 < 0)) ∧ (¬ (5000 < z3))) ∧ (z1 = 0) ∧ (z2 = 3)) ∨ (((¬ (z1 < 0)) ∧ (¬ (3 < z1))) ∧ ((¬ (z2 < 0)) ∧ (¬ (5 < z2))) ∧ ((¬ (z2 = 0)) ∧ (¬ (z2 = 2)) ∧ (z2 = 3)) ∧ ((¬ (z3 < 0)) ∧ (¬ (5000 < z3))) ∧ (z1 = 1) ∧ (z2 = 3)) ∨ (((¬ (z1 < 0)) ∧ (¬ (3 < z1))) ∧ ((¬ (z2 < 0)) ∧ (¬ (5 < z2))) ∧ ((¬ (z2 = 0)) ∧ (¬ (z2 = 2)) ∧ (z2 = 3)) ∧ ((¬ (z3 < 0)) ∧ (¬ (5000 < z3))) ∧ (z1 = 2) ∧ (z2 = 3)) ∨ (((¬ (z1 < 0)) ∧ (¬ (3 < z1))) ∧ ((¬ (z2 < 0)) ∧ (¬ (5 < z2))) ∧ ((¬ (z2 = 0)) ∧ (¬ (z2 = 2)) ∧ (z2 = 3)) ∧ ((¬ (z3 < 0)) ∧ (¬ (5000 < z3))) ∧ (z1 = 3) ∧ (z2 = 3)))) ∨ ((40 : Int32) = r ∧ ((((¬ (z1 < 0)) ∧ (¬ (3 < z1))) ∧ ((¬ (z2 < 0)) ∧ (¬ (5 < z2))) ∧ ((¬ (z2 = 0)) ∧ (z2 = 2)) ∧ ((¬ (z3 < 0)) ∧ (¬ (200 < z3))) ∧ (z1 = 0) ∧ (z2 = 2)) ∨ (((¬ (z1 < 0)) ∧ (¬ (3 < z1))) ∧ ((¬ (z2 < 0)) ∧ (¬ (5 < z2))) ∧ ((¬ (z2 = 0)) ∧ (z2 = 2)) ∧ ((¬ (z3 < 0)) ∧ (¬ (200 < z3))) ∧ (z1 = 1) ∧ (z2 = 2)) ∨ (((¬ (z1 < 0)) ∧ (¬ (3 < z1))) ∧ ((¬ (z2 < 0)) ∧ (¬ (5 < z2))) ∧ ((¬ (z2 = 0)) ∧ (z2 = 2)) ∧ ((¬ (z3 < 0)) ∧ (¬ (200 < z3))) ∧ (z1 = 2) ∧ (z2 = 2)) ∨ (((¬ (z1 < 0)) ∧ (¬ (3 < z1))) ∧ ((¬ (z2 < 0)) ∧ (¬ (5 < z2))) ∧ ((¬ (z2 = 0)) ∧ (z2 = 2)) ∧ ((¬ (z3 < 0)) ∧ (¬ (200 < z3))) ∧ (z1 = 3) ∧ (z2 = 2))))) sz) 0 0 (tw_A 80 ad sz) := by
  refine tw_met (by decide) (Nat.le_of_ble_eq_true rfl) ?_
  intro p e s m args below meth c F hret hlk hin hargs hsz hH ls hl
  have hx := F.1.1
  have hb := F.1.2.1
  have hown := F.1.2.2.2.1
  have hts := F.1.2.2.2.2
  have hl : lv_has ls 5 [(0, .ref (ad 0)), (1, .int x1), (2, .int x2), (3, .int x3)] := hl
  generalize hH0 : s.heap = H at hH ⊢
  refine lv_aload_n hx hb dX12_tyres_0 rfl (lv_at hl 0 rfl) ?_
  refine lv_iconst (v := 0) hx hb dX12_tyres_1 (by decide) ?_
  refine tw_put (r := 0) F hH kf_RX12_3 kp_X12_0 rfl (by decide) hw_0 (Nat.le_of_ble_eq_true rfl) rfl rfl dX12_tyres_2 (fun H locs w1 hw2 hne3 hH => ?_)
  have hw2 : w1 0 = .inr (12, [.int (0 : Int32), .int (2 : Int32), .int (1 : Int32), .ref (ad 1), .ref (ad 2), .ref (ad 3), .ref (ad 4), .ref (ad 5), .int (0 : Int32), .ref (ad 6), .ref (ad 7), .ref (ad 8), .int (0 : Int32), .ref (ad 9), .ref (ad 10), .ref (ad 11), .ref (ad 12), .int (0 : Int32), .ref (ad 13), .ref (ad 14), .ref (ad 15), .ref (ad 16), .ref (ad 17), .ref (ad 18), .ref (ad 19), .ref (ad 20), .ref (ad 21), .ref (ad 22), .ref (ad 23), .ref (ad 24), .ref (ad 25), .ref (ad 26), .ref (ad 27), .ref (ad 28), .ref (ad 29), .ref (ad 30), .ref (ad 31), .ref (ad 32), .ref (ad 33), .ref (ad 34), .int (0 : Int32), .int (0 : Int32), .int (0 : Int32), .ref (G.2.2 (100 + 10)), .ref (ad 35), .ref (ad 36), .ref (ad 37), .int (0 : Int32), .ref (ad 38), .ref (ad 39), .ref (ad 40), .ref (ad 41), .ref (ad 42), .ref (ad 43), .ref (ad 44), .ref (ad 45), .ref (ad 46), .ref (ad 47), .ref (ad 48), .ref (ad 49), .ref (ad 50), .ref (ad 51), .ref (ad 52), .ref (ad 53), .ref (ad 54), .ref (ad 55), .ref (ad 56), .ref (ad 57), .ref (ad 58), .ref (ad 59), .int (0 : Int32), .ref (ad 60), .int (0 : Int32), .ref (ad 61), .ref (ad 62), .int (0 : Int32), .ref (ad 63), .ref (ad 64), .ref (ad 65), .ref (ad 66), .ref (ad 67), .ref (ad 68), .int (0 : Int32), .ref (ad 69), .ref (ad 70), .ref (ad 71), .ref (ad 72), .ref (ad 73), .int (0 : Int32), .int (0 : Int32), .int (0 : Int32), .ref (ad 74), .ref (ad 75), .ref (ad 76), .ref (ad 77), .ref (ad 78), .ref (ad 79)]) := hw2
  refine lv_iload_n hx hb dX12_tyres_5 rfl (lv_at hl 1 rfl) ?_
  refine lv_i2l (v := x1.toInt64) hx hb dX12_tyres_6 rfl ?_
  refine lv_lconst (v := 0) hx hb dX12_tyres_7 rfl ?_
  refine lv_ldc2 (v := 3) hx hb hown (hts _ (tw_gl kw_1375 rfl)) dX12_tyres_8 ?_
  refine tw_calli F hH (tw_runS (As := [.long x1.toInt64, .long (0 : Int64), .long (3 : Int64)]) (rest := []) F hH (c_X12_in l G 80 ad w1 H.size x1.toInt64 (z1) ((tw_wide _).trans e1) (0 : Int64) 0 (by decide : (0 : Int64).toInt = 0) (3 : Int64) 3 (by decide : (3 : Int64).toInt = 3)) (tw_gl kw_1351 rfl) km_X12_in (tw_gl kw_1352 rfl) rfl rfl ⟨(Nat.le_of_ble_eq_true rfl), (Nat.le_of_ble_eq_true rfl)⟩ rfl hl.1 rfl (Nat.le_of_ble_eq_true rfl) dX12_tyres_11 ⟨(Nat.le_of_ble_eq_true rfl), (Nat.le_of_ble_eq_true rfl)⟩) (fun r6 w4 H locs hp5 _ hH => ?_)
  rcases hp5 with ⟨rfl, hc7, rfl⟩ | ⟨rfl, hc8, rfl⟩
  · skip
    refine lv_if_eq (tgt := 43) hx hb dX12_tyres_14 (by decide) (fun _ => ?_) (fun c => absurd c (by decide))
    refine lv_iconst (v := -1) hx hb dX12_tyres_43 (by decide) ?_
    exact tw_iret F hH hret hlk rfl (Nat.le_of_ble_eq_true rfl) (Nat.le_of_ble_eq_true rfl) dX12_tyres_44 (Or.inl (⟨rfl, (Or.inl (by omega))⟩))
  · skip
    refine lv_if_eq (tgt := 43) hx hb dX12_tyres_14 (by decide) (fun c => absurd c (by decide)) (fun _ => ?_)
    refine lv_iload_n hx hb dX12_tyres_17 rfl (lv_at hl 2 rfl) ?_
    refine lv_i2l (v := x2.toInt64) hx hb dX12_tyres_18 rfl ?_
    refine lv_lconst (v := 0) hx hb dX12_tyres_19 rfl ?_
    refine lv_ldc2 (v := 5) hx hb hown (hts _ (tw_gl kw_1350 rfl)) dX12_tyres_20 ?_
    refine tw_calli F hH (tw_runS (As := [.long x2.toInt64, .long (0 : Int64), .long (5 : Int64)]) (rest := []) F hH (c_X12_in l G 80 ad w1 H.size x2.toInt64 (z2) ((tw_wide _).trans e2) (0 : Int64) 0 (by decide : (0 : Int64).toInt = 0) (5 : Int64) 5 (by decide : (5 : Int64).toInt = 5)) (tw_gl kw_1351 rfl) km_X12_in (tw_gl kw_1352 rfl) rfl rfl ⟨(Nat.le_of_ble_eq_true rfl), (Nat.le_of_ble_eq_true rfl)⟩ rfl hl.1 rfl (Nat.le_of_ble_eq_true rfl) dX12_tyres_23 ⟨(Nat.le_of_ble_eq_true rfl), (Nat.le_of_ble_eq_true rfl)⟩) (fun r13 w11 H locs hp12 _ hH => ?_)
    rcases hp12 with ⟨rfl, hc14, rfl⟩ | ⟨rfl, hc15, rfl⟩
    · skip
      refine lv_if_eq (tgt := 43) hx hb dX12_tyres_26 (by decide) (fun _ => ?_) (fun c => absurd c (by decide))
      refine lv_iconst (v := -1) hx hb dX12_tyres_43 (by decide) ?_
      exact tw_iret F hH hret hlk rfl (Nat.le_of_ble_eq_true rfl) (Nat.le_of_ble_eq_true rfl) dX12_tyres_44 (Or.inl (⟨rfl, (Or.inr (Or.inl (by omega)))⟩))
    · skip
      refine lv_if_eq (tgt := 43) hx hb dX12_tyres_26 (by decide) (fun c => absurd c (by decide)) (fun _ => ?_)
      refine lv_iload_n hx hb dX12_tyres_29 rfl (lv_at hl 3 rfl) ?_
      refine lv_i2l (v := x3.toInt64) hx hb dX12_tyres_30 rfl ?_
      refine lv_lconst (v := 0) hx hb dX12_tyres_31 rfl ?_
      refine lv_iload_n hx hb dX12_tyres_32 rfl (lv_at hl 2 rfl) ?_
      refine tw_calli F hH (tw_runS (As := [.int x2]) (rest := [.long (0 : Int64), .long x3.toInt64]) F hH (c_X12_mostOfTyres l G ad w1 H.size x2 (z2) e2) (tw_gl kw_1376 rfl) km_X12_mostOfTyres (tw_gl kw_1377 rfl) rfl rfl ⟨(Nat.le_of_ble_eq_true rfl), (Nat.le_of_ble_eq_true rfl)⟩ rfl hl.1 rfl (Nat.le_of_ble_eq_true rfl) dX12_tyres_33 ⟨(Nat.le_of_ble_eq_true rfl), (Nat.le_of_ble_eq_true rfl)⟩) (fun r20 w18 H locs hp19 _ hH => ?_)
      rcases hp19 with ⟨rfl, hc21, rfl⟩ | ⟨rfl, hc22, rfl⟩ | ⟨rfl, hc23, rfl⟩ | ⟨rfl, hc24, rfl⟩
      · skip
        refine lv_i2l (v := (100 : Int32).toInt64) hx hb dX12_tyres_36 rfl ?_
        have el24 : ((100 : Int32)).toInt64.toInt = 100 := by decide
        refine tw_calli F hH (tw_runS (As := [.long x3.toInt64, .long (0 : Int64), .long ((100 : Int32).toInt64)]) (rest := []) F hH (c_X12_in l G 80 ad w1 H.size x3.toInt64 (z3) ((tw_wide _).trans e3) (0 : Int64) 0 (by decide : (0 : Int64).toInt = 0) ((100 : Int32).toInt64) 100 el24) (tw_gl kw_1351 rfl) km_X12_in (tw_gl kw_1352 rfl) rfl rfl ⟨(Nat.le_of_ble_eq_true rfl), (Nat.le_of_ble_eq_true rfl)⟩ rfl hl.1 rfl (Nat.le_of_ble_eq_true rfl) dX12_tyres_37 ⟨(Nat.le_of_ble_eq_true rfl), (Nat.le_of_ble_eq_true rfl)⟩) (fun r28 w26 H locs hp27 _ hH => ?_)
        rcases hp27 with ⟨rfl, hc29, rfl⟩ | ⟨rfl, hc30, rfl⟩
        · skip
          refine lv_if_ne (tgt := 45) hx hb dX12_tyres_40 (by decide) (fun c => absurd c (by decide)) (fun _ => ?_)
          refine lv_iconst (v := -1) hx hb dX12_tyres_43 (by decide) ?_
          exact tw_iret F hH hret hlk rfl (Nat.le_of_ble_eq_true rfl) (Nat.le_of_ble_eq_true rfl) dX12_tyres_44 (Or.inl (⟨rfl, (Or.inr (Or.inr (Or.inl (by omega))))⟩))
        · skip
          refine lv_if_ne (tgt := 45) hx hb dX12_tyres_40 (by decide) (fun _ => ?_) (fun c => absurd c (by decide))
          refine lv_aload_n hx hb dX12_tyres_45 rfl (lv_at hl 0 rfl) ?_
          refine tw_get (r := 0) F hH kf_RX12_72 rfl (by decide) hw2 rfl dX12_tyres_46 ?_
          refine lv_bipush (v := 6) hx hb dX12_tyres_49 (by decide) ?_
          refine lv_iload_n hx hb dX12_tyres_51 rfl (lv_at hl 1 rfl) ?_
          rcases (by omega : z1 = 0 ∨ z1 = 1 ∨ z1 = 2 ∨ z1 = 3) with hz33 | hz33 | hz33 | hz33
          · skip
            obtain rfl : (0 : Int32) = x1 := (Int32.toInt_inj.mp ((e1.trans hz33).trans (by decide : (0 : Int) = (0 : Int32).toInt))).symm
            refine lv_imul hx hb dX12_tyres_52 ?_
            refine tw_cv (v := (0 : Int32)) (by decide) ?_
            refine lv_iload_n hx hb dX12_tyres_53 rfl (lv_at hl 2 rfl) ?_
            rcases (by omega : z2 = 1 ∨ z2 = 4 ∨ z2 = 5) with hz34 | hz34 | hz34
            · skip
              obtain rfl : (1 : Int32) = x2 := (Int32.toInt_inj.mp ((e2.trans hz34).trans (by decide : (1 : Int) = (1 : Int32).toInt))).symm
              refine lv_iadd hx hb dX12_tyres_54 ?_
              refine tw_cv (v := (1 : Int32)) (by decide) ?_
              have hw35 : w1 4 = .inl (G.2.1 0, 24, .inl (upd (upd (upd (upd (upd (upd (upd (upd (upd (upd (upd (upd (upd (upd (upd (upd (fun _ => 0) 1 (10 : Int32)) 2 (40 : Int32)) 3 (1000 : Int32)) 5 (5 : Int32)) 7 (10 : Int32)) 8 (40 : Int32)) 9 (1000 : Int32)) 11 (5 : Int32)) 13 (10 : Int32)) 14 (40 : Int32)) 15 (1000 : Int32)) 17 (5 : Int32)) 19 (10 : Int32)) 20 (40 : Int32)) 21 (1000 : Int32)) 23 (5 : Int32))) := (hne3 4 (by decide)).trans (hw_4)
              refine tw_iald (r := 4) (j := 1) (v := (10 : Int32)) F hH rfl (by decide) hw35 (by decide) (by decide) rfl dX12_tyres_55 ?_
              refine lv_istore (lv' := [(4, .int (10 : Int32)), (0, .ref (ad 0)), (1, .int (0 : Int32)), (2, .int (1 : Int32)), (3, .int x3)]) hx hb dX12_tyres_56 hl (by decide) rfl (fun ls hl => ?_)
              refine lv_aload_n hx hb dX12_tyres_58 rfl (lv_at hl 1 rfl) ?_
              refine tw_get (r := 0) F hH kf_RX12_72 rfl (by decide) hw2 rfl dX12_tyres_59 ?_
              refine lv_bipush (v := 6) hx hb dX12_tyres_62 (by decide) ?_
              refine lv_iload_n hx hb dX12_tyres_64 rfl (lv_at hl 2 rfl) ?_
              refine lv_imul hx hb dX12_tyres_65 ?_
              refine tw_cv (v := (0 : Int32)) (by decide) ?_
              refine lv_iload_n hx hb dX12_tyres_66 rfl (lv_at hl 3 rfl) ?_
              refine lv_iadd hx hb dX12_tyres_67 ?_
              refine tw_cv (v := (1 : Int32)) (by decide) ?_
              refine lv_iload_n hx hb dX12_tyres_68 rfl (lv_at hl 4 rfl) ?_
              refine tw_iast (r := 4) (j := 1) F hH rfl (by decide) hw35 (by decide) (by decide) dX12_tyres_69 (fun H locs w36 hw37 hne38 hH => ?_)
              refine lv_iload hx hb dX12_tyres_70 (lv_at hl 0 rfl) ?_
              exact tw_iret F hH hret hlk rfl (Nat.le_of_ble_eq_true rfl) (Nat.le_of_ble_eq_true rfl) dX12_tyres_72 (Or.inr (Or.inl (⟨rfl, (Or.inl (by omega))⟩)))
            · skip
              obtain rfl : (4 : Int32) = x2 := (Int32.toInt_inj.mp ((e2.trans hz34).trans (by decide : (4 : Int) = (4 : Int32).toInt))).symm
              refine lv_iadd hx hb dX12_tyres_54 ?_
              refine tw_cv (v := (4 : Int32)) (by decide) ?_
              have hw39 : w1 4 = .inl (G.2.1 0, 24, .inl (upd (upd (upd (upd (upd (upd (upd (upd (upd (upd (upd (upd (upd (upd (upd (upd (fun _ => 0) 1 (10 : Int32)) 2 (40 : Int32)) 3 (1000 : Int32)) 5 (5 : Int32)) 7 (10 : Int32)) 8 (40 : Int32)) 9 (1000 : Int32)) 11 (5 : Int32)) 13 (10 : Int32)) 14 (40 : Int32)) 15 (1000 : Int32)) 17 (5 : Int32)) 19 (10 : Int32)) 20 (40 : Int32)) 21 (1000 : Int32)) 23 (5 : Int32))) := (hne3 4 (by decide)).trans (hw_4)
              refine tw_iald (r := 4) (j := 4) (v := (0 : Int32)) F hH rfl (by decide) hw39 (by decide) (by decide) rfl dX12_tyres_55 ?_
              refine lv_istore (lv' := [(4, .int (0 : Int32)), (0, .ref (ad 0)), (1, .int (0 : Int32)), (2, .int (4 : Int32)), (3, .int x3)]) hx hb dX12_tyres_56 hl (by decide) rfl (fun ls hl => ?_)
              refine lv_aload_n hx hb dX12_tyres_58 rfl (lv_at hl 1 rfl) ?_
              refine tw_get (r := 0) F hH kf_RX12_72 rfl (by decide) hw2 rfl dX12_tyres_59 ?_
              refine lv_bipush (v := 6) hx hb dX12_tyres_62 (by decide) ?_
              refine lv_iload_n hx hb dX12_tyres_64 rfl (lv_at hl 2 rfl) ?_
              refine lv_imul hx hb dX12_tyres_65 ?_
              refine tw_cv (v := (0 : Int32)) (by decide) ?_
              refine lv_iload_n hx hb dX12_tyres_66 rfl (lv_at hl 3 rfl) ?_
              refine lv_iadd hx hb dX12_tyres_67 ?_
              refine tw_cv (v := (4 : Int32)) (by decide) ?_
              refine lv_iload_n hx hb dX12_tyres_68 rfl (lv_at hl 4 rfl) ?_
              refine tw_iast (r := 4) (j := 4) F hH rfl (by decide) hw39 (by decide) (by decide) dX12_tyres_69 (fun H locs w40 hw41 hne42 hH => ?_)
              refine lv_iload hx hb dX12_tyres_70 (lv_at hl 0 rfl) ?_
              exact tw_iret F hH hret hlk rfl (Nat.le_of_ble_eq_true rfl) (Nat.le_of_ble_eq_true rfl) dX12_tyres_72 (Or.inr (Or.inr (Or.inl (⟨rfl, (Or.inl (by omega))⟩))))
            · skip
              obtain rfl : (5 : Int32) = x2 := (Int32.toInt_inj.mp ((e2.trans hz34).trans (by decide : (5 : Int) = (5 : Int32).toInt))).symm
              refine lv_iadd hx hb dX12_tyres_54 ?_
              refine tw_cv (v := (5 : Int32)) (by decide) ?_
              have hw43 : w1 4 = .inl (G.2.1 0, 24, .inl (upd (upd (upd (upd (upd (upd (upd (upd (upd (upd (upd (upd (upd (upd (upd (upd (fun _ => 0) 1 (10 : Int32)) 2 (40 : Int32)) 3 (1000 : Int32)) 5 (5 : Int32)) 7 (10 : Int32)) 8 (40 : Int32)) 9 (1000 : Int32)) 11 (5 : Int32)) 13 (10 : Int32)) 14 (40 : Int32)) 15 (1000 : Int32)) 17 (5 : Int32)) 19 (10 : Int32)) 20 (40 : Int32)) 21 (1000 : Int32)) 23 (5 : Int32))) := (hne3 4 (by decide)).trans (hw_4)
              refine tw_iald (r := 4) (j := 5) (v := (5 : Int32)) F hH rfl (by decide) hw43 (by decide) (by decide) rfl dX12_tyres_55 ?_
              refine lv_istore (lv' := [(4, .int (5 : Int32)), (0, .ref (ad 0)), (1, .int (0 : Int32)), (2, .int (5 : Int32)), (3, .int x3)]) hx hb dX12_tyres_56 hl (by decide) rfl (fun ls hl => ?_)
              refine lv_aload_n hx hb dX12_tyres_58 rfl (lv_at hl 1 rfl) ?_
              refine tw_get (r := 0) F hH kf_RX12_72 rfl (by decide) hw2 rfl dX12_tyres_59 ?_
              refine lv_bipush (v := 6) hx hb dX12_tyres_62 (by decide) ?_
              refine lv_iload_n hx hb dX12_tyres_64 rfl (lv_at hl 2 rfl) ?_
              refine lv_imul hx hb dX12_tyres_65 ?_
              refine tw_cv (v := (0 : Int32)) (by decide) ?_
              refine lv_iload_n hx hb dX12_tyres_66 rfl (lv_at hl 3 rfl) ?_
              refine lv_iadd hx hb dX12_tyres_67 ?_
              refine tw_cv (v := (5 : Int32)) (by decide) ?_
              refine lv_iload_n hx hb dX12_tyres_68 rfl (lv_at hl 4 rfl) ?_
              refine tw_iast (r := 4) (j := 5) F hH rfl (by decide) hw43 (by decide) (by decide) dX12_tyres_69 (fun H locs w44 hw45 hne46 hH => ?_)
              refine lv_iload hx hb dX12_tyres_70 (lv_at hl 0 rfl) ?_
              exact tw_iret F hH hret hlk rfl (Nat.le_of_ble_eq_true rfl) (Nat.le_of_ble_eq_true rfl) dX12_tyres_72 (Or.inr (Or.inr (Or.inr (Or.inl (⟨rfl, (Or.inl (by omega))⟩)))))
          · skip
            obtain rfl : (1 : Int32) = x1 := (Int32.toInt_inj.mp ((e1.trans hz33).trans (by decide : (1 : Int) = (1 : Int32).toInt))).symm
            refine lv_imul hx hb dX12_tyres_52 ?_
            refine tw_cv (v := (6 : Int32)) (by decide) ?_
            refine lv_iload_n hx hb dX12_tyres_53 rfl (lv_at hl 2 rfl) ?_
            rcases (by omega : z2 = 1 ∨ z2 = 4 ∨ z2 = 5) with hz47 | hz47 | hz47
            · skip
              obtain rfl : (1 : Int32) = x2 := (Int32.toInt_inj.mp ((e2.trans hz47).trans (by decide : (1 : Int) = (1 : Int32).toInt))).symm
              refine lv_iadd hx hb dX12_tyres_54 ?_
              refine tw_cv (v := (7 : Int32)) (by decide) ?_
              have hw48 : w1 4 = .inl (G.2.1 0, 24, .inl (upd (upd (upd (upd (upd (upd (upd (upd (upd (upd (upd (upd (upd (upd (upd (upd (fun _ => 0) 1 (10 : Int32)) 2 (40 : Int32)) 3 (1000 : Int32)) 5 (5 : Int32)) 7 (10 : Int32)) 8 (40 : Int32)) 9 (1000 : Int32)) 11 (5 : Int32)) 13 (10 : Int32)) 14 (40 : Int32)) 15 (1000 : Int32)) 17 (5 : Int32)) 19 (10 : Int32)) 20 (40 : Int32)) 21 (1000 : Int32)) 23 (5 : Int32))) := (hne3 4 (by decide)).trans (hw_4)
              refine tw_iald (r := 4) (j := 7) (v := (10 : Int32)) F hH rfl (by decide) hw48 (by decide) (by decide) rfl dX12_tyres_55 ?_
              refine lv_istore (lv' := [(4, .int (10 : Int32)), (0, .ref (ad 0)), (1, .int (1 : Int32)), (2, .int (1 : Int32)), (3, .int x3)]) hx hb dX12_tyres_56 hl (by decide) rfl (fun ls hl => ?_)
              refine lv_aload_n hx hb dX12_tyres_58 rfl (lv_at hl 1 rfl) ?_
              refine tw_get (r := 0) F hH kf_RX12_72 rfl (by decide) hw2 rfl dX12_tyres_59 ?_
              refine lv_bipush (v := 6) hx hb dX12_tyres_62 (by decide) ?_
              refine lv_iload_n hx hb dX12_tyres_64 rfl (lv_at hl 2 rfl) ?_
              refine lv_imul hx hb dX12_tyres_65 ?_
              refine tw_cv (v := (6 : Int32)) (by decide) ?_
              refine lv_iload_n hx hb dX12_tyres_66 rfl (lv_at hl 3 rfl) ?_
              refine lv_iadd hx hb dX12_tyres_67 ?_
              refine tw_cv (v := (7 : Int32)) (by decide) ?_
              refine lv_iload_n hx hb dX12_tyres_68 rfl (lv_at hl 4 rfl) ?_
              refine tw_iast (r := 4) (j := 7) F hH rfl (by decide) hw48 (by decide) (by decide) dX12_tyres_69 (fun H locs w49 hw50 hne51 hH => ?_)
              refine lv_iload hx hb dX12_tyres_70 (lv_at hl 0 rfl) ?_
              exact tw_iret F hH hret hlk rfl (Nat.le_of_ble_eq_true rfl) (Nat.le_of_ble_eq_true rfl) dX12_tyres_72 (Or.inr (Or.inl (⟨rfl, (Or.inr (Or.inl (by omega)))⟩)))
            · skip
              obtain rfl : (4 : Int32) = x2 := (Int32.toInt_inj.mp ((e2.trans hz47).trans (by decide : (4 : Int) = (4 : Int32).toInt))).symm
              refine lv_iadd hx hb dX12_tyres_54 ?_
              refine tw_cv (v := (10 : Int32)) (by decide) ?_
              have hw52 : w1 4 = .inl (G.2.1 0, 24, .inl (upd (upd (upd (upd (upd (upd (upd (upd (upd (upd (upd (upd (upd (upd (upd (upd (fun _ => 0) 1 (10 : Int32)) 2 (40 : Int32)) 3 (1000 : Int32)) 5 (5 : Int32)) 7 (10 : Int32)) 8 (40 : Int32)) 9 (1000 : Int32)) 11 (5 : Int32)) 13 (10 : Int32)) 14 (40 : Int32)) 15 (1000 : Int32)) 17 (5 : Int32)) 19 (10 : Int32)) 20 (40 : Int32)) 21 (1000 : Int32)) 23 (5 : Int32))) := (hne3 4 (by decide)).trans (hw_4)
              refine tw_iald (r := 4) (j := 10) (v := (0 : Int32)) F hH rfl (by decide) hw52 (by decide) (by decide) rfl dX12_tyres_55 ?_
              refine lv_istore (lv' := [(4, .int (0 : Int32)), (0, .ref (ad 0)), (1, .int (1 : Int32)), (2, .int (4 : Int32)), (3, .int x3)]) hx hb dX12_tyres_56 hl (by decide) rfl (fun ls hl => ?_)
              refine lv_aload_n hx hb dX12_tyres_58 rfl (lv_at hl 1 rfl) ?_
              refine tw_get (r := 0) F hH kf_RX12_72 rfl (by decide) hw2 rfl dX12_tyres_59 ?_
              refine lv_bipush (v := 6) hx hb dX12_tyres_62 (by decide) ?_
              refine lv_iload_n hx hb dX12_tyres_64 rfl (lv_at hl 2 rfl) ?_
              refine lv_imul hx hb dX12_tyres_65 ?_
              refine tw_cv (v := (6 : Int32)) (by decide) ?_
              refine lv_iload_n hx hb dX12_tyres_66 rfl (lv_at hl 3 rfl) ?_
              refine lv_iadd hx hb dX12_tyres_67 ?_
              refine tw_cv (v := (10 : Int32)) (by decide) ?_
              refine lv_iload_n hx hb dX12_tyres_68 rfl (lv_at hl 4 rfl) ?_
              refine tw_iast (r := 4) (j := 10) F hH rfl (by decide) hw52 (by decide) (by decide) dX12_tyres_69 (fun H locs w53 hw54 hne55 hH => ?_)
              refine lv_iload hx hb dX12_tyres_70 (lv_at hl 0 rfl) ?_
              exact tw_iret F hH hret hlk rfl (Nat.le_of_ble_eq_true rfl) (Nat.le_of_ble_eq_true rfl) dX12_tyres_72 (Or.inr (Or.inr (Or.inl (⟨rfl, (Or.inr (Or.inl (by omega)))⟩))))
            · skip
              obtain rfl : (5 : Int32) = x2 := (Int32.toInt_inj.mp ((e2.trans hz47).trans (by decide : (5 : Int) = (5 : Int32).toInt))).symm
              refine lv_iadd hx hb dX12_tyres_54 ?_
              refine tw_cv (v := (11 : Int32)) (by decide) ?_
              have hw56 : w1 4 = .inl (G.2.1 0, 24, .inl (upd (upd (upd (upd (upd (upd (upd (upd (upd (upd (upd (upd (upd (upd (upd (upd (fun _ => 0) 1 (10 : Int32)) 2 (40 : Int32)) 3 (1000 : Int32)) 5 (5 : Int32)) 7 (10 : Int32)) 8 (40 : Int32)) 9 (1000 : Int32)) 11 (5 : Int32)) 13 (10 : Int32)) 14 (40 : Int32)) 15 (1000 : Int32)) 17 (5 : Int32)) 19 (10 : Int32)) 20 (40 : Int32)) 21 (1000 : Int32)) 23 (5 : Int32))) := (hne3 4 (by decide)).trans (hw_4)
              refine tw_iald (r := 4) (j := 11) (v := (5 : Int32)) F hH rfl (by decide) hw56 (by decide) (by decide) rfl dX12_tyres_55 ?_
              refine lv_istore (lv' := [(4, .int (5 : Int32)), (0, .ref (ad 0)), (1, .int (1 : Int32)), (2, .int (5 : Int32)), (3, .int x3)]) hx hb dX12_tyres_56 hl (by decide) rfl (fun ls hl => ?_)
              refine lv_aload_n hx hb dX12_tyres_58 rfl (lv_at hl 1 rfl) ?_
              refine tw_get (r := 0) F hH kf_RX12_72 rfl (by decide) hw2 rfl dX12_tyres_59 ?_
              refine lv_bipush (v := 6) hx hb dX12_tyres_62 (by decide) ?_
              refine lv_iload_n hx hb dX12_tyres_64 rfl (lv_at hl 2 rfl) ?_
              refine lv_imul hx hb dX12_tyres_65 ?_
              refine tw_cv (v := (6 : Int32)) (by decide) ?_
              refine lv_iload_n hx hb dX12_tyres_66 rfl (lv_at hl 3 rfl) ?_
              refine lv_iadd hx hb dX12_tyres_67 ?_
              refine tw_cv (v := (11 : Int32)) (by decide) ?_
              refine lv_iload_n hx hb dX12_tyres_68 rfl (lv_at hl 4 rfl) ?_
              refine tw_iast (r := 4) (j := 11) F hH rfl (by decide) hw56 (by decide) (by decide) dX12_tyres_69 (fun H locs w57 hw58 hne59 hH => ?_)
              refine lv_iload hx hb dX12_tyres_70 (lv_at hl 0 rfl) ?_
              exact tw_iret F hH hret hlk rfl (Nat.le_of_ble_eq_true rfl) (Nat.le_of_ble_eq_true rfl) dX12_tyres_72 (Or.inr (Or.inr (Or.inr (Or.inl (⟨rfl, (Or.inr (Or.inl (by omega)))⟩)))))
          · skip
            obtain rfl : (2 : Int32) = x1 := (Int32.toInt_inj.mp ((e1.trans hz33).trans (by decide : (2 : Int) = (2 : Int32).toInt))).symm
            refine lv_imul hx hb dX12_tyres_52 ?_
            refine tw_cv (v := (12 : Int32)) (by decide) ?_
            refine lv_iload_n hx hb dX12_tyres_53 rfl (lv_at hl 2 rfl) ?_
            rcases (by omega : z2 = 1 ∨ z2 = 4 ∨ z2 = 5) with hz60 | hz60 | hz60
            · skip
              obtain rfl : (1 : Int32) = x2 := (Int32.toInt_inj.mp ((e2.trans hz60).trans (by decide : (1 : Int) = (1 : Int32).toInt))).symm
              refine lv_iadd hx hb dX12_tyres_54 ?_
              refine tw_cv (v := (13 : Int32)) (by decide) ?_
              have hw61 : w1 4 = .inl (G.2.1 0, 24, .inl (upd (upd (upd (upd (upd (upd (upd (upd (upd (upd (upd (upd (upd (upd (upd (upd (fun _ => 0) 1 (10 : Int32)) 2 (40 : Int32)) 3 (1000 : Int32)) 5 (5 : Int32)) 7 (10 : Int32)) 8 (40 : Int32)) 9 (1000 : Int32)) 11 (5 : Int32)) 13 (10 : Int32)) 14 (40 : Int32)) 15 (1000 : Int32)) 17 (5 : Int32)) 19 (10 : Int32)) 20 (40 : Int32)) 21 (1000 : Int32)) 23 (5 : Int32))) := (hne3 4 (by decide)).trans (hw_4)
              refine tw_iald (r := 4) (j := 13) (v := (10 : Int32)) F hH rfl (by decide) hw61 (by decide) (by decide) rfl dX12_tyres_55 ?_
              refine lv_istore (lv' := [(4, .int (10 : Int32)), (0, .ref (ad 0)), (1, .int (2 : Int32)), (2, .int (1 : Int32)), (3, .int x3)]) hx hb dX12_tyres_56 hl (by decide) rfl (fun ls hl => ?_)
              refine lv_aload_n hx hb dX12_tyres_58 rfl (lv_at hl 1 rfl) ?_
              refine tw_get (r := 0) F hH kf_RX12_72 rfl (by decide) hw2 rfl dX12_tyres_59 ?_
              refine lv_bipush (v := 6) hx hb dX12_tyres_62 (by decide) ?_
              refine lv_iload_n hx hb dX12_tyres_64 rfl (lv_at hl 2 rfl) ?_
              refine lv_imul hx hb dX12_tyres_65 ?_
              refine tw_cv (v := (12 : Int32)) (by decide) ?_
              refine lv_iload_n hx hb dX12_tyres_66 rfl (lv_at hl 3 rfl) ?_
              refine lv_iadd hx hb dX12_tyres_67 ?_
              refine tw_cv (v := (13 : Int32)) (by decide) ?_
              refine lv_iload_n hx hb dX12_tyres_68 rfl (lv_at hl 4 rfl) ?_
              refine tw_iast (r := 4) (j := 13) F hH rfl (by decide) hw61 (by decide) (by decide) dX12_tyres_69 (fun H locs w62 hw63 hne64 hH => ?_)
              refine lv_iload hx hb dX12_tyres_70 (lv_at hl 0 rfl) ?_
              exact tw_iret F hH hret hlk rfl (Nat.le_of_ble_eq_true rfl) (Nat.le_of_ble_eq_true rfl) dX12_tyres_72 (Or.inr (Or.inl (⟨rfl, (Or.inr (Or.inr (Or.inl (by omega))))⟩)))
            · skip
              obtain rfl : (4 : Int32) = x2 := (Int32.toInt_inj.mp ((e2.trans hz60).trans (by decide : (4 : Int) = (4 : Int32).toInt))).symm
              refine lv_iadd hx hb dX12_tyres_54 ?_
              refine tw_cv (v := (16 : Int32)) (by decide) ?_
              have hw65 : w1 4 = .inl (G.2.1 0, 24, .inl (upd (upd (upd (upd (upd (upd (upd (upd (upd (upd (upd (upd (upd (upd (upd (upd (fun _ => 0) 1 (10 : Int32)) 2 (40 : Int32)) 3 (1000 : Int32)) 5 (5 : Int32)) 7 (10 : Int32)) 8 (40 : Int32)) 9 (1000 : Int32)) 11 (5 : Int32)) 13 (10 : Int32)) 14 (40 : Int32)) 15 (1000 : Int32)) 17 (5 : Int32)) 19 (10 : Int32)) 20 (40 : Int32)) 21 (1000 : Int32)) 23 (5 : Int32))) := (hne3 4 (by decide)).trans (hw_4)
              refine tw_iald (r := 4) (j := 16) (v := (0 : Int32)) F hH rfl (by decide) hw65 (by decide) (by decide) rfl dX12_tyres_55 ?_
              refine lv_istore (lv' := [(4, .int (0 : Int32)), (0, .ref (ad 0)), (1, .int (2 : Int32)), (2, .int (4 : Int32)), (3, .int x3)]) hx hb dX12_tyres_56 hl (by decide) rfl (fun ls hl => ?_)
              refine lv_aload_n hx hb dX12_tyres_58 rfl (lv_at hl 1 rfl) ?_
              refine tw_get (r := 0) F hH kf_RX12_72 rfl (by decide) hw2 rfl dX12_tyres_59 ?_
              refine lv_bipush (v := 6) hx hb dX12_tyres_62 (by decide) ?_
              refine lv_iload_n hx hb dX12_tyres_64 rfl (lv_at hl 2 rfl) ?_
              refine lv_imul hx hb dX12_tyres_65 ?_
              refine tw_cv (v := (12 : Int32)) (by decide) ?_
              refine lv_iload_n hx hb dX12_tyres_66 rfl (lv_at hl 3 rfl) ?_
              refine lv_iadd hx hb dX12_tyres_67 ?_
              refine tw_cv (v := (16 : Int32)) (by decide) ?_
              refine lv_iload_n hx hb dX12_tyres_68 rfl (lv_at hl 4 rfl) ?_
              refine tw_iast (r := 4) (j := 16) F hH rfl (by decide) hw65 (by decide) (by decide) dX12_tyres_69 (fun H locs w66 hw67 hne68 hH => ?_)
              refine lv_iload hx hb dX12_tyres_70 (lv_at hl 0 rfl) ?_
              exact tw_iret F hH hret hlk rfl (Nat.le_of_ble_eq_true rfl) (Nat.le_of_ble_eq_true rfl) dX12_tyres_72 (Or.inr (Or.inr (Or.inl (⟨rfl, (Or.inr (Or.inr (Or.inl (by omega))))⟩))))
            · skip
              obtain rfl : (5 : Int32) = x2 := (Int32.toInt_inj.mp ((e2.trans hz60).trans (by decide : (5 : Int) = (5 : Int32).toInt))).symm
              refine lv_iadd hx hb dX12_tyres_54 ?_
              refine tw_cv (v := (17 : Int32)) (by decide) ?_
              have hw69 : w1 4 = .inl (G.2.1 0, 24, .inl (upd (upd (upd (upd (upd (upd (upd (upd (upd (upd (upd (upd (upd (upd (upd (upd (fun _ => 0) 1 (10 : Int32)) 2 (40 : Int32)) 3 (1000 : Int32)) 5 (5 : Int32)) 7 (10 : Int32)) 8 (40 : Int32)) 9 (1000 : Int32)) 11 (5 : Int32)) 13 (10 : Int32)) 14 (40 : Int32)) 15 (1000 : Int32)) 17 (5 : Int32)) 19 (10 : Int32)) 20 (40 : Int32)) 21 (1000 : Int32)) 23 (5 : Int32))) := (hne3 4 (by decide)).trans (hw_4)
              refine tw_iald (r := 4) (j := 17) (v := (5 : Int32)) F hH rfl (by decide) hw69 (by decide) (by decide) rfl dX12_tyres_55 ?_
              refine lv_istore (lv' := [(4, .int (5 : Int32)), (0, .ref (ad 0)), (1, .int (2 : Int32)), (2, .int (5 : Int32)), (3, .int x3)]) hx hb dX12_tyres_56 hl (by decide) rfl (fun ls hl => ?_)
              refine lv_aload_n hx hb dX12_tyres_58 rfl (lv_at hl 1 rfl) ?_
              refine tw_get (r := 0) F hH kf_RX12_72 rfl (by decide) hw2 rfl dX12_tyres_59 ?_
              refine lv_bipush (v := 6) hx hb dX12_tyres_62 (by decide) ?_
              refine lv_iload_n hx hb dX12_tyres_64 rfl (lv_at hl 2 rfl) ?_
              refine lv_imul hx hb dX12_tyres_65 ?_
              refine tw_cv (v := (12 : Int32)) (by decide) ?_
              refine lv_iload_n hx hb dX12_tyres_66 rfl (lv_at hl 3 rfl) ?_
              refine lv_iadd hx hb dX12_tyres_67 ?_
              refine tw_cv (v := (17 : Int32)) (by decide) ?_
              refine lv_iload_n hx hb dX12_tyres_68 rfl (lv_at hl 4 rfl) ?_
              refine tw_iast (r := 4) (j := 17) F hH rfl (by decide) hw69 (by decide) (by decide) dX12_tyres_69 (fun H locs w70 hw71 hne72 hH => ?_)
              refine lv_iload hx hb dX12_tyres_70 (lv_at hl 0 rfl) ?_
              exact tw_iret F hH hret hlk rfl (Nat.le_of_ble_eq_true rfl) (Nat.le_of_ble_eq_true rfl) dX12_tyres_72 (Or.inr (Or.inr (Or.inr (Or.inl (⟨rfl, (Or.inr (Or.inr (Or.inl (by omega))))⟩)))))
          · skip
            obtain rfl : (3 : Int32) = x1 := (Int32.toInt_inj.mp ((e1.trans hz33).trans (by decide : (3 : Int) = (3 : Int32).toInt))).symm
            refine lv_imul hx hb dX12_tyres_52 ?_
            refine tw_cv (v := (18 : Int32)) (by decide) ?_
            refine lv_iload_n hx hb dX12_tyres_53 rfl (lv_at hl 2 rfl) ?_
            rcases (by omega : z2 = 1 ∨ z2 = 4 ∨ z2 = 5) with hz73 | hz73 | hz73
            · skip
              obtain rfl : (1 : Int32) = x2 := (Int32.toInt_inj.mp ((e2.trans hz73).trans (by decide : (1 : Int) = (1 : Int32).toInt))).symm
              refine lv_iadd hx hb dX12_tyres_54 ?_
              refine tw_cv (v := (19 : Int32)) (by decide) ?_
              have hw74 : w1 4 = .inl (G.2.1 0, 24, .inl (upd (upd (upd (upd (upd (upd (upd (upd (upd (upd (upd (upd (upd (upd (upd (upd (fun _ => 0) 1 (10 : Int32)) 2 (40 : Int32)) 3 (1000 : Int32)) 5 (5 : Int32)) 7 (10 : Int32)) 8 (40 : Int32)) 9 (1000 : Int32)) 11 (5 : Int32)) 13 (10 : Int32)) 14 (40 : Int32)) 15 (1000 : Int32)) 17 (5 : Int32)) 19 (10 : Int32)) 20 (40 : Int32)) 21 (1000 : Int32)) 23 (5 : Int32))) := (hne3 4 (by decide)).trans (hw_4)
              refine tw_iald (r := 4) (j := 19) (v := (10 : Int32)) F hH rfl (by decide) hw74 (by decide) (by decide) rfl dX12_tyres_55 ?_
              refine lv_istore (lv' := [(4, .int (10 : Int32)), (0, .ref (ad 0)), (1, .int (3 : Int32)), (2, .int (1 : Int32)), (3, .int x3)]) hx hb dX12_tyres_56 hl (by decide) rfl (fun ls hl => ?_)
              refine lv_aload_n hx hb dX12_tyres_58 rfl (lv_at hl 1 rfl) ?_
              refine tw_get (r := 0) F hH kf_RX12_72 rfl (by decide) hw2 rfl dX12_tyres_59 ?_
              refine lv_bipush (v := 6) hx hb dX12_tyres_62 (by decide) ?_
              refine lv_iload_n hx hb dX12_tyres_64 rfl (lv_at hl 2 rfl) ?_
              refine lv_imul hx hb dX12_tyres_65 ?_
              refine tw_cv (v := (18 : Int32)) (by decide) ?_
              refine lv_iload_n hx hb dX12_tyres_66 rfl (lv_at hl 3 rfl) ?_
              refine lv_iadd hx hb dX12_tyres_67 ?_
              refine tw_cv (v := (19 : Int32)) (by decide) ?_
              refine lv_iload_n hx hb dX12_tyres_68 rfl (lv_at hl 4 rfl) ?_
              refine tw_iast (r := 4) (j := 19) F hH rfl (by decide) hw74 (by decide) (by decide) dX12_tyres_69 (fun H locs w75 hw76 hne77 hH => ?_)
              refine lv_iload hx hb dX12_tyres_70 (lv_at hl 0 rfl) ?_
              exact tw_iret F hH hret hlk rfl (Nat.le_of_ble_eq_true rfl) (Nat.le_of_ble_eq_true rfl) dX12_tyres_72 (Or.inr (Or.inl (⟨rfl, (Or.inr (Or.inr (Or.inr (by omega))))⟩)))
            · skip
              obtain rfl : (4 : Int32) = x2 := (Int32.toInt_inj.mp ((e2.trans hz73).trans (by decide : (4 : Int) = (4 : Int32).toInt))).symm
              refine lv_iadd hx hb dX12_tyres_54 ?_
              refine tw_cv (v := (22 : Int32)) (by decide) ?_
              have hw78 : w1 4 = .inl (G.2.1 0, 24, .inl (upd (upd (upd (upd (upd (upd (upd (upd (upd (upd (upd (upd (upd (upd (upd (upd (fun _ => 0) 1 (10 : Int32)) 2 (40 : Int32)) 3 (1000 : Int32)) 5 (5 : Int32)) 7 (10 : Int32)) 8 (40 : Int32)) 9 (1000 : Int32)) 11 (5 : Int32)) 13 (10 : Int32)) 14 (40 : Int32)) 15 (1000 : Int32)) 17 (5 : Int32)) 19 (10 : Int32)) 20 (40 : Int32)) 21 (1000 : Int32)) 23 (5 : Int32))) := (hne3 4 (by decide)).trans (hw_4)
              refine tw_iald (r := 4) (j := 22) (v := (0 : Int32)) F hH rfl (by decide) hw78 (by decide) (by decide) rfl dX12_tyres_55 ?_
              refine lv_istore (lv' := [(4, .int (0 : Int32)), (0, .ref (ad 0)), (1, .int (3 : Int32)), (2, .int (4 : Int32)), (3, .int x3)]) hx hb dX12_tyres_56 hl (by decide) rfl (fun ls hl => ?_)
              refine lv_aload_n hx hb dX12_tyres_58 rfl (lv_at hl 1 rfl) ?_
              refine tw_get (r := 0) F hH kf_RX12_72 rfl (by decide) hw2 rfl dX12_tyres_59 ?_
              refine lv_bipush (v := 6) hx hb dX12_tyres_62 (by decide) ?_
              refine lv_iload_n hx hb dX12_tyres_64 rfl (lv_at hl 2 rfl) ?_
              refine lv_imul hx hb dX12_tyres_65 ?_
              refine tw_cv (v := (18 : Int32)) (by decide) ?_
              refine lv_iload_n hx hb dX12_tyres_66 rfl (lv_at hl 3 rfl) ?_
              refine lv_iadd hx hb dX12_tyres_67 ?_
              refine tw_cv (v := (22 : Int32)) (by decide) ?_
              refine lv_iload_n hx hb dX12_tyres_68 rfl (lv_at hl 4 rfl) ?_
              refine tw_iast (r := 4) (j := 22) F hH rfl (by decide) hw78 (by decide) (by decide) dX12_tyres_69 (fun H locs w79 hw80 hne81 hH => ?_)
              refine lv_iload hx hb dX12_tyres_70 (lv_at hl 0 rfl) ?_
              exact tw_iret F hH hret hlk rfl (Nat.le_of_ble_eq_true rfl) (Nat.le_of_ble_eq_true rfl) dX12_tyres_72 (Or.inr (Or.inr (Or.inl (⟨rfl, (Or.inr (Or.inr (Or.inr (Or.inl (by omega)))))⟩))))
            · skip
              obtain rfl : (5 : Int32) = x2 := (Int32.toInt_inj.mp ((e2.trans hz73).trans (by decide : (5 : Int) = (5 : Int32).toInt))).symm
              refine lv_iadd hx hb dX12_tyres_54 ?_
              refine tw_cv (v := (23 : Int32)) (by decide) ?_
              have hw82 : w1 4 = .inl (G.2.1 0, 24, .inl (upd (upd (upd (upd (upd (upd (upd (upd (upd (upd (upd (upd (upd (upd (upd (upd (fun _ => 0) 1 (10 : Int32)) 2 (40 : Int32)) 3 (1000 : Int32)) 5 (5 : Int32)) 7 (10 : Int32)) 8 (40 : Int32)) 9 (1000 : Int32)) 11 (5 : Int32)) 13 (10 : Int32)) 14 (40 : Int32)) 15 (1000 : Int32)) 17 (5 : Int32)) 19 (10 : Int32)) 20 (40 : Int32)) 21 (1000 : Int32)) 23 (5 : Int32))) := (hne3 4 (by decide)).trans (hw_4)
              refine tw_iald (r := 4) (j := 23) (v := (5 : Int32)) F hH rfl (by decide) hw82 (by decide) (by decide) rfl dX12_tyres_55 ?_
              refine lv_istore (lv' := [(4, .int (5 : Int32)), (0, .ref (ad 0)), (1, .int (3 : Int32)), (2, .int (5 : Int32)), (3, .int x3)]) hx hb dX12_tyres_56 hl (by decide) rfl (fun ls hl => ?_)
              refine lv_aload_n hx hb dX12_tyres_58 rfl (lv_at hl 1 rfl) ?_
              refine tw_get (r := 0) F hH kf_RX12_72 rfl (by decide) hw2 rfl dX12_tyres_59 ?_
              refine lv_bipush (v := 6) hx hb dX12_tyres_62 (by decide) ?_
              refine lv_iload_n hx hb dX12_tyres_64 rfl (lv_at hl 2 rfl) ?_
              refine lv_imul hx hb dX12_tyres_65 ?_
              refine tw_cv (v := (18 : Int32)) (by decide) ?_
              refine lv_iload_n hx hb dX12_tyres_66 rfl (lv_at hl 3 rfl) ?_
              refine lv_iadd hx hb dX12_tyres_67 ?_
              refine tw_cv (v := (23 : Int32)) (by decide) ?_
              refine lv_iload_n hx hb dX12_tyres_68 rfl (lv_at hl 4 rfl) ?_
              refine tw_iast (r := 4) (j := 23) F hH rfl (by decide) hw82 (by decide) (by decide) dX12_tyres_69 (fun H locs w83 hw84 hne85 hH => ?_)
              refine lv_iload hx hb dX12_tyres_70 (lv_at hl 0 rfl) ?_
              exact tw_iret F hH hret hlk rfl (Nat.le_of_ble_eq_true rfl) (Nat.le_of_ble_eq_true rfl) dX12_tyres_72 (Or.inr (Or.inr (Or.inr (Or.inl (⟨rfl, (Or.inr (Or.inr (Or.inr (by omega))))⟩)))))
      · skip
        refine lv_i2l (v := (5000 : Int32).toInt64) hx hb dX12_tyres_36 rfl ?_
        have el85 : ((5000 : Int32)).toInt64.toInt = 5000 := by decide
        refine tw_calli F hH (tw_runS (As := [.long x3.toInt64, .long (0 : Int64), .long ((5000 : Int32).toInt64)]) (rest := []) F hH (c_X12_in l G 80 ad w1 H.size x3.toInt64 (z3) ((tw_wide _).trans e3) (0 : Int64) 0 (by decide : (0 : Int64).toInt = 0) ((5000 : Int32).toInt64) 5000 el85) (tw_gl kw_1351 rfl) km_X12_in (tw_gl kw_1352 rfl) rfl rfl ⟨(Nat.le_of_ble_eq_true rfl), (Nat.le_of_ble_eq_true rfl)⟩ rfl hl.1 rfl (Nat.le_of_ble_eq_true rfl) dX12_tyres_37 ⟨(Nat.le_of_ble_eq_true rfl), (Nat.le_of_ble_eq_true rfl)⟩) (fun r89 w87 H locs hp88 _ hH => ?_)
        rcases hp88 with ⟨rfl, hc90, rfl⟩ | ⟨rfl, hc91, rfl⟩
        · skip
          refine lv_if_ne (tgt := 45) hx hb dX12_tyres_40 (by decide) (fun c => absurd c (by decide)) (fun _ => ?_)
          refine lv_iconst (v := -1) hx hb dX12_tyres_43 (by decide) ?_
          exact tw_iret F hH hret hlk rfl (Nat.le_of_ble_eq_true rfl) (Nat.le_of_ble_eq_true rfl) dX12_tyres_44 (Or.inl (⟨rfl, (Or.inr (Or.inr (Or.inr (Or.inl (by omega)))))⟩))
        · skip
          refine lv_if_ne (tgt := 45) hx hb dX12_tyres_40 (by decide) (fun _ => ?_) (fun c => absurd c (by decide))
          refine lv_aload_n hx hb dX12_tyres_45 rfl (lv_at hl 0 rfl) ?_
          refine tw_get (r := 0) F hH kf_RX12_72 rfl (by decide) hw2 rfl dX12_tyres_46 ?_
          refine lv_bipush (v := 6) hx hb dX12_tyres_49 (by decide) ?_
          refine lv_iload_n hx hb dX12_tyres_51 rfl (lv_at hl 1 rfl) ?_
          rcases (by omega : z1 = 0 ∨ z1 = 1 ∨ z1 = 2 ∨ z1 = 3) with hz94 | hz94 | hz94 | hz94
          · skip
            obtain rfl : (0 : Int32) = x1 := (Int32.toInt_inj.mp ((e1.trans hz94).trans (by decide : (0 : Int) = (0 : Int32).toInt))).symm
            refine lv_imul hx hb dX12_tyres_52 ?_
            refine tw_cv (v := (0 : Int32)) (by decide) ?_
            refine lv_iload_n hx hb dX12_tyres_53 rfl (lv_at hl 2 rfl) ?_
            have hz95 : z2 = 3 := by omega
            obtain rfl : (3 : Int32) = x2 := (Int32.toInt_inj.mp ((e2.trans hz95).trans (by decide : (3 : Int) = (3 : Int32).toInt))).symm
            refine lv_iadd hx hb dX12_tyres_54 ?_
            refine tw_cv (v := (3 : Int32)) (by decide) ?_
            have hw96 : w1 4 = .inl (G.2.1 0, 24, .inl (upd (upd (upd (upd (upd (upd (upd (upd (upd (upd (upd (upd (upd (upd (upd (upd (fun _ => 0) 1 (10 : Int32)) 2 (40 : Int32)) 3 (1000 : Int32)) 5 (5 : Int32)) 7 (10 : Int32)) 8 (40 : Int32)) 9 (1000 : Int32)) 11 (5 : Int32)) 13 (10 : Int32)) 14 (40 : Int32)) 15 (1000 : Int32)) 17 (5 : Int32)) 19 (10 : Int32)) 20 (40 : Int32)) 21 (1000 : Int32)) 23 (5 : Int32))) := (hne3 4 (by decide)).trans (hw_4)
            refine tw_iald (r := 4) (j := 3) (v := (1000 : Int32)) F hH rfl (by decide) hw96 (by decide) (by decide) rfl dX12_tyres_55 ?_
            refine lv_istore (lv' := [(4, .int (1000 : Int32)), (0, .ref (ad 0)), (1, .int (0 : Int32)), (2, .int (3 : Int32)), (3, .int x3)]) hx hb dX12_tyres_56 hl (by decide) rfl (fun ls hl => ?_)
            refine lv_aload_n hx hb dX12_tyres_58 rfl (lv_at hl 1 rfl) ?_
            refine tw_get (r := 0) F hH kf_RX12_72 rfl (by decide) hw2 rfl dX12_tyres_59 ?_
            refine lv_bipush (v := 6) hx hb dX12_tyres_62 (by decide) ?_
            refine lv_iload_n hx hb dX12_tyres_64 rfl (lv_at hl 2 rfl) ?_
            refine lv_imul hx hb dX12_tyres_65 ?_
            refine tw_cv (v := (0 : Int32)) (by decide) ?_
            refine lv_iload_n hx hb dX12_tyres_66 rfl (lv_at hl 3 rfl) ?_
            refine lv_iadd hx hb dX12_tyres_67 ?_
            refine tw_cv (v := (3 : Int32)) (by decide) ?_
            refine lv_iload_n hx hb dX12_tyres_68 rfl (lv_at hl 4 rfl) ?_
            refine tw_iast (r := 4) (j := 3) F hH rfl (by decide) hw96 (by decide) (by decide) dX12_tyres_69 (fun H locs w97 hw98 hne99 hH => ?_)
            refine lv_iload hx hb dX12_tyres_70 (lv_at hl 0 rfl) ?_
            exact tw_iret F hH hret hlk rfl (Nat.le_of_ble_eq_true rfl) (Nat.le_of_ble_eq_true rfl) dX12_tyres_72 (Or.inr (Or.inr (Or.inr (Or.inr (Or.inl (⟨rfl, (Or.inl (by omega))⟩))))))
          · skip
            obtain rfl : (1 : Int32) = x1 := (Int32.toInt_inj.mp ((e1.trans hz94).trans (by decide : (1 : Int) = (1 : Int32).toInt))).symm
            refine lv_imul hx hb dX12_tyres_52 ?_
            refine tw_cv (v := (6 : Int32)) (by decide) ?_
            refine lv_iload_n hx hb dX12_tyres_53 rfl (lv_at hl 2 rfl) ?_
            have hz100 : z2 = 3 := by omega
            obtain rfl : (3 : Int32) = x2 := (Int32.toInt_inj.mp ((e2.trans hz100).trans (by decide : (3 : Int) = (3 : Int32).toInt))).symm
            refine lv_iadd hx hb dX12_tyres_54 ?_
            refine tw_cv (v := (9 : Int32)) (by decide) ?_
            have hw101 : w1 4 = .inl (G.2.1 0, 24, .inl (upd (upd (upd (upd (upd (upd (upd (upd (upd (upd (upd (upd (upd (upd (upd (upd (fun _ => 0) 1 (10 : Int32)) 2 (40 : Int32)) 3 (1000 : Int32)) 5 (5 : Int32)) 7 (10 : Int32)) 8 (40 : Int32)) 9 (1000 : Int32)) 11 (5 : Int32)) 13 (10 : Int32)) 14 (40 : Int32)) 15 (1000 : Int32)) 17 (5 : Int32)) 19 (10 : Int32)) 20 (40 : Int32)) 21 (1000 : Int32)) 23 (5 : Int32))) := (hne3 4 (by decide)).trans (hw_4)
            refine tw_iald (r := 4) (j := 9) (v := (1000 : Int32)) F hH rfl (by decide) hw101 (by decide) (by decide) rfl dX12_tyres_55 ?_
            refine lv_istore (lv' := [(4, .int (1000 : Int32)), (0, .ref (ad 0)), (1, .int (1 : Int32)), (2, .int (3 : Int32)), (3, .int x3)]) hx hb dX12_tyres_56 hl (by decide) rfl (fun ls hl => ?_)
            refine lv_aload_n hx hb dX12_tyres_58 rfl (lv_at hl 1 rfl) ?_
            refine tw_get (r := 0) F hH kf_RX12_72 rfl (by decide) hw2 rfl dX12_tyres_59 ?_
            refine lv_bipush (v := 6) hx hb dX12_tyres_62 (by decide) ?_
            refine lv_iload_n hx hb dX12_tyres_64 rfl (lv_at hl 2 rfl) ?_
            refine lv_imul hx hb dX12_tyres_65 ?_
            refine tw_cv (v := (6 : Int32)) (by decide) ?_
            refine lv_iload_n hx hb dX12_tyres_66 rfl (lv_at hl 3 rfl) ?_
            refine lv_iadd hx hb dX12_tyres_67 ?_
            refine tw_cv (v := (9 : Int32)) (by decide) ?_
            refine lv_iload_n hx hb dX12_tyres_68 rfl (lv_at hl 4 rfl) ?_
            refine tw_iast (r := 4) (j := 9) F hH rfl (by decide) hw101 (by decide) (by decide) dX12_tyres_69 (fun H locs w102 hw103 hne104 hH => ?_)
            refine lv_iload hx hb dX12_tyres_70 (lv_at hl 0 rfl) ?_
            exact tw_iret F hH hret hlk rfl (Nat.le_of_ble_eq_true rfl) (Nat.le_of_ble_eq_true rfl) dX12_tyres_72 (Or.inr (Or.inr (Or.inr (Or.inr (Or.inl (⟨rfl, (Or.inr (Or.inl (by omega)))⟩))))))
          · skip
            obtain rfl : (2 : Int32) = x1 := (Int32.toInt_inj.mp ((e1.trans hz94).trans (by decide : (2 : Int) = (2 : Int32).toInt))).symm
            refine lv_imul hx hb dX12_tyres_52 ?_
            refine tw_cv (v := (12 : Int32)) (by decide) ?_
            refine lv_iload_n hx hb dX12_tyres_53 rfl (lv_at hl 2 rfl) ?_
            have hz105 : z2 = 3 := by omega
            obtain rfl : (3 : Int32) = x2 := (Int32.toInt_inj.mp ((e2.trans hz105).trans (by decide : (3 : Int) = (3 : Int32).toInt))).symm
            refine lv_iadd hx hb dX12_tyres_54 ?_
            refine tw_cv (v := (15 : Int32)) (by decide) ?_
            have hw106 : w1 4 = .inl (G.2.1 0, 24, .inl (upd (upd (upd (upd (upd (upd (upd (upd (upd (upd (upd (upd (upd (upd (upd (upd (fun _ => 0) 1 (10 : Int32)) 2 (40 : Int32)) 3 (1000 : Int32)) 5 (5 : Int32)) 7 (10 : Int32)) 8 (40 : Int32)) 9 (1000 : Int32)) 11 (5 : Int32)) 13 (10 : Int32)) 14 (40 : Int32)) 15 (1000 : Int32)) 17 (5 : Int32)) 19 (10 : Int32)) 20 (40 : Int32)) 21 (1000 : Int32)) 23 (5 : Int32))) := (hne3 4 (by decide)).trans (hw_4)
            refine tw_iald (r := 4) (j := 15) (v := (1000 : Int32)) F hH rfl (by decide) hw106 (by decide) (by decide) rfl dX12_tyres_55 ?_
            refine lv_istore (lv' := [(4, .int (1000 : Int32)), (0, .ref (ad 0)), (1, .int (2 : Int32)), (2, .int (3 : Int32)), (3, .int x3)]) hx hb dX12_tyres_56 hl (by decide) rfl (fun ls hl => ?_)
            refine lv_aload_n hx hb dX12_tyres_58 rfl (lv_at hl 1 rfl) ?_
            refine tw_get (r := 0) F hH kf_RX12_72 rfl (by decide) hw2 rfl dX12_tyres_59 ?_
            refine lv_bipush (v := 6) hx hb dX12_tyres_62 (by decide) ?_
            refine lv_iload_n hx hb dX12_tyres_64 rfl (lv_at hl 2 rfl) ?_
            refine lv_imul hx hb dX12_tyres_65 ?_
            refine tw_cv (v := (12 : Int32)) (by decide) ?_
            refine lv_iload_n hx hb dX12_tyres_66 rfl (lv_at hl 3 rfl) ?_
            refine lv_iadd hx hb dX12_tyres_67 ?_
            refine tw_cv (v := (15 : Int32)) (by decide) ?_
            refine lv_iload_n hx hb dX12_tyres_68 rfl (lv_at hl 4 rfl) ?_
            refine tw_iast (r := 4) (j := 15) F hH rfl (by decide) hw106 (by decide) (by decide) dX12_tyres_69 (fun H locs w107 hw108 hne109 hH => ?_)
            refine lv_iload hx hb dX12_tyres_70 (lv_at hl 0 rfl) ?_
            exact tw_iret F hH hret hlk rfl (Nat.le_of_ble_eq_true rfl) (Nat.le_of_ble_eq_true rfl) dX12_tyres_72 (Or.inr (Or.inr (Or.inr (Or.inr (Or.inl (⟨rfl, (Or.inr (Or.inr (Or.inl (by omega))))⟩))))))
          · skip
            obtain rfl : (3 : Int32) = x1 := (Int32.toInt_inj.mp ((e1.trans hz94).trans (by decide : (3 : Int) = (3 : Int32).toInt))).symm
            refine lv_imul hx hb dX12_tyres_52 ?_
            refine tw_cv (v := (18 : Int32)) (by decide) ?_
            refine lv_iload_n hx hb dX12_tyres_53 rfl (lv_at hl 2 rfl) ?_
            have hz110 : z2 = 3 := by omega
            obtain rfl : (3 : Int32) = x2 := (Int32.toInt_inj.mp ((e2.trans hz110).trans (by decide : (3 : Int) = (3 : Int32).toInt))).symm
            refine lv_iadd hx hb dX12_tyres_54 ?_
            refine tw_cv (v := (21 : Int32)) (by decide) ?_
            have hw111 : w1 4 = .inl (G.2.1 0, 24, .inl (upd (upd (upd (upd (upd (upd (upd (upd (upd (upd (upd (upd (upd (upd (upd (upd (fun _ => 0) 1 (10 : Int32)) 2 (40 : Int32)) 3 (1000 : Int32)) 5 (5 : Int32)) 7 (10 : Int32)) 8 (40 : Int32)) 9 (1000 : Int32)) 11 (5 : Int32)) 13 (10 : Int32)) 14 (40 : Int32)) 15 (1000 : Int32)) 17 (5 : Int32)) 19 (10 : Int32)) 20 (40 : Int32)) 21 (1000 : Int32)) 23 (5 : Int32))) := (hne3 4 (by decide)).trans (hw_4)
            refine tw_iald (r := 4) (j := 21) (v := (1000 : Int32)) F hH rfl (by decide) hw111 (by decide) (by decide) rfl dX12_tyres_55 ?_
            refine lv_istore (lv' := [(4, .int (1000 : Int32)), (0, .ref (ad 0)), (1, .int (3 : Int32)), (2, .int (3 : Int32)), (3, .int x3)]) hx hb dX12_tyres_56 hl (by decide) rfl (fun ls hl => ?_)
            refine lv_aload_n hx hb dX12_tyres_58 rfl (lv_at hl 1 rfl) ?_
            refine tw_get (r := 0) F hH kf_RX12_72 rfl (by decide) hw2 rfl dX12_tyres_59 ?_
            refine lv_bipush (v := 6) hx hb dX12_tyres_62 (by decide) ?_
            refine lv_iload_n hx hb dX12_tyres_64 rfl (lv_at hl 2 rfl) ?_
            refine lv_imul hx hb dX12_tyres_65 ?_
            refine tw_cv (v := (18 : Int32)) (by decide) ?_
            refine lv_iload_n hx hb dX12_tyres_66 rfl (lv_at hl 3 rfl) ?_
            refine lv_iadd hx hb dX12_tyres_67 ?_
            refine tw_cv (v := (21 : Int32)) (by decide) ?_
            refine lv_iload_n hx hb dX12_tyres_68 rfl (lv_at hl 4 rfl) ?_
            refine tw_iast (r := 4) (j := 21) F hH rfl (by decide) hw111 (by decide) (by decide) dX12_tyres_69 (fun H locs w112 hw113 hne114 hH => ?_)
            refine lv_iload hx hb dX12_tyres_70 (lv_at hl 0 rfl) ?_
            exact tw_iret F hH hret hlk rfl (Nat.le_of_ble_eq_true rfl) (Nat.le_of_ble_eq_true rfl) dX12_tyres_72 (Or.inr (Or.inr (Or.inr (Or.inr (Or.inl (⟨rfl, (Or.inr (Or.inr (Or.inr (by omega))))⟩))))))
      · skip
        refine lv_i2l (v := (200 : Int32).toInt64) hx hb dX12_tyres_36 rfl ?_
        have el114 : ((200 : Int32)).toInt64.toInt = 200 := by decide
        refine tw_calli F hH (tw_runS (As := [.long x3.toInt64, .long (0 : Int64), .long ((200 : Int32).toInt64)]) (rest := []) F hH (c_X12_in l G 80 ad w1 H.size x3.toInt64 (z3) ((tw_wide _).trans e3) (0 : Int64) 0 (by decide : (0 : Int64).toInt = 0) ((200 : Int32).toInt64) 200 el114) (tw_gl kw_1351 rfl) km_X12_in (tw_gl kw_1352 rfl) rfl rfl ⟨(Nat.le_of_ble_eq_true rfl), (Nat.le_of_ble_eq_true rfl)⟩ rfl hl.1 rfl (Nat.le_of_ble_eq_true rfl) dX12_tyres_37 ⟨(Nat.le_of_ble_eq_true rfl), (Nat.le_of_ble_eq_true rfl)⟩) (fun r118 w116 H locs hp117 _ hH => ?_)
        rcases hp117 with ⟨rfl, hc119, rfl⟩ | ⟨rfl, hc120, rfl⟩
        · skip
          refine lv_if_ne (tgt := 45) hx hb dX12_tyres_40 (by decide) (fun c => absurd c (by decide)) (fun _ => ?_)
          refine lv_iconst (v := -1) hx hb dX12_tyres_43 (by decide) ?_
          exact tw_iret F hH hret hlk rfl (Nat.le_of_ble_eq_true rfl) (Nat.le_of_ble_eq_true rfl) dX12_tyres_44 (Or.inl (⟨rfl, (Or.inr (Or.inr (Or.inr (Or.inr (Or.inl (by omega))))))⟩))
        · skip
          refine lv_if_ne (tgt := 45) hx hb dX12_tyres_40 (by decide) (fun _ => ?_) (fun c => absurd c (by decide))
          refine lv_aload_n hx hb dX12_tyres_45 rfl (lv_at hl 0 rfl) ?_
          refine tw_get (r := 0) F hH kf_RX12_72 rfl (by decide) hw2 rfl dX12_tyres_46 ?_
          refine lv_bipush (v := 6) hx hb dX12_tyres_49 (by decide) ?_
          refine lv_iload_n hx hb dX12_tyres_51 rfl (lv_at hl 1 rfl) ?_
          rcases (by omega : z1 = 0 ∨ z1 = 1 ∨ z1 = 2 ∨ z1 = 3) with hz123 | hz123 | hz123 | hz123
          · skip
            obtain rfl : (0 : Int32) = x1 := (Int32.toInt_inj.mp ((e1.trans hz123).trans (by decide : (0 : Int) = (0 : Int32).toInt))).symm
            refine lv_imul hx hb dX12_tyres_52 ?_
            refine tw_cv (v := (0 : Int32)) (by decide) ?_
            refine lv_iload_n hx hb dX12_tyres_53 rfl (lv_at hl 2 rfl) ?_
            have hz124 : z2 = 2 := by omega
            obtain rfl : (2 : Int32) = x2 := (Int32.toInt_inj.mp ((e2.trans hz124).trans (by decide : (2 : Int) = (2 : Int32).toInt))).symm
            refine lv_iadd hx hb dX12_tyres_54 ?_
            refine tw_cv (v := (2 : Int32)) (by decide) ?_
            have hw125 : w1 4 = .inl (G.2.1 0, 24, .inl (upd (upd (upd (upd (upd (upd (upd (upd (upd (upd (upd (upd (upd (upd (upd (upd (fun _ => 0) 1 (10 : Int32)) 2 (40 : Int32)) 3 (1000 : Int32)) 5 (5 : Int32)) 7 (10 : Int32)) 8 (40 : Int32)) 9 (1000 : Int32)) 11 (5 : Int32)) 13 (10 : Int32)) 14 (40 : Int32)) 15 (1000 : Int32)) 17 (5 : Int32)) 19 (10 : Int32)) 20 (40 : Int32)) 21 (1000 : Int32)) 23 (5 : Int32))) := (hne3 4 (by decide)).trans (hw_4)
            refine tw_iald (r := 4) (j := 2) (v := (40 : Int32)) F hH rfl (by decide) hw125 (by decide) (by decide) rfl dX12_tyres_55 ?_
            refine lv_istore (lv' := [(4, .int (40 : Int32)), (0, .ref (ad 0)), (1, .int (0 : Int32)), (2, .int (2 : Int32)), (3, .int x3)]) hx hb dX12_tyres_56 hl (by decide) rfl (fun ls hl => ?_)
            refine lv_aload_n hx hb dX12_tyres_58 rfl (lv_at hl 1 rfl) ?_
            refine tw_get (r := 0) F hH kf_RX12_72 rfl (by decide) hw2 rfl dX12_tyres_59 ?_
            refine lv_bipush (v := 6) hx hb dX12_tyres_62 (by decide) ?_
            refine lv_iload_n hx hb dX12_tyres_64 rfl (lv_at hl 2 rfl) ?_
            refine lv_imul hx hb dX12_tyres_65 ?_
            refine tw_cv (v := (0 : Int32)) (by decide) ?_
            refine lv_iload_n hx hb dX12_tyres_66 rfl (lv_at hl 3 rfl) ?_
            refine lv_iadd hx hb dX12_tyres_67 ?_
            refine tw_cv (v := (2 : Int32)) (by decide) ?_
            refine lv_iload_n hx hb dX12_tyres_68 rfl (lv_at hl 4 rfl) ?_
            refine tw_iast (r := 4) (j := 2) F hH rfl (by decide) hw125 (by decide) (by decide) dX12_tyres_69 (fun H locs w126 hw127 hne128 hH => ?_)
            refine lv_iload hx hb dX12_tyres_70 (lv_at hl 0 rfl) ?_
            exact tw_iret F hH hret hlk rfl (Nat.le_of_ble_eq_true rfl) (Nat.le_of_ble_eq_true rfl) dX12_tyres_72 (Or.inr (Or.inr (Or.inr (Or.inr (Or.inr (⟨rfl, (Or.inl (by omega))⟩))))))
          · skip
            obtain rfl : (1 : Int32) = x1 := (Int32.toInt_inj.mp ((e1.trans hz123).trans (by decide : (1 : Int) = (1 : Int32).toInt))).symm
            refine lv_imul hx hb dX12_tyres_52 ?_
            refine tw_cv (v := (6 : Int32)) (by decide) ?_
            refine lv_iload_n hx hb dX12_tyres_53 rfl (lv_at hl 2 rfl) ?_
            have hz129 : z2 = 2 := by omega
            obtain rfl : (2 : Int32) = x2 := (Int32.toInt_inj.mp ((e2.trans hz129).trans (by decide : (2 : Int) = (2 : Int32).toInt))).symm
            refine lv_iadd hx hb dX12_tyres_54 ?_
            refine tw_cv (v := (8 : Int32)) (by decide) ?_
            have hw130 : w1 4 = .inl (G.2.1 0, 24, .inl (upd (upd (upd (upd (upd (upd (upd (upd (upd (upd (upd (upd (upd (upd (upd (upd (fun _ => 0) 1 (10 : Int32)) 2 (40 : Int32)) 3 (1000 : Int32)) 5 (5 : Int32)) 7 (10 : Int32)) 8 (40 : Int32)) 9 (1000 : Int32)) 11 (5 : Int32)) 13 (10 : Int32)) 14 (40 : Int32)) 15 (1000 : Int32)) 17 (5 : Int32)) 19 (10 : Int32)) 20 (40 : Int32)) 21 (1000 : Int32)) 23 (5 : Int32))) := (hne3 4 (by decide)).trans (hw_4)
            refine tw_iald (r := 4) (j := 8) (v := (40 : Int32)) F hH rfl (by decide) hw130 (by decide) (by decide) rfl dX12_tyres_55 ?_
            refine lv_istore (lv' := [(4, .int (40 : Int32)), (0, .ref (ad 0)), (1, .int (1 : Int32)), (2, .int (2 : Int32)), (3, .int x3)]) hx hb dX12_tyres_56 hl (by decide) rfl (fun ls hl => ?_)
            refine lv_aload_n hx hb dX12_tyres_58 rfl (lv_at hl 1 rfl) ?_
            refine tw_get (r := 0) F hH kf_RX12_72 rfl (by decide) hw2 rfl dX12_tyres_59 ?_
            refine lv_bipush (v := 6) hx hb dX12_tyres_62 (by decide) ?_
            refine lv_iload_n hx hb dX12_tyres_64 rfl (lv_at hl 2 rfl) ?_
            refine lv_imul hx hb dX12_tyres_65 ?_
            refine tw_cv (v := (6 : Int32)) (by decide) ?_
            refine lv_iload_n hx hb dX12_tyres_66 rfl (lv_at hl 3 rfl) ?_
            refine lv_iadd hx hb dX12_tyres_67 ?_
            refine tw_cv (v := (8 : Int32)) (by decide) ?_
            refine lv_iload_n hx hb dX12_tyres_68 rfl (lv_at hl 4 rfl) ?_
            refine tw_iast (r := 4) (j := 8) F hH rfl (by decide) hw130 (by decide) (by decide) dX12_tyres_69 (fun H locs w131 hw132 hne133 hH => ?_)
            refine lv_iload hx hb dX12_tyres_70 (lv_at hl 0 rfl) ?_
            exact tw_iret F hH hret hlk rfl (Nat.le_of_ble_eq_true rfl) (Nat.le_of_ble_eq_true rfl) dX12_tyres_72 (Or.inr (Or.inr (Or.inr (Or.inr (Or.inr (⟨rfl, (Or.inr (Or.inl (by omega)))⟩))))))
          · skip
            obtain rfl : (2 : Int32) = x1 := (Int32.toInt_inj.mp ((e1.trans hz123).trans (by decide : (2 : Int) = (2 : Int32).toInt))).symm
            refine lv_imul hx hb dX12_tyres_52 ?_
            refine tw_cv (v := (12 : Int32)) (by decide) ?_
            refine lv_iload_n hx hb dX12_tyres_53 rfl (lv_at hl 2 rfl) ?_
            have hz134 : z2 = 2 := by omega
            obtain rfl : (2 : Int32) = x2 := (Int32.toInt_inj.mp ((e2.trans hz134).trans (by decide : (2 : Int) = (2 : Int32).toInt))).symm
            refine lv_iadd hx hb dX12_tyres_54 ?_
            refine tw_cv (v := (14 : Int32)) (by decide) ?_
            have hw135 : w1 4 = .inl (G.2.1 0, 24, .inl (upd (upd (upd (upd (upd (upd (upd (upd (upd (upd (upd (upd (upd (upd (upd (upd (fun _ => 0) 1 (10 : Int32)) 2 (40 : Int32)) 3 (1000 : Int32)) 5 (5 : Int32)) 7 (10 : Int32)) 8 (40 : Int32)) 9 (1000 : Int32)) 11 (5 : Int32)) 13 (10 : Int32)) 14 (40 : Int32)) 15 (1000 : Int32)) 17 (5 : Int32)) 19 (10 : Int32)) 20 (40 : Int32)) 21 (1000 : Int32)) 23 (5 : Int32))) := (hne3 4 (by decide)).trans (hw_4)
            refine tw_iald (r := 4) (j := 14) (v := (40 : Int32)) F hH rfl (by decide) hw135 (by decide) (by decide) rfl dX12_tyres_55 ?_
            refine lv_istore (lv' := [(4, .int (40 : Int32)), (0, .ref (ad 0)), (1, .int (2 : Int32)), (2, .int (2 : Int32)), (3, .int x3)]) hx hb dX12_tyres_56 hl (by decide) rfl (fun ls hl => ?_)
            refine lv_aload_n hx hb dX12_tyres_58 rfl (lv_at hl 1 rfl) ?_
            refine tw_get (r := 0) F hH kf_RX12_72 rfl (by decide) hw2 rfl dX12_tyres_59 ?_
            refine lv_bipush (v := 6) hx hb dX12_tyres_62 (by decide) ?_
            refine lv_iload_n hx hb dX12_tyres_64 rfl (lv_at hl 2 rfl) ?_
            refine lv_imul hx hb dX12_tyres_65 ?_
            refine tw_cv (v := (12 : Int32)) (by decide) ?_
            refine lv_iload_n hx hb dX12_tyres_66 rfl (lv_at hl 3 rfl) ?_
            refine lv_iadd hx hb dX12_tyres_67 ?_
            refine tw_cv (v := (14 : Int32)) (by decide) ?_
            refine lv_iload_n hx hb dX12_tyres_68 rfl (lv_at hl 4 rfl) ?_
            refine tw_iast (r := 4) (j := 14) F hH rfl (by decide) hw135 (by decide) (by decide) dX12_tyres_69 (fun H locs w136 hw137 hne138 hH => ?_)
            refine lv_iload hx hb dX12_tyres_70 (lv_at hl 0 rfl) ?_
            exact tw_iret F hH hret hlk rfl (Nat.le_of_ble_eq_true rfl) (Nat.le_of_ble_eq_true rfl) dX12_tyres_72 (Or.inr (Or.inr (Or.inr (Or.inr (Or.inr (⟨rfl, (Or.inr (Or.inr (Or.inl (by omega))))⟩))))))
          · skip
            obtain rfl : (3 : Int32) = x1 := (Int32.toInt_inj.mp ((e1.trans hz123).trans (by decide : (3 : Int) = (3 : Int32).toInt))).symm
            refine lv_imul hx hb dX12_tyres_52 ?_
            refine tw_cv (v := (18 : Int32)) (by decide) ?_
            refine lv_iload_n hx hb dX12_tyres_53 rfl (lv_at hl 2 rfl) ?_
            have hz139 : z2 = 2 := by omega
            obtain rfl : (2 : Int32) = x2 := (Int32.toInt_inj.mp ((e2.trans hz139).trans (by decide : (2 : Int) = (2 : Int32).toInt))).symm
            refine lv_iadd hx hb dX12_tyres_54 ?_
            refine tw_cv (v := (20 : Int32)) (by decide) ?_
            have hw140 : w1 4 = .inl (G.2.1 0, 24, .inl (upd (upd (upd (upd (upd (upd (upd (upd (upd (upd (upd (upd (upd (upd (upd (upd (fun _ => 0) 1 (10 : Int32)) 2 (40 : Int32)) 3 (1000 : Int32)) 5 (5 : Int32)) 7 (10 : Int32)) 8 (40 : Int32)) 9 (1000 : Int32)) 11 (5 : Int32)) 13 (10 : Int32)) 14 (40 : Int32)) 15 (1000 : Int32)) 17 (5 : Int32)) 19 (10 : Int32)) 20 (40 : Int32)) 21 (1000 : Int32)) 23 (5 : Int32))) := (hne3 4 (by decide)).trans (hw_4)
            refine tw_iald (r := 4) (j := 20) (v := (40 : Int32)) F hH rfl (by decide) hw140 (by decide) (by decide) rfl dX12_tyres_55 ?_
            refine lv_istore (lv' := [(4, .int (40 : Int32)), (0, .ref (ad 0)), (1, .int (3 : Int32)), (2, .int (2 : Int32)), (3, .int x3)]) hx hb dX12_tyres_56 hl (by decide) rfl (fun ls hl => ?_)
            refine lv_aload_n hx hb dX12_tyres_58 rfl (lv_at hl 1 rfl) ?_
            refine tw_get (r := 0) F hH kf_RX12_72 rfl (by decide) hw2 rfl dX12_tyres_59 ?_
            refine lv_bipush (v := 6) hx hb dX12_tyres_62 (by decide) ?_
            refine lv_iload_n hx hb dX12_tyres_64 rfl (lv_at hl 2 rfl) ?_
            refine lv_imul hx hb dX12_tyres_65 ?_
            refine tw_cv (v := (18 : Int32)) (by decide) ?_
            refine lv_iload_n hx hb dX12_tyres_66 rfl (lv_at hl 3 rfl) ?_
            refine lv_iadd hx hb dX12_tyres_67 ?_
            refine tw_cv (v := (20 : Int32)) (by decide) ?_
            refine lv_iload_n hx hb dX12_tyres_68 rfl (lv_at hl 4 rfl) ?_
            refine tw_iast (r := 4) (j := 20) F hH rfl (by decide) hw140 (by decide) (by decide) dX12_tyres_69 (fun H locs w141 hw142 hne143 hH => ?_)
            refine lv_iload hx hb dX12_tyres_70 (lv_at hl 0 rfl) ?_
            exact tw_iret F hH hret hlk rfl (Nat.le_of_ble_eq_true rfl) (Nat.le_of_ble_eq_true rfl) dX12_tyres_72 (Or.inr (Or.inr (Or.inr (Or.inr (Or.inr (⟨rfl, (Or.inr (Or.inr (Or.inr (by omega))))⟩))))))
      · skip
        refine lv_i2l (v := (3000 : Int32).toInt64) hx hb dX12_tyres_36 rfl ?_
        have el143 : ((3000 : Int32)).toInt64.toInt = 3000 := by decide
        refine tw_calli F hH (tw_runS (As := [.long x3.toInt64, .long (0 : Int64), .long ((3000 : Int32).toInt64)]) (rest := []) F hH (c_X12_in l G 80 ad w1 H.size x3.toInt64 (z3) ((tw_wide _).trans e3) (0 : Int64) 0 (by decide : (0 : Int64).toInt = 0) ((3000 : Int32).toInt64) 3000 el143) (tw_gl kw_1351 rfl) km_X12_in (tw_gl kw_1352 rfl) rfl rfl ⟨(Nat.le_of_ble_eq_true rfl), (Nat.le_of_ble_eq_true rfl)⟩ rfl hl.1 rfl (Nat.le_of_ble_eq_true rfl) dX12_tyres_37 ⟨(Nat.le_of_ble_eq_true rfl), (Nat.le_of_ble_eq_true rfl)⟩) (fun r147 w145 H locs hp146 _ hH => ?_)
        rcases hp146 with ⟨rfl, hc148, rfl⟩ | ⟨rfl, hc149, rfl⟩
        · skip
          refine lv_if_ne (tgt := 45) hx hb dX12_tyres_40 (by decide) (fun c => absurd c (by decide)) (fun _ => ?_)
          refine lv_iconst (v := -1) hx hb dX12_tyres_43 (by decide) ?_
          exact tw_iret F hH hret hlk rfl (Nat.le_of_ble_eq_true rfl) (Nat.le_of_ble_eq_true rfl) dX12_tyres_44 (Or.inl (⟨rfl, (Or.inr (Or.inr (Or.inr (Or.inr (Or.inr (by omega))))))⟩))
        · skip
          refine lv_if_ne (tgt := 45) hx hb dX12_tyres_40 (by decide) (fun _ => ?_) (fun c => absurd c (by decide))
          refine lv_aload_n hx hb dX12_tyres_45 rfl (lv_at hl 0 rfl) ?_
          refine tw_get (r := 0) F hH kf_RX12_72 rfl (by decide) hw2 rfl dX12_tyres_46 ?_
          refine lv_bipush (v := 6) hx hb dX12_tyres_49 (by decide) ?_
          refine lv_iload_n hx hb dX12_tyres_51 rfl (lv_at hl 1 rfl) ?_
          rcases (by omega : z1 = 0 ∨ z1 = 1 ∨ z1 = 2 ∨ z1 = 3) with hz152 | hz152 | hz152 | hz152
          · skip
            obtain rfl : (0 : Int32) = x1 := (Int32.toInt_inj.mp ((e1.trans hz152).trans (by decide : (0 : Int) = (0 : Int32).toInt))).symm
            refine lv_imul hx hb dX12_tyres_52 ?_
            refine tw_cv (v := (0 : Int32)) (by decide) ?_
            refine lv_iload_n hx hb dX12_tyres_53 rfl (lv_at hl 2 rfl) ?_
            have hz153 : z2 = 0 := by omega
            obtain rfl : (0 : Int32) = x2 := (Int32.toInt_inj.mp ((e2.trans hz153).trans (by decide : (0 : Int) = (0 : Int32).toInt))).symm
            refine lv_iadd hx hb dX12_tyres_54 ?_
            refine tw_cv (v := (0 : Int32)) (by decide) ?_
            have hw154 : w1 4 = .inl (G.2.1 0, 24, .inl (upd (upd (upd (upd (upd (upd (upd (upd (upd (upd (upd (upd (upd (upd (upd (upd (fun _ => 0) 1 (10 : Int32)) 2 (40 : Int32)) 3 (1000 : Int32)) 5 (5 : Int32)) 7 (10 : Int32)) 8 (40 : Int32)) 9 (1000 : Int32)) 11 (5 : Int32)) 13 (10 : Int32)) 14 (40 : Int32)) 15 (1000 : Int32)) 17 (5 : Int32)) 19 (10 : Int32)) 20 (40 : Int32)) 21 (1000 : Int32)) 23 (5 : Int32))) := (hne3 4 (by decide)).trans (hw_4)
            refine tw_iald (r := 4) (j := 0) (v := (0 : Int32)) F hH rfl (by decide) hw154 (by decide) (by decide) rfl dX12_tyres_55 ?_
            refine lv_istore (lv' := [(4, .int (0 : Int32)), (0, .ref (ad 0)), (1, .int (0 : Int32)), (2, .int (0 : Int32)), (3, .int x3)]) hx hb dX12_tyres_56 hl (by decide) rfl (fun ls hl => ?_)
            refine lv_aload_n hx hb dX12_tyres_58 rfl (lv_at hl 1 rfl) ?_
            refine tw_get (r := 0) F hH kf_RX12_72 rfl (by decide) hw2 rfl dX12_tyres_59 ?_
            refine lv_bipush (v := 6) hx hb dX12_tyres_62 (by decide) ?_
            refine lv_iload_n hx hb dX12_tyres_64 rfl (lv_at hl 2 rfl) ?_
            refine lv_imul hx hb dX12_tyres_65 ?_
            refine tw_cv (v := (0 : Int32)) (by decide) ?_
            refine lv_iload_n hx hb dX12_tyres_66 rfl (lv_at hl 3 rfl) ?_
            refine lv_iadd hx hb dX12_tyres_67 ?_
            refine tw_cv (v := (0 : Int32)) (by decide) ?_
            refine lv_iload_n hx hb dX12_tyres_68 rfl (lv_at hl 4 rfl) ?_
            refine tw_iast (r := 4) (j := 0) F hH rfl (by decide) hw154 (by decide) (by decide) dX12_tyres_69 (fun H locs w155 hw156 hne157 hH => ?_)
            refine lv_iload hx hb dX12_tyres_70 (lv_at hl 0 rfl) ?_
            exact tw_iret F hH hret hlk rfl (Nat.le_of_ble_eq_true rfl) (Nat.le_of_ble_eq_true rfl) dX12_tyres_72 (Or.inr (Or.inr (Or.inl (⟨rfl, (Or.inr (Or.inr (Or.inr (Or.inr (Or.inl (by omega))))))⟩))))
          · skip
            obtain rfl : (1 : Int32) = x1 := (Int32.toInt_inj.mp ((e1.trans hz152).trans (by decide : (1 : Int) = (1 : Int32).toInt))).symm
            refine lv_imul hx hb dX12_tyres_52 ?_
            refine tw_cv (v := (6 : Int32)) (by decide) ?_
            refine lv_iload_n hx hb dX12_tyres_53 rfl (lv_at hl 2 rfl) ?_
            have hz158 : z2 = 0 := by omega
            obtain rfl : (0 : Int32) = x2 := (Int32.toInt_inj.mp ((e2.trans hz158).trans (by decide : (0 : Int) = (0 : Int32).toInt))).symm
            refine lv_iadd hx hb dX12_tyres_54 ?_
            refine tw_cv (v := (6 : Int32)) (by decide) ?_
            have hw159 : w1 4 = .inl (G.2.1 0, 24, .inl (upd (upd (upd (upd (upd (upd (upd (upd (upd (upd (upd (upd (upd (upd (upd (upd (fun _ => 0) 1 (10 : Int32)) 2 (40 : Int32)) 3 (1000 : Int32)) 5 (5 : Int32)) 7 (10 : Int32)) 8 (40 : Int32)) 9 (1000 : Int32)) 11 (5 : Int32)) 13 (10 : Int32)) 14 (40 : Int32)) 15 (1000 : Int32)) 17 (5 : Int32)) 19 (10 : Int32)) 20 (40 : Int32)) 21 (1000 : Int32)) 23 (5 : Int32))) := (hne3 4 (by decide)).trans (hw_4)
            refine tw_iald (r := 4) (j := 6) (v := (0 : Int32)) F hH rfl (by decide) hw159 (by decide) (by decide) rfl dX12_tyres_55 ?_
            refine lv_istore (lv' := [(4, .int (0 : Int32)), (0, .ref (ad 0)), (1, .int (1 : Int32)), (2, .int (0 : Int32)), (3, .int x3)]) hx hb dX12_tyres_56 hl (by decide) rfl (fun ls hl => ?_)
            refine lv_aload_n hx hb dX12_tyres_58 rfl (lv_at hl 1 rfl) ?_
            refine tw_get (r := 0) F hH kf_RX12_72 rfl (by decide) hw2 rfl dX12_tyres_59 ?_
            refine lv_bipush (v := 6) hx hb dX12_tyres_62 (by decide) ?_
            refine lv_iload_n hx hb dX12_tyres_64 rfl (lv_at hl 2 rfl) ?_
            refine lv_imul hx hb dX12_tyres_65 ?_
            refine tw_cv (v := (6 : Int32)) (by decide) ?_
            refine lv_iload_n hx hb dX12_tyres_66 rfl (lv_at hl 3 rfl) ?_
            refine lv_iadd hx hb dX12_tyres_67 ?_
            refine tw_cv (v := (6 : Int32)) (by decide) ?_
            refine lv_iload_n hx hb dX12_tyres_68 rfl (lv_at hl 4 rfl) ?_
            refine tw_iast (r := 4) (j := 6) F hH rfl (by decide) hw159 (by decide) (by decide) dX12_tyres_69 (fun H locs w160 hw161 hne162 hH => ?_)
            refine lv_iload hx hb dX12_tyres_70 (lv_at hl 0 rfl) ?_
            exact tw_iret F hH hret hlk rfl (Nat.le_of_ble_eq_true rfl) (Nat.le_of_ble_eq_true rfl) dX12_tyres_72 (Or.inr (Or.inr (Or.inl (⟨rfl, (Or.inr (Or.inr (Or.inr (Or.inr (Or.inr (Or.inl (by omega)))))))⟩))))
          · skip
            obtain rfl : (2 : Int32) = x1 := (Int32.toInt_inj.mp ((e1.trans hz152).trans (by decide : (2 : Int) = (2 : Int32).toInt))).symm
            refine lv_imul hx hb dX12_tyres_52 ?_
            refine tw_cv (v := (12 : Int32)) (by decide) ?_
            refine lv_iload_n hx hb dX12_tyres_53 rfl (lv_at hl 2 rfl) ?_
            have hz163 : z2 = 0 := by omega
            obtain rfl : (0 : Int32) = x2 := (Int32.toInt_inj.mp ((e2.trans hz163).trans (by decide : (0 : Int) = (0 : Int32).toInt))).symm
            refine lv_iadd hx hb dX12_tyres_54 ?_
            refine tw_cv (v := (12 : Int32)) (by decide) ?_
            have hw164 : w1 4 = .inl (G.2.1 0, 24, .inl (upd (upd (upd (upd (upd (upd (upd (upd (upd (upd (upd (upd (upd (upd (upd (upd (fun _ => 0) 1 (10 : Int32)) 2 (40 : Int32)) 3 (1000 : Int32)) 5 (5 : Int32)) 7 (10 : Int32)) 8 (40 : Int32)) 9 (1000 : Int32)) 11 (5 : Int32)) 13 (10 : Int32)) 14 (40 : Int32)) 15 (1000 : Int32)) 17 (5 : Int32)) 19 (10 : Int32)) 20 (40 : Int32)) 21 (1000 : Int32)) 23 (5 : Int32))) := (hne3 4 (by decide)).trans (hw_4)
            refine tw_iald (r := 4) (j := 12) (v := (0 : Int32)) F hH rfl (by decide) hw164 (by decide) (by decide) rfl dX12_tyres_55 ?_
            refine lv_istore (lv' := [(4, .int (0 : Int32)), (0, .ref (ad 0)), (1, .int (2 : Int32)), (2, .int (0 : Int32)), (3, .int x3)]) hx hb dX12_tyres_56 hl (by decide) rfl (fun ls hl => ?_)
            refine lv_aload_n hx hb dX12_tyres_58 rfl (lv_at hl 1 rfl) ?_
            refine tw_get (r := 0) F hH kf_RX12_72 rfl (by decide) hw2 rfl dX12_tyres_59 ?_
            refine lv_bipush (v := 6) hx hb dX12_tyres_62 (by decide) ?_
            refine lv_iload_n hx hb dX12_tyres_64 rfl (lv_at hl 2 rfl) ?_
            refine lv_imul hx hb dX12_tyres_65 ?_
            refine tw_cv (v := (12 : Int32)) (by decide) ?_
            refine lv_iload_n hx hb dX12_tyres_66 rfl (lv_at hl 3 rfl) ?_
            refine lv_iadd hx hb dX12_tyres_67 ?_
            refine tw_cv (v := (12 : Int32)) (by decide) ?_
            refine lv_iload_n hx hb dX12_tyres_68 rfl (lv_at hl 4 rfl) ?_
            refine tw_iast (r := 4) (j := 12) F hH rfl (by decide) hw164 (by decide) (by decide) dX12_tyres_69 (fun H locs w165 hw166 hne167 hH => ?_)
            refine lv_iload hx hb dX12_tyres_70 (lv_at hl 0 rfl) ?_
            exact tw_iret F hH hret hlk rfl (Nat.le_of_ble_eq_true rfl) (Nat.le_of_ble_eq_true rfl) dX12_tyres_72 (Or.inr (Or.inr (Or.inl (⟨rfl, (Or.inr (Or.inr (Or.inr (Or.inr (Or.inr (Or.inr (Or.inl (by omega))))))))⟩))))
          · skip
            obtain rfl : (3 : Int32) = x1 := (Int32.toInt_inj.mp ((e1.trans hz152).trans (by decide : (3 : Int) = (3 : Int32).toInt))).symm
            refine lv_imul hx hb dX12_tyres_52 ?_
            refine tw_cv (v := (18 : Int32)) (by decide) ?_
            refine lv_iload_n hx hb dX12_tyres_53 rfl (lv_at hl 2 rfl) ?_
            have hz168 : z2 = 0 := by omega
            obtain rfl : (0 : Int32) = x2 := (Int32.toInt_inj.mp ((e2.trans hz168).trans (by decide : (0 : Int) = (0 : Int32).toInt))).symm
            refine lv_iadd hx hb dX12_tyres_54 ?_
            refine tw_cv (v := (18 : Int32)) (by decide) ?_
            have hw169 : w1 4 = .inl (G.2.1 0, 24, .inl (upd (upd (upd (upd (upd (upd (upd (upd (upd (upd (upd (upd (upd (upd (upd (upd (fun _ => 0) 1 (10 : Int32)) 2 (40 : Int32)) 3 (1000 : Int32)) 5 (5 : Int32)) 7 (10 : Int32)) 8 (40 : Int32)) 9 (1000 : Int32)) 11 (5 : Int32)) 13 (10 : Int32)) 14 (40 : Int32)) 15 (1000 : Int32)) 17 (5 : Int32)) 19 (10 : Int32)) 20 (40 : Int32)) 21 (1000 : Int32)) 23 (5 : Int32))) := (hne3 4 (by decide)).trans (hw_4)
            refine tw_iald (r := 4) (j := 18) (v := (0 : Int32)) F hH rfl (by decide) hw169 (by decide) (by decide) rfl dX12_tyres_55 ?_
            refine lv_istore (lv' := [(4, .int (0 : Int32)), (0, .ref (ad 0)), (1, .int (3 : Int32)), (2, .int (0 : Int32)), (3, .int x3)]) hx hb dX12_tyres_56 hl (by decide) rfl (fun ls hl => ?_)
            refine lv_aload_n hx hb dX12_tyres_58 rfl (lv_at hl 1 rfl) ?_
            refine tw_get (r := 0) F hH kf_RX12_72 rfl (by decide) hw2 rfl dX12_tyres_59 ?_
            refine lv_bipush (v := 6) hx hb dX12_tyres_62 (by decide) ?_
            refine lv_iload_n hx hb dX12_tyres_64 rfl (lv_at hl 2 rfl) ?_
            refine lv_imul hx hb dX12_tyres_65 ?_
            refine tw_cv (v := (18 : Int32)) (by decide) ?_
            refine lv_iload_n hx hb dX12_tyres_66 rfl (lv_at hl 3 rfl) ?_
            refine lv_iadd hx hb dX12_tyres_67 ?_
            refine tw_cv (v := (18 : Int32)) (by decide) ?_
            refine lv_iload_n hx hb dX12_tyres_68 rfl (lv_at hl 4 rfl) ?_
            refine tw_iast (r := 4) (j := 18) F hH rfl (by decide) hw169 (by decide) (by decide) dX12_tyres_69 (fun H locs w170 hw171 hne172 hH => ?_)
            refine lv_iload hx hb dX12_tyres_70 (lv_at hl 0 rfl) ?_
            exact tw_iret F hH hret hlk rfl (Nat.le_of_ble_eq_true rfl) (Nat.le_of_ble_eq_true rfl) dX12_tyres_72 (Or.inr (Or.inr (Or.inl (⟨rfl, (Or.inr (Or.inr (Or.inr (Or.inr (Or.inr (Or.inr (Or.inr (by omega))))))))⟩))))
set_option maxHeartbeats 4000000 in
set_option maxRecDepth 100000 in
theorem c_X12_mostOf (l : Launch) (G : tw_G) (ad : Nat → Nat) (w : Nat → va_E) (sz : Nat) (x0 : Int32) (z0 : Int) (e0 : x0.toInt = z0) : Met l yX12_mostOf (tw_ws yX12_mostOf cX12_mostOf 1 (some .int)) ({ frames := 0, cells := 0, slots := 0, locals := 0 }) (tw_Pre G 80 ad w sz [.int x0]) (tw_Qi G 80 ad (fun r w1 => ((2000 : Int32) = r ∧ (((z0 = 0)) ∨ ((z0 = 6))) ∧ w = w1) ∨ ((50 : Int32) = r ∧ (z0 = 1) ∧ w = w1) ∨ ((500 : Int32) = r ∧ (z0 = 2) ∧ w = w1) ∨ ((60000 : Int32) = r ∧ (z0 = 3) ∧ w = w1) ∨ ((20000 : Int32) = r ∧ (z0 = 4) ∧ w = w1) ∨ ((200 : Int32) = r ∧ (z0 = 5) ∧ w = w1) ∨ ((9 : Int32) = r ∧ ((z0 < 0) ∨ (6 < z0)) ∧ w = w1)) sz) 0 0 (tw_A 80 ad sz) := by
  refine tw_met (by decide) (Nat.le_of_ble_eq_true rfl) ?_
  intro p e s m args below meth c F hret hlk hin hargs hsz hH ls hl
  have hx := F.1.1
  have hb := F.1.2.1
  have hown := F.1.2.2.2.1
  have hts := F.1.2.2.2.2
  have hl : lv_has ls 1 [(0, .int x0)] := hl
  generalize hH0 : s.heap = H at hH ⊢
  refine lv_iload_n hx hb dX12_mostOf_0 rfl (lv_at hl 0 rfl) ?_
  have c1 : x0.toInt = z0 := e0
  rcases (by omega : (z0 = 0) ∨ (z0 = 1) ∨ (z0 = 2) ∨ (z0 = 3) ∨ (z0 = 4) ∨ (z0 = 5) ∨ (z0 = 6) ∨ ((z0 < 0) ∨ (6 < z0))) with c1x | c1x | c1x | c1x | c1x | c1x | c1x | c1x
  · have c1y : x0.toInt = 0 := by omega
    refine lv_tableIn (off := 43) (tgt := 44) hx hb dX12_mostOf_1 (by omega) (by omega) (by rw [c1y]; decide) (by decide) ?_
    refine lv_sipush (v := 2000) hx hb dX12_mostOf_44 (by decide) ?_
    exact tw_iret F hH hret hlk rfl (Nat.le_of_ble_eq_true rfl) (Nat.le_of_ble_eq_true rfl) dX12_mostOf_47 (Or.inl (⟨rfl, (Or.inl (by omega)), rfl⟩))
  · have c1y : x0.toInt = 1 := by omega
    refine lv_tableIn (off := 47) (tgt := 48) hx hb dX12_mostOf_1 (by omega) (by omega) (by rw [c1y]; decide) (by decide) ?_
    refine lv_bipush (v := 50) hx hb dX12_mostOf_48 (by decide) ?_
    exact tw_iret F hH hret hlk rfl (Nat.le_of_ble_eq_true rfl) (Nat.le_of_ble_eq_true rfl) dX12_mostOf_50 (Or.inr (Or.inl (⟨rfl, (by omega), rfl⟩)))
  · have c1y : x0.toInt = 2 := by omega
    refine lv_tableIn (off := 50) (tgt := 51) hx hb dX12_mostOf_1 (by omega) (by omega) (by rw [c1y]; decide) (by decide) ?_
    refine lv_sipush (v := 500) hx hb dX12_mostOf_51 (by decide) ?_
    exact tw_iret F hH hret hlk rfl (Nat.le_of_ble_eq_true rfl) (Nat.le_of_ble_eq_true rfl) dX12_mostOf_54 (Or.inr (Or.inr (Or.inl (⟨rfl, (by omega), rfl⟩))))
  · have c1y : x0.toInt = 3 := by omega
    refine lv_tableIn (off := 54) (tgt := 55) hx hb dX12_mostOf_1 (by omega) (by omega) (by rw [c1y]; decide) (by decide) ?_
    refine lv_ldc (v := 60000) hx hb hown (hts _ (tw_gl kw_1388 rfl)) dX12_mostOf_55 ?_
    exact tw_iret F hH hret hlk rfl (Nat.le_of_ble_eq_true rfl) (Nat.le_of_ble_eq_true rfl) dX12_mostOf_57 (Or.inr (Or.inr (Or.inr (Or.inl (⟨rfl, (by omega), rfl⟩)))))
  · have c1y : x0.toInt = 4 := by omega
    refine lv_tableIn (off := 57) (tgt := 58) hx hb dX12_mostOf_1 (by omega) (by omega) (by rw [c1y]; decide) (by decide) ?_
    refine lv_sipush (v := 20000) hx hb dX12_mostOf_58 (by decide) ?_
    exact tw_iret F hH hret hlk rfl (Nat.le_of_ble_eq_true rfl) (Nat.le_of_ble_eq_true rfl) dX12_mostOf_61 (Or.inr (Or.inr (Or.inr (Or.inr (Or.inl (⟨rfl, (by omega), rfl⟩))))))
  · have c1y : x0.toInt = 5 := by omega
    refine lv_tableIn (off := 61) (tgt := 62) hx hb dX12_mostOf_1 (by omega) (by omega) (by rw [c1y]; decide) (by decide) ?_
    refine lv_sipush (v := 200) hx hb dX12_mostOf_62 (by decide) ?_
    exact tw_iret F hH hret hlk rfl (Nat.le_of_ble_eq_true rfl) (Nat.le_of_ble_eq_true rfl) dX12_mostOf_65 (Or.inr (Or.inr (Or.inr (Or.inr (Or.inr (Or.inl (⟨rfl, (by omega), rfl⟩)))))))
  · have c1y : x0.toInt = 6 := by omega
    refine lv_tableIn (off := 65) (tgt := 66) hx hb dX12_mostOf_1 (by omega) (by omega) (by rw [c1y]; decide) (by decide) ?_
    refine lv_sipush (v := 2000) hx hb dX12_mostOf_66 (by decide) ?_
    exact tw_iret F hH hret hlk rfl (Nat.le_of_ble_eq_true rfl) (Nat.le_of_ble_eq_true rfl) dX12_mostOf_69 (Or.inl (⟨rfl, (Or.inr (by omega)), rfl⟩))
  · refine lv_tableOut (tgt := 70) hx hb dX12_mostOf_1 (by omega) (by decide) ?_
    refine lv_bipush (v := 9) hx hb dX12_mostOf_70 (by decide) ?_
    exact tw_iret F hH hret hlk rfl (Nat.le_of_ble_eq_true rfl) (Nat.le_of_ble_eq_true rfl) dX12_mostOf_72 (Or.inr (Or.inr (Or.inr (Or.inr (Or.inr (Or.inr (⟨rfl, (by omega), rfl⟩)))))))
set_option maxHeartbeats 4000000 in
set_option maxRecDepth 100000 in
theorem c_X12_set (l : Launch) (G : tw_G) (ad : Nat → Nat) (w : Nat → va_E) (sz : Nat) (x1 : Int32) (z1 : Int) (e1 : x1.toInt = z1) (x2 : Int32) (z2 : Int) (e2 : x2.toInt = z2) (hw_0 : w 0 = .inr (12, [.int (0 : Int32), .int (2 : Int32), .int (1 : Int32), .ref (ad 1), .ref (ad 2), .ref (ad 3), .ref (ad 4), .ref (ad 5), .int (0 : Int32), .ref (ad 6), .ref (ad 7), .ref (ad 8), .int (0 : Int32), .ref (ad 9), .ref (ad 10), .ref (ad 11), .ref (ad 12), .int (0 : Int32), .ref (ad 13), .ref (ad 14), .ref (ad 15), .ref (ad 16), .ref (ad 17), .ref (ad 18), .ref (ad 19), .ref (ad 20), .ref (ad 21), .ref (ad 22), .ref (ad 23), .ref (ad 24), .ref (ad 25), .ref (ad 26), .ref (ad 27), .ref (ad 28), .ref (ad 29), .ref (ad 30), .ref (ad 31), .ref (ad 32), .ref (ad 33), .ref (ad 34), .int (0 : Int32), .int (0 : Int32), .int (0 : Int32), .ref (G.2.2 (100 + 10)), .ref (ad 35), .ref (ad 36), .ref (ad 37), .int (0 : Int32), .ref (ad 38), .ref (ad 39), .ref (ad 40), .ref (ad 41), .ref (ad 42), .ref (ad 43), .ref (ad 44), .ref (ad 45), .ref (ad 46), .ref (ad 47), .ref (ad 48), .ref (ad 49), .ref (ad 50), .ref (ad 51), .ref (ad 52), .ref (ad 53), .ref (ad 54), .ref (ad 55), .ref (ad 56), .ref (ad 57), .ref (ad 58), .ref (ad 59), .int (0 : Int32), .ref (ad 60), .int (0 : Int32), .ref (ad 61), .ref (ad 62), .int (0 : Int32), .ref (ad 63), .ref (ad 64), .ref (ad 65), .ref (ad 66), .ref (ad 67), .ref (ad 68), .int (0 : Int32), .ref (ad 69), .ref (ad 70), .ref (ad 71), .ref (ad 72), .ref (ad 73), .int (0 : Int32), .int (0 : Int32), .int (0 : Int32), .ref (ad 74), .ref (ad 75), .ref (ad 76), .ref (ad 77), .ref (ad 78), .ref (ad 79)])) (hw_5 : w 5 = .inl (G.2.1 0, 8, .inl (upd (upd (upd (upd (upd (upd (upd (fun _ => 0) 0 (500 : Int32)) 1 (5 : Int32)) 2 (200 : Int32)) 3 (15000 : Int32)) 4 (3000 : Int32)) 5 (50 : Int32)) 6 (300 : Int32)))) : Met l yX12_set (tw_ws yX12_set cX12_set 4 (some .int)) ({ frames := 1, cells := 0, slots := 0, locals := 25 }) (tw_Pre G 80 ad w sz [.ref (ad 0), .int x1, .int x2]) (tw_Qi G 80 ad (fun r w1 => ((-1 : Int32) = r ∧ (((((z1 < 0)) ∨ ((¬ (z1 < 0)) ∧ (7 < z1)))) ∨ (((¬ (z1 < 0)) ∧ (¬ (7 < z1))) ∧ (¬ (z1 = 0)) ∧ (((z1 = 0)) ∨ ((z1 = 6))) ∧ (((z2 < 0)) ∨ ((¬ (z2 < 0)) ∧ (2000 < z2)))) ∨ (((¬ (z1 < 0)) ∧ (¬ (7 < z1))) ∧ (¬ (z1 = 0)) ∧ ((z1 = 1)) ∧ (((z2 < 0)) ∨ ((¬ (z2 < 0)) ∧ (50 < z2)))) ∨ (((¬ (z1 < 0)) ∧ (¬ (7 < z1))) ∧ (¬ (z1 = 0)) ∧ ((z1 = 2)) ∧ (((z2 < 0)) ∨ ((¬ (z2 < 0)) ∧ (500 < z2)))) ∨ (((¬ (z1 < 0)) ∧ (¬ (7 < z1))) ∧ (¬ (z1 = 0)) ∧ ((z1 = 3)) ∧ (((z2 < 0)) ∨ ((¬ (z2 < 0)) ∧ (60000 < z2)))) ∨ (((¬ (z1 < 0)) ∧ (¬ (7 < z1))) ∧ (¬ (z1 = 0)) ∧ ((z1 = 4)) ∧ (((z2 < 0)) ∨ ((¬ (z2 < 0)) ∧ (20000 < z2)))) ∨ (((¬ (z1 < 0)) ∧ (¬ (7 < z1))) ∧ (¬ (z1 = 0)) ∧ ((z1 = 5)) ∧ (((z2 < 0)) ∨ ((¬ (z2 < 0)) ∧ (200 < z2)))) ∨ (((¬ (z1 < 0)) ∧ (¬ (7 < z1))) ∧ (¬ (z1 = 0)) ∧ (((z1 < 0) ∨ (6 < z1))) ∧ (((z2 < 0)) ∨ ((¬ (z2 < 0)) ∧ (9 < z2)))) ∨ (((¬ (z1 < 0)) ∧ (¬ (7 < z1))) ∧ (z1 = 0) ∧ (((z1 = 0)) ∨ ((z1 = 6))) ∧ (((z2 < 100)) ∨ ((¬ (z2 < 100)) ∧ (2000 < z2)))))) ∨ ((300 : Int32) = r ∧ (((¬ (z1 < 0)) ∧ (¬ (7 < z1))) ∧ (¬ (z1 = 0)) ∧ (((z1 = 0)) ∨ ((z1 = 6))) ∧ ((¬ (z2 < 0)) ∧ (¬ (2000 < z2))) ∧ (z1 = 6))) ∨ ((5 : Int32) = r ∧ (((¬ (z1 < 0)) ∧ (¬ (7 < z1))) ∧ (¬ (z1 = 0)) ∧ ((z1 = 1)) ∧ ((¬ (z2 < 0)) ∧ (¬ (50 < z2))) ∧ (z1 = 1))) ∨ ((200 : Int32) = r ∧ (((¬ (z1 < 0)) ∧ (¬ (7 < z1))) ∧ (¬ (z1 = 0)) ∧ ((z1 = 2)) ∧ ((¬ (z2 < 0)) ∧ (¬ (500 < z2))) ∧ (z1 = 2))) ∨ ((15000 : Int32) = r ∧ (((¬ (z1 < 0)) ∧ (¬ (7 < z1))) ∧ (¬ (z1 = 0)) ∧ ((z1 = 3)) ∧ ((¬ (z2 < 0)) ∧ (¬ (60000 < z2))) ∧ (z1 = 3))) ∨ ((3000 : Int32) = r ∧ (((¬ (z1 < 0)) ∧ (¬ (7 < z1))) ∧ (¬ (z1 = 0)) ∧ ((z1 = 4)) ∧ ((¬ (z2 < 0)) ∧ (¬ (20000 < z2))) ∧ (z1 = 4))) ∨ ((50 : Int32) = r ∧ (((¬ (z1 < 0)) ∧ (¬ (7 < z1))) ∧ (¬ (z1 = 0)) ∧ ((z1 = 5)) ∧ ((¬ (z2 < 0)) ∧ (¬ (200 < z2))) ∧ (z1 = 5))) ∨ ((0 : Int32) = r ∧ (((¬ (z1 < 0)) ∧ (¬ (7 < z1))) ∧ (¬ (z1 = 0)) ∧ (((z1 < 0) ∨ (6 < z1))) ∧ ((¬ (z2 < 0)) ∧ (¬ (9 < z2))) ∧ (z1 = 7))) ∨ ((500 : Int32) = r ∧ (((¬ (z1 < 0)) ∧ (¬ (7 < z1))) ∧ (z1 = 0) ∧ (((z1 = 0)) ∨ ((z1 = 6))) ∧ ((¬ (z2 < 100)) ∧ (¬ (2000 < z2))) ∧ (z1 = 0)))) sz) 0 0 (tw_A 80 ad sz) := by
  refine tw_met (by decide) (Nat.le_of_ble_eq_true rfl) ?_
  intro p e s m args below meth c F hret hlk hin hargs hsz hH ls hl
  have hx := F.1.1
  have hb := F.1.2.1
  have hown := F.1.2.2.2.1
  have hts := F.1.2.2.2.2
  have hl : lv_has ls 4 [(0, .ref (ad 0)), (1, .int x1), (2, .int x2)] := hl
  generalize hH0 : s.heap = H at hH ⊢
  refine lv_aload_n hx hb dX12_set_0 rfl (lv_at hl 0 rfl) ?_
  refine lv_iconst (v := 0) hx hb dX12_set_1 (by decide) ?_
  refine tw_put (r := 0) F hH kf_RX12_3 kp_X12_0 rfl (by decide) hw_0 (Nat.le_of_ble_eq_true rfl) rfl rfl dX12_set_2 (fun H locs w1 hw2 hne3 hH => ?_)
  have hw2 : w1 0 = .inr (12, [.int (0 : Int32), .int (2 : Int32), .int (1 : Int32), .ref (ad 1), .ref (ad 2), .ref (ad 3), .ref (ad 4), .ref (ad 5), .int (0 : Int32), .ref (ad 6), .ref (ad 7), .ref (ad 8), .int (0 : Int32), .ref (ad 9), .ref (ad 10), .ref (ad 11), .ref (ad 12), .int (0 : Int32), .ref (ad 13), .ref (ad 14), .ref (ad 15), .ref (ad 16), .ref (ad 17), .ref (ad 18), .ref (ad 19), .ref (ad 20), .ref (ad 21), .ref (ad 22), .ref (ad 23), .ref (ad 24), .ref (ad 25), .ref (ad 26), .ref (ad 27), .ref (ad 28), .ref (ad 29), .ref (ad 30), .ref (ad 31), .ref (ad 32), .ref (ad 33), .ref (ad 34), .int (0 : Int32), .int (0 : Int32), .int (0 : Int32), .ref (G.2.2 (100 + 10)), .ref (ad 35), .ref (ad 36), .ref (ad 37), .int (0 : Int32), .ref (ad 38), .ref (ad 39), .ref (ad 40), .ref (ad 41), .ref (ad 42), .ref (ad 43), .ref (ad 44), .ref (ad 45), .ref (ad 46), .ref (ad 47), .ref (ad 48), .ref (ad 49), .ref (ad 50), .ref (ad 51), .ref (ad 52), .ref (ad 53), .ref (ad 54), .ref (ad 55), .ref (ad 56), .ref (ad 57), .ref (ad 58), .ref (ad 59), .int (0 : Int32), .ref (ad 60), .int (0 : Int32), .ref (ad 61), .ref (ad 62), .int (0 : Int32), .ref (ad 63), .ref (ad 64), .ref (ad 65), .ref (ad 66), .ref (ad 67), .ref (ad 68), .int (0 : Int32), .ref (ad 69), .ref (ad 70), .ref (ad 71), .ref (ad 72), .ref (ad 73), .int (0 : Int32), .int (0 : Int32), .int (0 : Int32), .ref (ad 74), .ref (ad 75), .ref (ad 76), .ref (ad 77), .ref (ad 78), .ref (ad 79)]) := hw2
  refine lv_iload_n hx hb dX12_set_5 rfl (lv_at hl 1 rfl) ?_
  refine lv_i2l (v := x1.toInt64) hx hb dX12_set_6 rfl ?_
  refine lv_lconst (v := 0) hx hb dX12_set_7 rfl ?_
  refine lv_ldc2 (v := 7) hx hb hown (hts _ (tw_gl kw_1383 rfl)) dX12_set_8 ?_
  refine tw_calli F hH (tw_runS (As := [.long x1.toInt64, .long (0 : Int64), .long (7 : Int64)]) (rest := []) F hH (c_X12_in l G 80 ad w1 H.size x1.toInt64 (z1) ((tw_wide _).trans e1) (0 : Int64) 0 (by decide : (0 : Int64).toInt = 0) (7 : Int64) 7 (by decide : (7 : Int64).toInt = 7)) (tw_gl kw_1351 rfl) km_X12_in (tw_gl kw_1352 rfl) rfl rfl ⟨(Nat.le_of_ble_eq_true rfl), (Nat.le_of_ble_eq_true rfl)⟩ rfl hl.1 rfl (Nat.le_of_ble_eq_true rfl) dX12_set_11 ⟨(Nat.le_of_ble_eq_true rfl), (Nat.le_of_ble_eq_true rfl)⟩) (fun r6 w4 H locs hp5 _ hH => ?_)
  rcases hp5 with ⟨rfl, hc7, rfl⟩ | ⟨rfl, hc8, rfl⟩
  · skip
    refine lv_if_eq (tgt := 41) hx hb dX12_set_14 (by decide) (fun _ => ?_) (fun c => absurd c (by decide))
    refine lv_iconst (v := -1) hx hb dX12_set_41 (by decide) ?_
    exact tw_iret F hH hret hlk rfl (Nat.le_of_ble_eq_true rfl) (Nat.le_of_ble_eq_true rfl) dX12_set_42 (Or.inl (⟨rfl, (Or.inl (by omega))⟩))
  · skip
    refine lv_if_eq (tgt := 41) hx hb dX12_set_14 (by decide) (fun c => absurd c (by decide)) (fun _ => ?_)
    refine lv_iload_n hx hb dX12_set_17 rfl (lv_at hl 2 rfl) ?_
    refine lv_i2l (v := x2.toInt64) hx hb dX12_set_18 rfl ?_
    refine lv_iload_n hx hb dX12_set_19 rfl (lv_at hl 1 rfl) ?_
    refine lv_if_ne (tgt := 29) hx hb dX12_set_20 (by decide) (fun c11 => ?_) (fun c11 => ?_)
    · have c11 := mt (tw_eq e1 (by decide : (0 : Int32).toInt = 0)).mpr c11
      refine lv_lconst (v := 0) hx hb dX12_set_29 rfl ?_
      refine lv_iload_n hx hb dX12_set_30 rfl (lv_at hl 1 rfl) ?_
      refine tw_calli F hH (tw_runS (As := [.int x1]) (rest := [.long (0 : Int64), .long x2.toInt64]) F hH (c_X12_mostOf l G ad w1 H.size x1 (z1) e1) (tw_gl kw_1385 rfl) km_X12_mostOf (tw_gl kw_1386 rfl) rfl rfl ⟨(Nat.le_of_ble_eq_true rfl), (Nat.le_of_ble_eq_true rfl)⟩ rfl hl.1 rfl (Nat.le_of_ble_eq_true rfl) dX12_set_31 ⟨(Nat.le_of_ble_eq_true rfl), (Nat.le_of_ble_eq_true rfl)⟩) (fun r14 w12 H locs hp13 _ hH => ?_)
      rcases hp13 with ⟨rfl, hc15, rfl⟩ | ⟨rfl, hc16, rfl⟩ | ⟨rfl, hc17, rfl⟩ | ⟨rfl, hc18, rfl⟩ | ⟨rfl, hc19, rfl⟩ | ⟨rfl, hc20, rfl⟩ | ⟨rfl, hc21, rfl⟩
      · skip
        refine lv_i2l (v := (2000 : Int32).toInt64) hx hb dX12_set_34 rfl ?_
        have el21 : ((2000 : Int32)).toInt64.toInt = 2000 := by decide
        refine tw_calli F hH (tw_runS (As := [.long x2.toInt64, .long (0 : Int64), .long ((2000 : Int32).toInt64)]) (rest := []) F hH (c_X12_in l G 80 ad w1 H.size x2.toInt64 (z2) ((tw_wide _).trans e2) (0 : Int64) 0 (by decide : (0 : Int64).toInt = 0) ((2000 : Int32).toInt64) 2000 el21) (tw_gl kw_1351 rfl) km_X12_in (tw_gl kw_1352 rfl) rfl rfl ⟨(Nat.le_of_ble_eq_true rfl), (Nat.le_of_ble_eq_true rfl)⟩ rfl hl.1 rfl (Nat.le_of_ble_eq_true rfl) dX12_set_35 ⟨(Nat.le_of_ble_eq_true rfl), (Nat.le_of_ble_eq_true rfl)⟩) (fun r25 w23 H locs hp24 _ hH => ?_)
        rcases hp24 with ⟨rfl, hc26, rfl⟩ | ⟨rfl, hc27, rfl⟩
        · skip
          refine lv_if_ne (tgt := 43) hx hb dX12_set_38 (by decide) (fun c => absurd c (by decide)) (fun _ => ?_)
          refine lv_iconst (v := -1) hx hb dX12_set_41 (by decide) ?_
          exact tw_iret F hH hret hlk rfl (Nat.le_of_ble_eq_true rfl) (Nat.le_of_ble_eq_true rfl) dX12_set_42 (Or.inl (⟨rfl, (Or.inr (Or.inl (by omega)))⟩))
        · skip
          refine lv_if_ne (tgt := 43) hx hb dX12_set_38 (by decide) (fun _ => ?_) (fun c => absurd c (by decide))
          refine lv_aload_n hx hb dX12_set_43 rfl (lv_at hl 0 rfl) ?_
          refine tw_get (r := 0) F hH kf_RX12_83 rfl (by decide) hw2 rfl dX12_set_44 ?_
          refine lv_iload_n hx hb dX12_set_47 rfl (lv_at hl 1 rfl) ?_
          have hz30 : z1 = 6 := by omega
          obtain rfl : (6 : Int32) = x1 := (Int32.toInt_inj.mp ((e1.trans hz30).trans (by decide : (6 : Int) = (6 : Int32).toInt))).symm
          have hw31 : w1 5 = .inl (G.2.1 0, 8, .inl (upd (upd (upd (upd (upd (upd (upd (fun _ => 0) 0 (500 : Int32)) 1 (5 : Int32)) 2 (200 : Int32)) 3 (15000 : Int32)) 4 (3000 : Int32)) 5 (50 : Int32)) 6 (300 : Int32))) := (hne3 5 (by decide)).trans (hw_5)
          refine tw_iald (r := 5) (j := 6) (v := (300 : Int32)) F hH rfl (by decide) hw31 (by decide) (by decide) rfl dX12_set_48 ?_
          refine lv_istore_n (lv' := [(3, .int (300 : Int32)), (0, .ref (ad 0)), (1, .int (6 : Int32)), (2, .int x2)]) hx hb dX12_set_49 rfl hl (by decide) rfl (fun ls hl => ?_)
          refine lv_aload_n hx hb dX12_set_50 rfl (lv_at hl 1 rfl) ?_
          refine tw_get (r := 0) F hH kf_RX12_83 rfl (by decide) hw2 rfl dX12_set_51 ?_
          refine lv_iload_n hx hb dX12_set_54 rfl (lv_at hl 2 rfl) ?_
          refine lv_iload_n hx hb dX12_set_55 rfl (lv_at hl 3 rfl) ?_
          refine tw_iast (r := 5) (j := 6) F hH rfl (by decide) hw31 (by decide) (by decide) dX12_set_56 (fun H locs w32 hw33 hne34 hH => ?_)
          refine lv_iload_n hx hb dX12_set_57 rfl (lv_at hl 0 rfl) ?_
          exact tw_iret F hH hret hlk rfl (Nat.le_of_ble_eq_true rfl) (Nat.le_of_ble_eq_true rfl) dX12_set_58 (Or.inr (Or.inl (⟨rfl, (by omega)⟩)))
      · skip
        refine lv_i2l (v := (50 : Int32).toInt64) hx hb dX12_set_34 rfl ?_
        have el34 : ((50 : Int32)).toInt64.toInt = 50 := by decide
        refine tw_calli F hH (tw_runS (As := [.long x2.toInt64, .long (0 : Int64), .long ((50 : Int32).toInt64)]) (rest := []) F hH (c_X12_in l G 80 ad w1 H.size x2.toInt64 (z2) ((tw_wide _).trans e2) (0 : Int64) 0 (by decide : (0 : Int64).toInt = 0) ((50 : Int32).toInt64) 50 el34) (tw_gl kw_1351 rfl) km_X12_in (tw_gl kw_1352 rfl) rfl rfl ⟨(Nat.le_of_ble_eq_true rfl), (Nat.le_of_ble_eq_true rfl)⟩ rfl hl.1 rfl (Nat.le_of_ble_eq_true rfl) dX12_set_35 ⟨(Nat.le_of_ble_eq_true rfl), (Nat.le_of_ble_eq_true rfl)⟩) (fun r38 w36 H locs hp37 _ hH => ?_)
        rcases hp37 with ⟨rfl, hc39, rfl⟩ | ⟨rfl, hc40, rfl⟩
        · skip
          refine lv_if_ne (tgt := 43) hx hb dX12_set_38 (by decide) (fun c => absurd c (by decide)) (fun _ => ?_)
          refine lv_iconst (v := -1) hx hb dX12_set_41 (by decide) ?_
          exact tw_iret F hH hret hlk rfl (Nat.le_of_ble_eq_true rfl) (Nat.le_of_ble_eq_true rfl) dX12_set_42 (Or.inl (⟨rfl, (Or.inr (Or.inr (Or.inl (by omega))))⟩))
        · skip
          refine lv_if_ne (tgt := 43) hx hb dX12_set_38 (by decide) (fun _ => ?_) (fun c => absurd c (by decide))
          refine lv_aload_n hx hb dX12_set_43 rfl (lv_at hl 0 rfl) ?_
          refine tw_get (r := 0) F hH kf_RX12_83 rfl (by decide) hw2 rfl dX12_set_44 ?_
          refine lv_iload_n hx hb dX12_set_47 rfl (lv_at hl 1 rfl) ?_
          have hz43 : z1 = 1 := by omega
          obtain rfl : (1 : Int32) = x1 := (Int32.toInt_inj.mp ((e1.trans hz43).trans (by decide : (1 : Int) = (1 : Int32).toInt))).symm
          have hw44 : w1 5 = .inl (G.2.1 0, 8, .inl (upd (upd (upd (upd (upd (upd (upd (fun _ => 0) 0 (500 : Int32)) 1 (5 : Int32)) 2 (200 : Int32)) 3 (15000 : Int32)) 4 (3000 : Int32)) 5 (50 : Int32)) 6 (300 : Int32))) := (hne3 5 (by decide)).trans (hw_5)
          refine tw_iald (r := 5) (j := 1) (v := (5 : Int32)) F hH rfl (by decide) hw44 (by decide) (by decide) rfl dX12_set_48 ?_
          refine lv_istore_n (lv' := [(3, .int (5 : Int32)), (0, .ref (ad 0)), (1, .int (1 : Int32)), (2, .int x2)]) hx hb dX12_set_49 rfl hl (by decide) rfl (fun ls hl => ?_)
          refine lv_aload_n hx hb dX12_set_50 rfl (lv_at hl 1 rfl) ?_
          refine tw_get (r := 0) F hH kf_RX12_83 rfl (by decide) hw2 rfl dX12_set_51 ?_
          refine lv_iload_n hx hb dX12_set_54 rfl (lv_at hl 2 rfl) ?_
          refine lv_iload_n hx hb dX12_set_55 rfl (lv_at hl 3 rfl) ?_
          refine tw_iast (r := 5) (j := 1) F hH rfl (by decide) hw44 (by decide) (by decide) dX12_set_56 (fun H locs w45 hw46 hne47 hH => ?_)
          refine lv_iload_n hx hb dX12_set_57 rfl (lv_at hl 0 rfl) ?_
          exact tw_iret F hH hret hlk rfl (Nat.le_of_ble_eq_true rfl) (Nat.le_of_ble_eq_true rfl) dX12_set_58 (Or.inr (Or.inr (Or.inl (⟨rfl, (by omega)⟩))))
      · skip
        refine lv_i2l (v := (500 : Int32).toInt64) hx hb dX12_set_34 rfl ?_
        have el47 : ((500 : Int32)).toInt64.toInt = 500 := by decide
        refine tw_calli F hH (tw_runS (As := [.long x2.toInt64, .long (0 : Int64), .long ((500 : Int32).toInt64)]) (rest := []) F hH (c_X12_in l G 80 ad w1 H.size x2.toInt64 (z2) ((tw_wide _).trans e2) (0 : Int64) 0 (by decide : (0 : Int64).toInt = 0) ((500 : Int32).toInt64) 500 el47) (tw_gl kw_1351 rfl) km_X12_in (tw_gl kw_1352 rfl) rfl rfl ⟨(Nat.le_of_ble_eq_true rfl), (Nat.le_of_ble_eq_true rfl)⟩ rfl hl.1 rfl (Nat.le_of_ble_eq_true rfl) dX12_set_35 ⟨(Nat.le_of_ble_eq_true rfl), (Nat.le_of_ble_eq_true rfl)⟩) (fun r51 w49 H locs hp50 _ hH => ?_)
        rcases hp50 with ⟨rfl, hc52, rfl⟩ | ⟨rfl, hc53, rfl⟩
        · skip
          refine lv_if_ne (tgt := 43) hx hb dX12_set_38 (by decide) (fun c => absurd c (by decide)) (fun _ => ?_)
          refine lv_iconst (v := -1) hx hb dX12_set_41 (by decide) ?_
          exact tw_iret F hH hret hlk rfl (Nat.le_of_ble_eq_true rfl) (Nat.le_of_ble_eq_true rfl) dX12_set_42 (Or.inl (⟨rfl, (Or.inr (Or.inr (Or.inr (Or.inl (by omega)))))⟩))
        · skip
          refine lv_if_ne (tgt := 43) hx hb dX12_set_38 (by decide) (fun _ => ?_) (fun c => absurd c (by decide))
          refine lv_aload_n hx hb dX12_set_43 rfl (lv_at hl 0 rfl) ?_
          refine tw_get (r := 0) F hH kf_RX12_83 rfl (by decide) hw2 rfl dX12_set_44 ?_
          refine lv_iload_n hx hb dX12_set_47 rfl (lv_at hl 1 rfl) ?_
          have hz56 : z1 = 2 := by omega
          obtain rfl : (2 : Int32) = x1 := (Int32.toInt_inj.mp ((e1.trans hz56).trans (by decide : (2 : Int) = (2 : Int32).toInt))).symm
          have hw57 : w1 5 = .inl (G.2.1 0, 8, .inl (upd (upd (upd (upd (upd (upd (upd (fun _ => 0) 0 (500 : Int32)) 1 (5 : Int32)) 2 (200 : Int32)) 3 (15000 : Int32)) 4 (3000 : Int32)) 5 (50 : Int32)) 6 (300 : Int32))) := (hne3 5 (by decide)).trans (hw_5)
          refine tw_iald (r := 5) (j := 2) (v := (200 : Int32)) F hH rfl (by decide) hw57 (by decide) (by decide) rfl dX12_set_48 ?_
          refine lv_istore_n (lv' := [(3, .int (200 : Int32)), (0, .ref (ad 0)), (1, .int (2 : Int32)), (2, .int x2)]) hx hb dX12_set_49 rfl hl (by decide) rfl (fun ls hl => ?_)
          refine lv_aload_n hx hb dX12_set_50 rfl (lv_at hl 1 rfl) ?_
          refine tw_get (r := 0) F hH kf_RX12_83 rfl (by decide) hw2 rfl dX12_set_51 ?_
          refine lv_iload_n hx hb dX12_set_54 rfl (lv_at hl 2 rfl) ?_
          refine lv_iload_n hx hb dX12_set_55 rfl (lv_at hl 3 rfl) ?_
          refine tw_iast (r := 5) (j := 2) F hH rfl (by decide) hw57 (by decide) (by decide) dX12_set_56 (fun H locs w58 hw59 hne60 hH => ?_)
          refine lv_iload_n hx hb dX12_set_57 rfl (lv_at hl 0 rfl) ?_
          exact tw_iret F hH hret hlk rfl (Nat.le_of_ble_eq_true rfl) (Nat.le_of_ble_eq_true rfl) dX12_set_58 (Or.inr (Or.inr (Or.inr (Or.inl (⟨rfl, (by omega)⟩)))))
      · skip
        refine lv_i2l (v := (60000 : Int32).toInt64) hx hb dX12_set_34 rfl ?_
        have el60 : ((60000 : Int32)).toInt64.toInt = 60000 := by decide
        refine tw_calli F hH (tw_runS (As := [.long x2.toInt64, .long (0 : Int64), .long ((60000 : Int32).toInt64)]) (rest := []) F hH (c_X12_in l G 80 ad w1 H.size x2.toInt64 (z2) ((tw_wide _).trans e2) (0 : Int64) 0 (by decide : (0 : Int64).toInt = 0) ((60000 : Int32).toInt64) 60000 el60) (tw_gl kw_1351 rfl) km_X12_in (tw_gl kw_1352 rfl) rfl rfl ⟨(Nat.le_of_ble_eq_true rfl), (Nat.le_of_ble_eq_true rfl)⟩ rfl hl.1 rfl (Nat.le_of_ble_eq_true rfl) dX12_set_35 ⟨(Nat.le_of_ble_eq_true rfl), (Nat.le_of_ble_eq_true rfl)⟩) (fun r64 w62 H locs hp63 _ hH => ?_)
        rcases hp63 with ⟨rfl, hc65, rfl⟩ | ⟨rfl, hc66, rfl⟩
        · skip
          refine lv_if_ne (tgt := 43) hx hb dX12_set_38 (by decide) (fun c => absurd c (by decide)) (fun _ => ?_)
          refine lv_iconst (v := -1) hx hb dX12_set_41 (by decide) ?_
          exact tw_iret F hH hret hlk rfl (Nat.le_of_ble_eq_true rfl) (Nat.le_of_ble_eq_true rfl) dX12_set_42 (Or.inl (⟨rfl, (Or.inr (Or.inr (Or.inr (Or.inr (Or.inl (by omega))))))⟩))
        · skip
          refine lv_if_ne (tgt := 43) hx hb dX12_set_38 (by decide) (fun _ => ?_) (fun c => absurd c (by decide))
          refine lv_aload_n hx hb dX12_set_43 rfl (lv_at hl 0 rfl) ?_
          refine tw_get (r := 0) F hH kf_RX12_83 rfl (by decide) hw2 rfl dX12_set_44 ?_
          refine lv_iload_n hx hb dX12_set_47 rfl (lv_at hl 1 rfl) ?_
          have hz69 : z1 = 3 := by omega
          obtain rfl : (3 : Int32) = x1 := (Int32.toInt_inj.mp ((e1.trans hz69).trans (by decide : (3 : Int) = (3 : Int32).toInt))).symm
          have hw70 : w1 5 = .inl (G.2.1 0, 8, .inl (upd (upd (upd (upd (upd (upd (upd (fun _ => 0) 0 (500 : Int32)) 1 (5 : Int32)) 2 (200 : Int32)) 3 (15000 : Int32)) 4 (3000 : Int32)) 5 (50 : Int32)) 6 (300 : Int32))) := (hne3 5 (by decide)).trans (hw_5)
          refine tw_iald (r := 5) (j := 3) (v := (15000 : Int32)) F hH rfl (by decide) hw70 (by decide) (by decide) rfl dX12_set_48 ?_
          refine lv_istore_n (lv' := [(3, .int (15000 : Int32)), (0, .ref (ad 0)), (1, .int (3 : Int32)), (2, .int x2)]) hx hb dX12_set_49 rfl hl (by decide) rfl (fun ls hl => ?_)
          refine lv_aload_n hx hb dX12_set_50 rfl (lv_at hl 1 rfl) ?_
          refine tw_get (r := 0) F hH kf_RX12_83 rfl (by decide) hw2 rfl dX12_set_51 ?_
          refine lv_iload_n hx hb dX12_set_54 rfl (lv_at hl 2 rfl) ?_
          refine lv_iload_n hx hb dX12_set_55 rfl (lv_at hl 3 rfl) ?_
          refine tw_iast (r := 5) (j := 3) F hH rfl (by decide) hw70 (by decide) (by decide) dX12_set_56 (fun H locs w71 hw72 hne73 hH => ?_)
          refine lv_iload_n hx hb dX12_set_57 rfl (lv_at hl 0 rfl) ?_
          exact tw_iret F hH hret hlk rfl (Nat.le_of_ble_eq_true rfl) (Nat.le_of_ble_eq_true rfl) dX12_set_58 (Or.inr (Or.inr (Or.inr (Or.inr (Or.inl (⟨rfl, (by omega)⟩))))))
      · skip
        refine lv_i2l (v := (20000 : Int32).toInt64) hx hb dX12_set_34 rfl ?_
        have el73 : ((20000 : Int32)).toInt64.toInt = 20000 := by decide
        refine tw_calli F hH (tw_runS (As := [.long x2.toInt64, .long (0 : Int64), .long ((20000 : Int32).toInt64)]) (rest := []) F hH (c_X12_in l G 80 ad w1 H.size x2.toInt64 (z2) ((tw_wide _).trans e2) (0 : Int64) 0 (by decide : (0 : Int64).toInt = 0) ((20000 : Int32).toInt64) 20000 el73) (tw_gl kw_1351 rfl) km_X12_in (tw_gl kw_1352 rfl) rfl rfl ⟨(Nat.le_of_ble_eq_true rfl), (Nat.le_of_ble_eq_true rfl)⟩ rfl hl.1 rfl (Nat.le_of_ble_eq_true rfl) dX12_set_35 ⟨(Nat.le_of_ble_eq_true rfl), (Nat.le_of_ble_eq_true rfl)⟩) (fun r77 w75 H locs hp76 _ hH => ?_)
        rcases hp76 with ⟨rfl, hc78, rfl⟩ | ⟨rfl, hc79, rfl⟩
        · skip
          refine lv_if_ne (tgt := 43) hx hb dX12_set_38 (by decide) (fun c => absurd c (by decide)) (fun _ => ?_)
          refine lv_iconst (v := -1) hx hb dX12_set_41 (by decide) ?_
          exact tw_iret F hH hret hlk rfl (Nat.le_of_ble_eq_true rfl) (Nat.le_of_ble_eq_true rfl) dX12_set_42 (Or.inl (⟨rfl, (Or.inr (Or.inr (Or.inr (Or.inr (Or.inr (Or.inl (by omega)))))))⟩))
        · skip
          refine lv_if_ne (tgt := 43) hx hb dX12_set_38 (by decide) (fun _ => ?_) (fun c => absurd c (by decide))
          refine lv_aload_n hx hb dX12_set_43 rfl (lv_at hl 0 rfl) ?_
          refine tw_get (r := 0) F hH kf_RX12_83 rfl (by decide) hw2 rfl dX12_set_44 ?_
          refine lv_iload_n hx hb dX12_set_47 rfl (lv_at hl 1 rfl) ?_
          have hz82 : z1 = 4 := by omega
          obtain rfl : (4 : Int32) = x1 := (Int32.toInt_inj.mp ((e1.trans hz82).trans (by decide : (4 : Int) = (4 : Int32).toInt))).symm
          have hw83 : w1 5 = .inl (G.2.1 0, 8, .inl (upd (upd (upd (upd (upd (upd (upd (fun _ => 0) 0 (500 : Int32)) 1 (5 : Int32)) 2 (200 : Int32)) 3 (15000 : Int32)) 4 (3000 : Int32)) 5 (50 : Int32)) 6 (300 : Int32))) := (hne3 5 (by decide)).trans (hw_5)
          refine tw_iald (r := 5) (j := 4) (v := (3000 : Int32)) F hH rfl (by decide) hw83 (by decide) (by decide) rfl dX12_set_48 ?_
          refine lv_istore_n (lv' := [(3, .int (3000 : Int32)), (0, .ref (ad 0)), (1, .int (4 : Int32)), (2, .int x2)]) hx hb dX12_set_49 rfl hl (by decide) rfl (fun ls hl => ?_)
          refine lv_aload_n hx hb dX12_set_50 rfl (lv_at hl 1 rfl) ?_
          refine tw_get (r := 0) F hH kf_RX12_83 rfl (by decide) hw2 rfl dX12_set_51 ?_
          refine lv_iload_n hx hb dX12_set_54 rfl (lv_at hl 2 rfl) ?_
          refine lv_iload_n hx hb dX12_set_55 rfl (lv_at hl 3 rfl) ?_
          refine tw_iast (r := 5) (j := 4) F hH rfl (by decide) hw83 (by decide) (by decide) dX12_set_56 (fun H locs w84 hw85 hne86 hH => ?_)
          refine lv_iload_n hx hb dX12_set_57 rfl (lv_at hl 0 rfl) ?_
          exact tw_iret F hH hret hlk rfl (Nat.le_of_ble_eq_true rfl) (Nat.le_of_ble_eq_true rfl) dX12_set_58 (Or.inr (Or.inr (Or.inr (Or.inr (Or.inr (Or.inl (⟨rfl, (by omega)⟩)))))))
      · skip
        refine lv_i2l (v := (200 : Int32).toInt64) hx hb dX12_set_34 rfl ?_
        have el86 : ((200 : Int32)).toInt64.toInt = 200 := by decide
        refine tw_calli F hH (tw_runS (As := [.long x2.toInt64, .long (0 : Int64), .long ((200 : Int32).toInt64)]) (rest := []) F hH (c_X12_in l G 80 ad w1 H.size x2.toInt64 (z2) ((tw_wide _).trans e2) (0 : Int64) 0 (by decide : (0 : Int64).toInt = 0) ((200 : Int32).toInt64) 200 el86) (tw_gl kw_1351 rfl) km_X12_in (tw_gl kw_1352 rfl) rfl rfl ⟨(Nat.le_of_ble_eq_true rfl), (Nat.le_of_ble_eq_true rfl)⟩ rfl hl.1 rfl (Nat.le_of_ble_eq_true rfl) dX12_set_35 ⟨(Nat.le_of_ble_eq_true rfl), (Nat.le_of_ble_eq_true rfl)⟩) (fun r90 w88 H locs hp89 _ hH => ?_)
        rcases hp89 with ⟨rfl, hc91, rfl⟩ | ⟨rfl, hc92, rfl⟩
        · skip
          refine lv_if_ne (tgt := 43) hx hb dX12_set_38 (by decide) (fun c => absurd c (by decide)) (fun _ => ?_)
          refine lv_iconst (v := -1) hx hb dX12_set_41 (by decide) ?_
          exact tw_iret F hH hret hlk rfl (Nat.le_of_ble_eq_true rfl) (Nat.le_of_ble_eq_true rfl) dX12_set_42 (Or.inl (⟨rfl, (Or.inr (Or.inr (Or.inr (Or.inr (Or.inr (Or.inr (Or.inl (by omega))))))))⟩))
        · skip
          refine lv_if_ne (tgt := 43) hx hb dX12_set_38 (by decide) (fun _ => ?_) (fun c => absurd c (by decide))
          refine lv_aload_n hx hb dX12_set_43 rfl (lv_at hl 0 rfl) ?_
          refine tw_get (r := 0) F hH kf_RX12_83 rfl (by decide) hw2 rfl dX12_set_44 ?_
          refine lv_iload_n hx hb dX12_set_47 rfl (lv_at hl 1 rfl) ?_
          have hz95 : z1 = 5 := by omega
          obtain rfl : (5 : Int32) = x1 := (Int32.toInt_inj.mp ((e1.trans hz95).trans (by decide : (5 : Int) = (5 : Int32).toInt))).symm
          have hw96 : w1 5 = .inl (G.2.1 0, 8, .inl (upd (upd (upd (upd (upd (upd (upd (fun _ => 0) 0 (500 : Int32)) 1 (5 : Int32)) 2 (200 : Int32)) 3 (15000 : Int32)) 4 (3000 : Int32)) 5 (50 : Int32)) 6 (300 : Int32))) := (hne3 5 (by decide)).trans (hw_5)
          refine tw_iald (r := 5) (j := 5) (v := (50 : Int32)) F hH rfl (by decide) hw96 (by decide) (by decide) rfl dX12_set_48 ?_
          refine lv_istore_n (lv' := [(3, .int (50 : Int32)), (0, .ref (ad 0)), (1, .int (5 : Int32)), (2, .int x2)]) hx hb dX12_set_49 rfl hl (by decide) rfl (fun ls hl => ?_)
          refine lv_aload_n hx hb dX12_set_50 rfl (lv_at hl 1 rfl) ?_
          refine tw_get (r := 0) F hH kf_RX12_83 rfl (by decide) hw2 rfl dX12_set_51 ?_
          refine lv_iload_n hx hb dX12_set_54 rfl (lv_at hl 2 rfl) ?_
          refine lv_iload_n hx hb dX12_set_55 rfl (lv_at hl 3 rfl) ?_
          refine tw_iast (r := 5) (j := 5) F hH rfl (by decide) hw96 (by decide) (by decide) dX12_set_56 (fun H locs w97 hw98 hne99 hH => ?_)
          refine lv_iload_n hx hb dX12_set_57 rfl (lv_at hl 0 rfl) ?_
          exact tw_iret F hH hret hlk rfl (Nat.le_of_ble_eq_true rfl) (Nat.le_of_ble_eq_true rfl) dX12_set_58 (Or.inr (Or.inr (Or.inr (Or.inr (Or.inr (Or.inr (Or.inl (⟨rfl, (by omega)⟩))))))))
      · skip
        refine lv_i2l (v := (9 : Int32).toInt64) hx hb dX12_set_34 rfl ?_
        have el99 : ((9 : Int32)).toInt64.toInt = 9 := by decide
        refine tw_calli F hH (tw_runS (As := [.long x2.toInt64, .long (0 : Int64), .long ((9 : Int32).toInt64)]) (rest := []) F hH (c_X12_in l G 80 ad w1 H.size x2.toInt64 (z2) ((tw_wide _).trans e2) (0 : Int64) 0 (by decide : (0 : Int64).toInt = 0) ((9 : Int32).toInt64) 9 el99) (tw_gl kw_1351 rfl) km_X12_in (tw_gl kw_1352 rfl) rfl rfl ⟨(Nat.le_of_ble_eq_true rfl), (Nat.le_of_ble_eq_true rfl)⟩ rfl hl.1 rfl (Nat.le_of_ble_eq_true rfl) dX12_set_35 ⟨(Nat.le_of_ble_eq_true rfl), (Nat.le_of_ble_eq_true rfl)⟩) (fun r103 w101 H locs hp102 _ hH => ?_)
        rcases hp102 with ⟨rfl, hc104, rfl⟩ | ⟨rfl, hc105, rfl⟩
        · skip
          refine lv_if_ne (tgt := 43) hx hb dX12_set_38 (by decide) (fun c => absurd c (by decide)) (fun _ => ?_)
          refine lv_iconst (v := -1) hx hb dX12_set_41 (by decide) ?_
          exact tw_iret F hH hret hlk rfl (Nat.le_of_ble_eq_true rfl) (Nat.le_of_ble_eq_true rfl) dX12_set_42 (Or.inl (⟨rfl, (Or.inr (Or.inr (Or.inr (Or.inr (Or.inr (Or.inr (Or.inr (Or.inl (by omega)))))))))⟩))
        · skip
          refine lv_if_ne (tgt := 43) hx hb dX12_set_38 (by decide) (fun _ => ?_) (fun c => absurd c (by decide))
          refine lv_aload_n hx hb dX12_set_43 rfl (lv_at hl 0 rfl) ?_
          refine tw_get (r := 0) F hH kf_RX12_83 rfl (by decide) hw2 rfl dX12_set_44 ?_
          refine lv_iload_n hx hb dX12_set_47 rfl (lv_at hl 1 rfl) ?_
          have hz108 : z1 = 7 := by omega
          obtain rfl : (7 : Int32) = x1 := (Int32.toInt_inj.mp ((e1.trans hz108).trans (by decide : (7 : Int) = (7 : Int32).toInt))).symm
          have hw109 : w1 5 = .inl (G.2.1 0, 8, .inl (upd (upd (upd (upd (upd (upd (upd (fun _ => 0) 0 (500 : Int32)) 1 (5 : Int32)) 2 (200 : Int32)) 3 (15000 : Int32)) 4 (3000 : Int32)) 5 (50 : Int32)) 6 (300 : Int32))) := (hne3 5 (by decide)).trans (hw_5)
          refine tw_iald (r := 5) (j := 7) (v := (0 : Int32)) F hH rfl (by decide) hw109 (by decide) (by decide) rfl dX12_set_48 ?_
          refine lv_istore_n (lv' := [(3, .int (0 : Int32)), (0, .ref (ad 0)), (1, .int (7 : Int32)), (2, .int x2)]) hx hb dX12_set_49 rfl hl (by decide) rfl (fun ls hl => ?_)
          refine lv_aload_n hx hb dX12_set_50 rfl (lv_at hl 1 rfl) ?_
          refine tw_get (r := 0) F hH kf_RX12_83 rfl (by decide) hw2 rfl dX12_set_51 ?_
          refine lv_iload_n hx hb dX12_set_54 rfl (lv_at hl 2 rfl) ?_
          refine lv_iload_n hx hb dX12_set_55 rfl (lv_at hl 3 rfl) ?_
          refine tw_iast (r := 5) (j := 7) F hH rfl (by decide) hw109 (by decide) (by decide) dX12_set_56 (fun H locs w110 hw111 hne112 hH => ?_)
          refine lv_iload_n hx hb dX12_set_57 rfl (lv_at hl 0 rfl) ?_
          exact tw_iret F hH hret hlk rfl (Nat.le_of_ble_eq_true rfl) (Nat.le_of_ble_eq_true rfl) dX12_set_58 (Or.inr (Or.inr (Or.inr (Or.inr (Or.inr (Or.inr (Or.inr (Or.inl (⟨rfl, (by omega)⟩)))))))))
    · have c11 := (tw_eq e1 (by decide : (0 : Int32).toInt = 0)).mp c11
      refine lv_ldc2 (v := 100) hx hb hown (hts _ (tw_gl kw_1384 rfl)) dX12_set_23 ?_
      refine lv_goto (tgt := 30) hx hb dX12_set_26 (by decide) ?_
      refine lv_iload_n hx hb dX12_set_30 rfl (lv_at hl 1 rfl) ?_
      refine tw_calli F hH (tw_runS (As := [.int x1]) (rest := [.long (100 : Int64), .long x2.toInt64]) F hH (c_X12_mostOf l G ad w1 H.size x1 (z1) e1) (tw_gl kw_1385 rfl) km_X12_mostOf (tw_gl kw_1386 rfl) rfl rfl ⟨(Nat.le_of_ble_eq_true rfl), (Nat.le_of_ble_eq_true rfl)⟩ rfl hl.1 rfl (Nat.le_of_ble_eq_true rfl) dX12_set_31 ⟨(Nat.le_of_ble_eq_true rfl), (Nat.le_of_ble_eq_true rfl)⟩) (fun r115 w113 H locs hp114 _ hH => ?_)
      rcases hp114 with ⟨rfl, hc116, rfl⟩ | ⟨rfl, hc117, rfl⟩ | ⟨rfl, hc118, rfl⟩ | ⟨rfl, hc119, rfl⟩ | ⟨rfl, hc120, rfl⟩ | ⟨rfl, hc121, rfl⟩ | ⟨rfl, hc122, rfl⟩
      · skip
        refine lv_i2l (v := (2000 : Int32).toInt64) hx hb dX12_set_34 rfl ?_
        have el122 : ((2000 : Int32)).toInt64.toInt = 2000 := by decide
        refine tw_calli F hH (tw_runS (As := [.long x2.toInt64, .long (100 : Int64), .long ((2000 : Int32).toInt64)]) (rest := []) F hH (c_X12_in l G 80 ad w1 H.size x2.toInt64 (z2) ((tw_wide _).trans e2) (100 : Int64) 100 (by decide : (100 : Int64).toInt = 100) ((2000 : Int32).toInt64) 2000 el122) (tw_gl kw_1351 rfl) km_X12_in (tw_gl kw_1352 rfl) rfl rfl ⟨(Nat.le_of_ble_eq_true rfl), (Nat.le_of_ble_eq_true rfl)⟩ rfl hl.1 rfl (Nat.le_of_ble_eq_true rfl) dX12_set_35 ⟨(Nat.le_of_ble_eq_true rfl), (Nat.le_of_ble_eq_true rfl)⟩) (fun r126 w124 H locs hp125 _ hH => ?_)
        rcases hp125 with ⟨rfl, hc127, rfl⟩ | ⟨rfl, hc128, rfl⟩
        · skip
          refine lv_if_ne (tgt := 43) hx hb dX12_set_38 (by decide) (fun c => absurd c (by decide)) (fun _ => ?_)
          refine lv_iconst (v := -1) hx hb dX12_set_41 (by decide) ?_
          exact tw_iret F hH hret hlk rfl (Nat.le_of_ble_eq_true rfl) (Nat.le_of_ble_eq_true rfl) dX12_set_42 (Or.inl (⟨rfl, (Or.inr (Or.inr (Or.inr (Or.inr (Or.inr (Or.inr (Or.inr (Or.inr (by omega)))))))))⟩))
        · skip
          refine lv_if_ne (tgt := 43) hx hb dX12_set_38 (by decide) (fun _ => ?_) (fun c => absurd c (by decide))
          refine lv_aload_n hx hb dX12_set_43 rfl (lv_at hl 0 rfl) ?_
          refine tw_get (r := 0) F hH kf_RX12_83 rfl (by decide) hw2 rfl dX12_set_44 ?_
          refine lv_iload_n hx hb dX12_set_47 rfl (lv_at hl 1 rfl) ?_
          have hz131 : z1 = 0 := by omega
          obtain rfl : (0 : Int32) = x1 := (Int32.toInt_inj.mp ((e1.trans hz131).trans (by decide : (0 : Int) = (0 : Int32).toInt))).symm
          have hw132 : w1 5 = .inl (G.2.1 0, 8, .inl (upd (upd (upd (upd (upd (upd (upd (fun _ => 0) 0 (500 : Int32)) 1 (5 : Int32)) 2 (200 : Int32)) 3 (15000 : Int32)) 4 (3000 : Int32)) 5 (50 : Int32)) 6 (300 : Int32))) := (hne3 5 (by decide)).trans (hw_5)
          refine tw_iald (r := 5) (j := 0) (v := (500 : Int32)) F hH rfl (by decide) hw132 (by decide) (by decide) rfl dX12_set_48 ?_
          refine lv_istore_n (lv' := [(3, .int (500 : Int32)), (0, .ref (ad 0)), (1, .int (0 : Int32)), (2, .int x2)]) hx hb dX12_set_49 rfl hl (by decide) rfl (fun ls hl => ?_)
          refine lv_aload_n hx hb dX12_set_50 rfl (lv_at hl 1 rfl) ?_
          refine tw_get (r := 0) F hH kf_RX12_83 rfl (by decide) hw2 rfl dX12_set_51 ?_
          refine lv_iload_n hx hb dX12_set_54 rfl (lv_at hl 2 rfl) ?_
          refine lv_iload_n hx hb dX12_set_55 rfl (lv_at hl 3 rfl) ?_
          refine tw_iast (r := 5) (j := 0) F hH rfl (by decide) hw132 (by decide) (by decide) dX12_set_56 (fun H locs w133 hw134 hne135 hH => ?_)
          refine lv_iload_n hx hb dX12_set_57 rfl (lv_at hl 0 rfl) ?_
          exact tw_iret F hH hret hlk rfl (Nat.le_of_ble_eq_true rfl) (Nat.le_of_ble_eq_true rfl) dX12_set_58 (Or.inr (Or.inr (Or.inr (Or.inr (Or.inr (Or.inr (Or.inr (Or.inr (⟨rfl, (by omega)⟩)))))))))
      · exfalso; omega
      · exfalso; omega
      · exfalso; omega
      · exfalso; omega
      · exfalso; omega
      · exfalso; omega
set_option maxHeartbeats 4000000 in
set_option maxRecDepth 100000 in
theorem c_X12_rain (l : Launch) (G : tw_G) (ad : Nat → Nat) (w : Nat → va_E) (sz : Nat) (x1 : Int32) (z1 : Int) (e1 : x1.toInt = z1) (x2 : Int32) (z2 : Int) (e2 : x2.toInt = z2) (x3 : Int32) (z3 : Int) (e3 : x3.toInt = z3) (hw_0 : w 0 = .inr (12, [.int (0 : Int32), .int (2 : Int32), .int (1 : Int32), .ref (ad 1), .ref (ad 2), .ref (ad 3), .ref (ad 4), .ref (ad 5), .int (0 : Int32), .ref (ad 6), .ref (ad 7), .ref (ad 8), .int (0 : Int32), .ref (ad 9), .ref (ad 10), .ref (ad 11), .ref (ad 12), .int (0 : Int32), .ref (ad 13), .ref (ad 14), .ref (ad 15), .ref (ad 16), .ref (ad 17), .ref (ad 18), .ref (ad 19), .ref (ad 20), .ref (ad 21), .ref (ad 22), .ref (ad 23), .ref (ad 24), .ref (ad 25), .ref (ad 26), .ref (ad 27), .ref (ad 28), .ref (ad 29), .ref (ad 30), .ref (ad 31), .ref (ad 32), .ref (ad 33), .ref (ad 34), .int (0 : Int32), .int (0 : Int32), .int (0 : Int32), .ref (G.2.2 (100 + 10)), .ref (ad 35), .ref (ad 36), .ref (ad 37), .int (0 : Int32), .ref (ad 38), .ref (ad 39), .ref (ad 40), .ref (ad 41), .ref (ad 42), .ref (ad 43), .ref (ad 44), .ref (ad 45), .ref (ad 46), .ref (ad 47), .ref (ad 48), .ref (ad 49), .ref (ad 50), .ref (ad 51), .ref (ad 52), .ref (ad 53), .ref (ad 54), .ref (ad 55), .ref (ad 56), .ref (ad 57), .ref (ad 58), .ref (ad 59), .int (0 : Int32), .ref (ad 60), .int (0 : Int32), .ref (ad 61), .ref (ad 62), .int (0 : Int32), .ref (ad 63), .ref (ad 64), .ref (ad 65), .ref (ad 66), .ref (ad 67), .ref (ad 68), .int (0 : Int32), .ref (ad 69), .ref (ad 70), .ref (ad 71), .ref (ad 72), .ref (ad 73), .int (0 : Int32), .int (0 : Int32), .int (0 : Int32), .ref (ad 74), .ref (ad 75), .ref (ad 76), .ref (ad 77), .ref (ad 78), .ref (ad 79)])) (hw_6 : w 6 = .inl (G.2.1 0, 30, .inl (fun _ => 0))) (hw_7 : w 7 = .inl (G.2.1 0, 30, .inl (fun _ => 0))) (hw_8 : w 8 = .inl (G.2.1 0, 30, .inl (fun _ => 0))) : Met l yX12_rain (tw_ws yX12_rain cX12_rain 4 (some .int)) ({ frames := 2, cells := 0, slots := 0, locals := 46 }) (tw_Pre G 80 ad w sz [.ref (ad 0), .int x1, .int x2, .int x3]) (tw_Qi G 80 ad (fun r w1 => ((-1 : Int32) = r ∧ ((((((z1 < 0)) ∨ ((¬ (z1 < 0)) ∧ (1 < z1))))) ∨ ((((¬ (z1 < 0)) ∧ (¬ (1 < z1)))) ∧ (z2 < 0)) ∨ ((((¬ (z1 < 0)) ∧ (¬ (1 < z1)))) ∧ (¬ (z2 < 0)) ∧ (((z3 < 0)) ∨ ((¬ (z3 < 0)) ∧ (100 < z3)))))) ∨ ((1 : Int32) = r ∧ ((((¬ (z1 < 0)) ∧ (¬ (1 < z1)))) ∧ (¬ (z2 < 0)) ∧ ((¬ (z3 < 0)) ∧ (¬ (100 < z3)))))) sz) 0 0 (tw_A 80 ad sz) := by
  refine tw_met (by decide) (Nat.le_of_ble_eq_true rfl) ?_
  intro p e s m args below meth c F hret hlk hin hargs hsz hH ls hl
  have hx := F.1.1
  have hb := F.1.2.1
  have hown := F.1.2.2.2.1
  have hts := F.1.2.2.2.2
  have hl : lv_has ls 4 [(0, .ref (ad 0)), (1, .int x1), (2, .int x2), (3, .int x3)] := hl
  generalize hH0 : s.heap = H at hH ⊢
  refine lv_aload_n hx hb dX12_rain_0 rfl (lv_at hl 0 rfl) ?_
  refine lv_iconst (v := 0) hx hb dX12_rain_1 (by decide) ?_
  refine tw_put (r := 0) F hH kf_RX12_3 kp_X12_0 rfl (by decide) hw_0 (Nat.le_of_ble_eq_true rfl) rfl rfl dX12_rain_2 (fun H locs w1 hw2 hne3 hH => ?_)
  have hw2 : w1 0 = .inr (12, [.int (0 : Int32), .int (2 : Int32), .int (1 : Int32), .ref (ad 1), .ref (ad 2), .ref (ad 3), .ref (ad 4), .ref (ad 5), .int (0 : Int32), .ref (ad 6), .ref (ad 7), .ref (ad 8), .int (0 : Int32), .ref (ad 9), .ref (ad 10), .ref (ad 11), .ref (ad 12), .int (0 : Int32), .ref (ad 13), .ref (ad 14), .ref (ad 15), .ref (ad 16), .ref (ad 17), .ref (ad 18), .ref (ad 19), .ref (ad 20), .ref (ad 21), .ref (ad 22), .ref (ad 23), .ref (ad 24), .ref (ad 25), .ref (ad 26), .ref (ad 27), .ref (ad 28), .ref (ad 29), .ref (ad 30), .ref (ad 31), .ref (ad 32), .ref (ad 33), .ref (ad 34), .int (0 : Int32), .int (0 : Int32), .int (0 : Int32), .ref (G.2.2 (100 + 10)), .ref (ad 35), .ref (ad 36), .ref (ad 37), .int (0 : Int32), .ref (ad 38), .ref (ad 39), .ref (ad 40), .ref (ad 41), .ref (ad 42), .ref (ad 43), .ref (ad 44), .ref (ad 45), .ref (ad 46), .ref (ad 47), .ref (ad 48), .ref (ad 49), .ref (ad 50), .ref (ad 51), .ref (ad 52), .ref (ad 53), .ref (ad 54), .ref (ad 55), .ref (ad 56), .ref (ad 57), .ref (ad 58), .ref (ad 59), .int (0 : Int32), .ref (ad 60), .int (0 : Int32), .ref (ad 61), .ref (ad 62), .int (0 : Int32), .ref (ad 63), .ref (ad 64), .ref (ad 65), .ref (ad 66), .ref (ad 67), .ref (ad 68), .int (0 : Int32), .ref (ad 69), .ref (ad 70), .ref (ad 71), .ref (ad 72), .ref (ad 73), .int (0 : Int32), .int (0 : Int32), .int (0 : Int32), .ref (ad 74), .ref (ad 75), .ref (ad 76), .ref (ad 77), .ref (ad 78), .ref (ad 79)]) := hw2
  refine lv_aload_n hx hb dX12_rain_5 rfl (lv_at hl 0 rfl) ?_
  refine lv_iload_n hx hb dX12_rain_6 rfl (lv_at hl 1 rfl) ?_
  refine tw_calli F hH (tw_runV (r := 0) (As := [.int x1]) (rest := []) F hH (c_X12_isSector l G ad w1 H.size x1 (z1) e1 hw2) (tw_gl kw_1364 rfl) km_X12_isSector kv_X12_isSector rfl rfl ⟨(Nat.le_of_ble_eq_true rfl), (Nat.le_of_ble_eq_true rfl)⟩ (by decide) hw2 rfl rfl hl.1 rfl (Nat.le_of_ble_eq_true rfl) dX12_rain_7 ⟨(Nat.le_of_ble_eq_true rfl), (Nat.le_of_ble_eq_true rfl)⟩) (fun r6 w4 H locs hp5 _ hH => ?_)
  rcases hp5 with ⟨rfl, hc7, rfl⟩ | ⟨rfl, hc8, rfl⟩
  · skip
    refine lv_if_eq (tgt := 38) hx hb dX12_rain_10 (by decide) (fun _ => ?_) (fun c => absurd c (by decide))
    refine lv_iconst (v := -1) hx hb dX12_rain_38 (by decide) ?_
    exact tw_iret F hH hret hlk rfl (Nat.le_of_ble_eq_true rfl) (Nat.le_of_ble_eq_true rfl) dX12_rain_39 (Or.inl (⟨rfl, (Or.inl (by omega))⟩))
  · skip
    refine lv_if_eq (tgt := 38) hx hb dX12_rain_10 (by decide) (fun c => absurd c (by decide)) (fun _ => ?_)
    refine lv_iload_n hx hb dX12_rain_13 rfl (lv_at hl 2 rfl) ?_
    refine lv_if_lt (tgt := 38) hx hb dX12_rain_14 (by decide) (fun c11 => ?_) (fun c11 => ?_)
    · have c11 := (tw_lt e2 (by decide : (0 : Int32).toInt = 0)).mp c11
      refine lv_iconst (v := -1) hx hb dX12_rain_38 (by decide) ?_
      exact tw_iret F hH hret hlk rfl (Nat.le_of_ble_eq_true rfl) (Nat.le_of_ble_eq_true rfl) dX12_rain_39 (Or.inl (⟨rfl, (Or.inr (Or.inl (by omega)))⟩))
    · have c11 := mt (tw_lt e2 (by decide : (0 : Int32).toInt = 0)).mpr c11
      refine lv_iload_n hx hb dX12_rain_17 rfl (lv_at hl 3 rfl) ?_
      refine lv_i2l (v := x3.toInt64) hx hb dX12_rain_18 rfl ?_
      refine lv_lconst (v := 0) hx hb dX12_rain_19 rfl ?_
      refine lv_ldc2 (v := 100) hx hb hown (hts _ (tw_gl kw_1384 rfl)) dX12_rain_20 ?_
      refine tw_calli F hH (tw_runS (As := [.long x3.toInt64, .long (0 : Int64), .long (100 : Int64)]) (rest := []) F hH (c_X12_in l G 80 ad w1 H.size x3.toInt64 (z3) ((tw_wide _).trans e3) (0 : Int64) 0 (by decide : (0 : Int64).toInt = 0) (100 : Int64) 100 (by decide : (100 : Int64).toInt = 100)) (tw_gl kw_1351 rfl) km_X12_in (tw_gl kw_1352 rfl) rfl rfl ⟨(Nat.le_of_ble_eq_true rfl), (Nat.le_of_ble_eq_true rfl)⟩ rfl hl.1 rfl (Nat.le_of_ble_eq_true rfl) dX12_rain_23 ⟨(Nat.le_of_ble_eq_true rfl), (Nat.le_of_ble_eq_true rfl)⟩) (fun r14 w12 H locs hp13 _ hH => ?_)
      rcases hp13 with ⟨rfl, hc15, rfl⟩ | ⟨rfl, hc16, rfl⟩
      · skip
        refine lv_if_eq (tgt := 38) hx hb dX12_rain_26 (by decide) (fun _ => ?_) (fun c => absurd c (by decide))
        refine lv_iconst (v := -1) hx hb dX12_rain_38 (by decide) ?_
        exact tw_iret F hH hret hlk rfl (Nat.le_of_ble_eq_true rfl) (Nat.le_of_ble_eq_true rfl) dX12_rain_39 (Or.inl (⟨rfl, (Or.inr (Or.inr (by omega)))⟩))
      · skip
        refine lv_if_eq (tgt := 38) hx hb dX12_rain_26 (by decide) (fun c => absurd c (by decide)) (fun _ => ?_)
        refine lv_aload_n hx hb dX12_rain_29 rfl (lv_at hl 0 rfl) ?_
        refine tw_get (r := 0) F hH kf_RX12_24 rfl (by decide) hw2 rfl dX12_rain_30 ?_
        refine lv_bipush (v := 30) hx hb dX12_rain_33 (by decide) ?_
        refine lv_icmp_ne (tgt := 40) hx hb dX12_rain_35 (by decide) (fun _ => ?_) (fun c => absurd c (by decide))
        refine lv_aload_n hx hb dX12_rain_40 rfl (lv_at hl 0 rfl) ?_
        refine tw_get (r := 0) F hH kf_RX12_86 rfl (by decide) hw2 rfl dX12_rain_41 ?_
        refine lv_aload_n hx hb dX12_rain_44 rfl (lv_at hl 0 rfl) ?_
        refine tw_get (r := 0) F hH kf_RX12_24 rfl (by decide) hw2 rfl dX12_rain_45 ?_
        refine lv_iload_n hx hb dX12_rain_48 rfl (lv_at hl 1 rfl) ?_
        have hw20 : w1 6 = .inl (G.2.1 0, 30, .inl (fun _ => 0)) := (hne3 6 (by decide)).trans (hw_6)
        refine tw_iast (r := 6) (j := 0) F hH rfl (by decide) hw20 (by decide) (by decide) dX12_rain_49 (fun H locs w21 hw22 hne23 hH => ?_)
        refine lv_aload_n hx hb dX12_rain_50 rfl (lv_at hl 0 rfl) ?_
        have hw24 : w21 0 = .inr (12, [.int (0 : Int32), .int (2 : Int32), .int (1 : Int32), .ref (ad 1), .ref (ad 2), .ref (ad 3), .ref (ad 4), .ref (ad 5), .int (0 : Int32), .ref (ad 6), .ref (ad 7), .ref (ad 8), .int (0 : Int32), .ref (ad 9), .ref (ad 10), .ref (ad 11), .ref (ad 12), .int (0 : Int32), .ref (ad 13), .ref (ad 14), .ref (ad 15), .ref (ad 16), .ref (ad 17), .ref (ad 18), .ref (ad 19), .ref (ad 20), .ref (ad 21), .ref (ad 22), .ref (ad 23), .ref (ad 24), .ref (ad 25), .ref (ad 26), .ref (ad 27), .ref (ad 28), .ref (ad 29), .ref (ad 30), .ref (ad 31), .ref (ad 32), .ref (ad 33), .ref (ad 34), .int (0 : Int32), .int (0 : Int32), .int (0 : Int32), .ref (G.2.2 (100 + 10)), .ref (ad 35), .ref (ad 36), .ref (ad 37), .int (0 : Int32), .ref (ad 38), .ref (ad 39), .ref (ad 40), .ref (ad 41), .ref (ad 42), .ref (ad 43), .ref (ad 44), .ref (ad 45), .ref (ad 46), .ref (ad 47), .ref (ad 48), .ref (ad 49), .ref (ad 50), .ref (ad 51), .ref (ad 52), .ref (ad 53), .ref (ad 54), .ref (ad 55), .ref (ad 56), .ref (ad 57), .ref (ad 58), .ref (ad 59), .int (0 : Int32), .ref (ad 60), .int (0 : Int32), .ref (ad 61), .ref (ad 62), .int (0 : Int32), .ref (ad 63), .ref (ad 64), .ref (ad 65), .ref (ad 66), .ref (ad 67), .ref (ad 68), .int (0 : Int32), .ref (ad 69), .ref (ad 70), .ref (ad 71), .ref (ad 72), .ref (ad 73), .int (0 : Int32), .int (0 : Int32), .int (0 : Int32), .ref (ad 74), .ref (ad 75), .ref (ad 76), .ref (ad 77), .ref (ad 78), .ref (ad 79)]) := (hne23 0 (by decide)).trans (hw2)
        refine tw_get (r := 0) F hH kf_RX12_89 rfl (by decide) hw24 rfl dX12_rain_51 ?_
        refine lv_aload_n hx hb dX12_rain_54 rfl (lv_at hl 0 rfl) ?_
        refine tw_get (r := 0) F hH kf_RX12_24 rfl (by decide) hw24 rfl dX12_rain_55 ?_
        refine lv_iload_n hx hb dX12_rain_58 rfl (lv_at hl 2 rfl) ?_
        have hw25 : w21 7 = .inl (G.2.1 0, 30, .inl (fun _ => 0)) := (hne23 7 (by decide)).trans ((hne3 7 (by decide)).trans (hw_7))
        refine tw_iast (r := 7) (j := 0) F hH rfl (by decide) hw25 (by decide) (by decide) dX12_rain_59 (fun H locs w26 hw27 hne28 hH => ?_)
        refine lv_aload_n hx hb dX12_rain_60 rfl (lv_at hl 0 rfl) ?_
        have hw29 : w26 0 = .inr (12, [.int (0 : Int32), .int (2 : Int32), .int (1 : Int32), .ref (ad 1), .ref (ad 2), .ref (ad 3), .ref (ad 4), .ref (ad 5), .int (0 : Int32), .ref (ad 6), .ref (ad 7), .ref (ad 8), .int (0 : Int32), .ref (ad 9), .ref (ad 10), .ref (ad 11), .ref (ad 12), .int (0 : Int32), .ref (ad 13), .ref (ad 14), .ref (ad 15), .ref (ad 16), .ref (ad 17), .ref (ad 18), .ref (ad 19), .ref (ad 20), .ref (ad 21), .ref (ad 22), .ref (ad 23), .ref (ad 24), .ref (ad 25), .ref (ad 26), .ref (ad 27), .ref (ad 28), .ref (ad 29), .ref (ad 30), .ref (ad 31), .ref (ad 32), .ref (ad 33), .ref (ad 34), .int (0 : Int32), .int (0 : Int32), .int (0 : Int32), .ref (G.2.2 (100 + 10)), .ref (ad 35), .ref (ad 36), .ref (ad 37), .int (0 : Int32), .ref (ad 38), .ref (ad 39), .ref (ad 40), .ref (ad 41), .ref (ad 42), .ref (ad 43), .ref (ad 44), .ref (ad 45), .ref (ad 46), .ref (ad 47), .ref (ad 48), .ref (ad 49), .ref (ad 50), .ref (ad 51), .ref (ad 52), .ref (ad 53), .ref (ad 54), .ref (ad 55), .ref (ad 56), .ref (ad 57), .ref (ad 58), .ref (ad 59), .int (0 : Int32), .ref (ad 60), .int (0 : Int32), .ref (ad 61), .ref (ad 62), .int (0 : Int32), .ref (ad 63), .ref (ad 64), .ref (ad 65), .ref (ad 66), .ref (ad 67), .ref (ad 68), .int (0 : Int32), .ref (ad 69), .ref (ad 70), .ref (ad 71), .ref (ad 72), .ref (ad 73), .int (0 : Int32), .int (0 : Int32), .int (0 : Int32), .ref (ad 74), .ref (ad 75), .ref (ad 76), .ref (ad 77), .ref (ad 78), .ref (ad 79)]) := (hne28 0 (by decide)).trans (hw24)
        refine tw_get (r := 0) F hH kf_RX12_92 rfl (by decide) hw29 rfl dX12_rain_61 ?_
        refine lv_aload_n hx hb dX12_rain_64 rfl (lv_at hl 0 rfl) ?_
        refine tw_get (r := 0) F hH kf_RX12_24 rfl (by decide) hw29 rfl dX12_rain_65 ?_
        refine lv_iload_n hx hb dX12_rain_68 rfl (lv_at hl 3 rfl) ?_
        have hw30 : w26 8 = .inl (G.2.1 0, 30, .inl (fun _ => 0)) := (hne28 8 (by decide)).trans ((hne23 8 (by decide)).trans ((hne3 8 (by decide)).trans (hw_8)))
        refine tw_iast (r := 8) (j := 0) F hH rfl (by decide) hw30 (by decide) (by decide) dX12_rain_69 (fun H locs w31 hw32 hne33 hH => ?_)
        refine lv_aload_n hx hb dX12_rain_70 rfl (lv_at hl 0 rfl) ?_
        refine lv_dup hx hb dX12_rain_71 rfl ?_
        have hw34 : w31 0 = .inr (12, [.int (0 : Int32), .int (2 : Int32), .int (1 : Int32), .ref (ad 1), .ref (ad 2), .ref (ad 3), .ref (ad 4), .ref (ad 5), .int (0 : Int32), .ref (ad 6), .ref (ad 7), .ref (ad 8), .int (0 : Int32), .ref (ad 9), .ref (ad 10), .ref (ad 11), .ref (ad 12), .int (0 : Int32), .ref (ad 13), .ref (ad 14), .ref (ad 15), .ref (ad 16), .ref (ad 17), .ref (ad 18), .ref (ad 19), .ref (ad 20), .ref (ad 21), .ref (ad 22), .ref (ad 23), .ref (ad 24), .ref (ad 25), .ref (ad 26), .ref (ad 27), .ref (ad 28), .ref (ad 29), .ref (ad 30), .ref (ad 31), .ref (ad 32), .ref (ad 33), .ref (ad 34), .int (0 : Int32), .int (0 : Int32), .int (0 : Int32), .ref (G.2.2 (100 + 10)), .ref (ad 35), .ref (ad 36), .ref (ad 37), .int (0 : Int32), .ref (ad 38), .ref (ad 39), .ref (ad 40), .ref (ad 41), .ref (ad 42), .ref (ad 43), .ref (ad 44), .ref (ad 45), .ref (ad 46), .ref (ad 47), .ref (ad 48), .ref (ad 49), .ref (ad 50), .ref (ad 51), .ref (ad 52), .ref (ad 53), .ref (ad 54), .ref (ad 55), .ref (ad 56), .ref (ad 57), .ref (ad 58), .ref (ad 59), .int (0 : Int32), .ref (ad 60), .int (0 : Int32), .ref (ad 61), .ref (ad 62), .int (0 : Int32), .ref (ad 63), .ref (ad 64), .ref (ad 65), .ref (ad 66), .ref (ad 67), .ref (ad 68), .int (0 : Int32), .ref (ad 69), .ref (ad 70), .ref (ad 71), .ref (ad 72), .ref (ad 73), .int (0 : Int32), .int (0 : Int32), .int (0 : Int32), .ref (ad 74), .ref (ad 75), .ref (ad 76), .ref (ad 77), .ref (ad 78), .ref (ad 79)]) := (hne33 0 (by decide)).trans (hw29)
        refine tw_get (r := 0) F hH kf_RX12_24 rfl (by decide) hw34 rfl dX12_rain_72 ?_
        refine lv_iconst (v := 1) hx hb dX12_rain_75 (by decide) ?_
        refine lv_iadd hx hb dX12_rain_76 ?_
        refine tw_cv (v := (1 : Int32)) (by decide) ?_
        refine tw_put (r := 0) F hH kf_RX12_24 kp_X12_8 rfl (by decide) hw34 (Nat.le_of_ble_eq_true rfl) rfl rfl dX12_rain_77 (fun H locs w35 hw36 hne37 hH => ?_)
        have hw36 : w35 0 = .inr (12, [.int (0 : Int32), .int (2 : Int32), .int (1 : Int32), .ref (ad 1), .ref (ad 2), .ref (ad 3), .ref (ad 4), .ref (ad 5), .int (1 : Int32), .ref (ad 6), .ref (ad 7), .ref (ad 8), .int (0 : Int32), .ref (ad 9), .ref (ad 10), .ref (ad 11), .ref (ad 12), .int (0 : Int32), .ref (ad 13), .ref (ad 14), .ref (ad 15), .ref (ad 16), .ref (ad 17), .ref (ad 18), .ref (ad 19), .ref (ad 20), .ref (ad 21), .ref (ad 22), .ref (ad 23), .ref (ad 24), .ref (ad 25), .ref (ad 26), .ref (ad 27), .ref (ad 28), .ref (ad 29), .ref (ad 30), .ref (ad 31), .ref (ad 32), .ref (ad 33), .ref (ad 34), .int (0 : Int32), .int (0 : Int32), .int (0 : Int32), .ref (G.2.2 (100 + 10)), .ref (ad 35), .ref (ad 36), .ref (ad 37), .int (0 : Int32), .ref (ad 38), .ref (ad 39), .ref (ad 40), .ref (ad 41), .ref (ad 42), .ref (ad 43), .ref (ad 44), .ref (ad 45), .ref (ad 46), .ref (ad 47), .ref (ad 48), .ref (ad 49), .ref (ad 50), .ref (ad 51), .ref (ad 52), .ref (ad 53), .ref (ad 54), .ref (ad 55), .ref (ad 56), .ref (ad 57), .ref (ad 58), .ref (ad 59), .int (0 : Int32), .ref (ad 60), .int (0 : Int32), .ref (ad 61), .ref (ad 62), .int (0 : Int32), .ref (ad 63), .ref (ad 64), .ref (ad 65), .ref (ad 66), .ref (ad 67), .ref (ad 68), .int (0 : Int32), .ref (ad 69), .ref (ad 70), .ref (ad 71), .ref (ad 72), .ref (ad 73), .int (0 : Int32), .int (0 : Int32), .int (0 : Int32), .ref (ad 74), .ref (ad 75), .ref (ad 76), .ref (ad 77), .ref (ad 78), .ref (ad 79)]) := hw36
        refine lv_aload_n hx hb dX12_rain_80 rfl (lv_at hl 0 rfl) ?_
        refine tw_get (r := 0) F hH kf_RX12_24 rfl (by decide) hw36 rfl dX12_rain_81 ?_
        exact tw_iret F hH hret hlk rfl (Nat.le_of_ble_eq_true rfl) (Nat.le_of_ble_eq_true rfl) dX12_rain_84 (Or.inr (⟨rfl, (by omega)⟩))
