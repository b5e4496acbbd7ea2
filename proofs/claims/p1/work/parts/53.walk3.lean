set_option maxHeartbeats 4000000 in
set_option maxRecDepth 100000 in
theorem c_X9_tyreNumber_v5 (l : Launch) (G : tw_G) (ad : Nat → Nat) (w : Nat → va_E) (sz : Nat) (x1 : Int32) (z1 : Int) (e1 : x1.toInt = z1) (hw_4 : w 4 = .inr (9, [.int (2 : Int32), .int (1 : Int32), .ref (ad 5), .ref (ad 6), .ref (ad 7), .ref (ad 8), .ref (ad 9), .ref (ad 10), .ref (ad 12)])) (hw_8 : w 8 = .inl (G.2.1 0, 24, .inl (upd (upd (upd (upd (upd (upd (upd (upd (upd (upd (upd (upd (upd (upd (upd (upd (upd (upd (upd (upd (upd (upd (upd (upd (fun _ => 0) 0 (0 : Int32)) 1 (10 : Int32)) 2 (40 : Int32)) 3 (1000 : Int32)) 4 (0 : Int32)) 5 (5 : Int32)) 6 (0 : Int32)) 7 (10 : Int32)) 8 (40 : Int32)) 9 (1000 : Int32)) 10 (0 : Int32)) 11 (5 : Int32)) 12 (0 : Int32)) 13 (10 : Int32)) 14 (40 : Int32)) 15 (1000 : Int32)) 16 (0 : Int32)) 17 (5 : Int32)) 18 (0 : Int32)) 19 (10 : Int32)) 20 (40 : Int32)) 21 (1000 : Int32)) 22 (0 : Int32)) 23 (5 : Int32)))) : Met l yX9_tyreNumber (tw_ws yX9_tyreNumber cX9_tyreNumber 3 (some .int)) ({ frames := 1, cells := 0, slots := 0, locals := 21 }) (tw_Pre G 244 ad w sz [.ref (ad 4), .int x1, .int (4 : Int32)]) (tw_Qi G 244 ad (fun r w1 => ((0 : Int32) = r ∧ (((((z1 < 0)) ∨ ((¬ (z1 < 0)) ∧ (4 ≤ z1)))) ∨ (((¬ (z1 < 0)) ∧ (¬ (4 ≤ z1))) ∧ ((¬ (4 < 0)) ∧ (¬ (6 ≤ 4))) ∧ (z1 = 0)) ∨ (((¬ (z1 < 0)) ∧ (¬ (4 ≤ z1))) ∧ ((¬ (4 < 0)) ∧ (¬ (6 ≤ 4))) ∧ (z1 = 1)) ∨ (((¬ (z1 < 0)) ∧ (¬ (4 ≤ z1))) ∧ ((¬ (4 < 0)) ∧ (¬ (6 ≤ 4))) ∧ (z1 = 2)) ∨ (((¬ (z1 < 0)) ∧ (¬ (4 ≤ z1))) ∧ ((¬ (4 < 0)) ∧ (¬ (6 ≤ 4))) ∧ (z1 = 3))) ∧ w = w1)) sz) 0 0 (tw_A 244 ad sz) := by
  refine tw_met (by decide) (Nat.le_of_ble_eq_true rfl) ?_
  intro p e s m args below meth c F hret hlk hin hargs hsz hH ls hl
  have hx := F.1.1
  have hb := F.1.2.1
  have hown := F.1.2.2.2.1
  have hts := F.1.2.2.2.2
  have hl : lv_has ls 3 [(0, .ref (ad 4)), (1, .int x1), (2, .int (4 : Int32))] := hl
  generalize hH0 : s.heap = H at hH ⊢
  refine lv_iload_n hx hb dX9_tyreNumber_0 rfl (lv_at hl 1 rfl) ?_
  refine lv_iconst (v := 4) hx hb dX9_tyreNumber_1 (by decide) ?_
  refine tw_calli F hH (tw_runSN (host := "RaceByLaps") (As := [.int x1, .int (4 : Int32)]) (rest := []) F hH (c_X11_isIndex l G 244 ad w H.size x1 (z1) e1 (4 : Int32) 4 (by decide : (4 : Int32).toInt = 4)) (by decide) km_X11_isIndex (tw_gl kw_562 rfl) rfl rfl ⟨(Nat.le_of_ble_eq_true rfl), (Nat.le_of_ble_eq_true rfl)⟩ rfl hl.1 rfl (Nat.le_of_ble_eq_true rfl) dX9_tyreNumber_2 ⟨(Nat.le_of_ble_eq_true rfl), (Nat.le_of_ble_eq_true rfl)⟩) (fun r3 w1 H locs hp2 _ hH => ?_)
  rcases hp2 with ⟨rfl, hc4, rfl⟩ | ⟨rfl, hc5, rfl⟩
  · skip
    refine lv_if_eq (tgt := 17) hx hb dX9_tyreNumber_5 (by decide) (fun _ => ?_) (fun c => absurd c (by decide))
    refine lv_iconst (v := 0) hx hb dX9_tyreNumber_17 (by decide) ?_
    exact tw_iret F hH hret hlk rfl (Nat.le_of_ble_eq_true rfl) (Nat.le_of_ble_eq_true rfl) dX9_tyreNumber_18 (⟨rfl, (Or.inl (by omega)), rfl⟩)
  · skip
    refine lv_if_eq (tgt := 17) hx hb dX9_tyreNumber_5 (by decide) (fun c => absurd c (by decide)) (fun _ => ?_)
    refine lv_iload_n hx hb dX9_tyreNumber_8 rfl (lv_at hl 2 rfl) ?_
    refine lv_bipush (v := 6) hx hb dX9_tyreNumber_9 (by decide) ?_
    refine tw_calli F hH (tw_runSN (host := "RaceByLaps") (As := [.int (4 : Int32), .int (6 : Int32)]) (rest := []) F hH (c_X11_isIndex l G 244 ad w H.size (4 : Int32) 4 (by decide : (4 : Int32).toInt = 4) (6 : Int32) 6 (by decide : (6 : Int32).toInt = 6)) (by decide) km_X11_isIndex (tw_gl kw_562 rfl) rfl rfl ⟨(Nat.le_of_ble_eq_true rfl), (Nat.le_of_ble_eq_true rfl)⟩ rfl hl.1 rfl (Nat.le_of_ble_eq_true rfl) dX9_tyreNumber_11 ⟨(Nat.le_of_ble_eq_true rfl), (Nat.le_of_ble_eq_true rfl)⟩) (fun r10 w8 H locs hp9 _ hH => ?_)
    rcases hp9 with ⟨rfl, hc11, rfl⟩ | ⟨rfl, hc12, rfl⟩
    · exfalso; omega
    · skip
      refine lv_if_ne (tgt := 19) hx hb dX9_tyreNumber_14 (by decide) (fun _ => ?_) (fun c => absurd c (by decide))
      refine lv_aload_n hx hb dX9_tyreNumber_19 rfl (lv_at hl 0 rfl) ?_
      refine tw_get (r := 4) F hH kf_RX9_22 rfl (by decide) hw_4 rfl dX9_tyreNumber_20 ?_
      refine lv_iload_n hx hb dX9_tyreNumber_23 rfl (lv_at hl 1 rfl) ?_
      refine lv_bipush (v := 6) hx hb dX9_tyreNumber_24 (by decide) ?_
      rcases (by omega : z1 = 0 ∨ z1 = 1 ∨ z1 = 2 ∨ z1 = 3) with hz14 | hz14 | hz14 | hz14
      · skip
        obtain rfl : (0 : Int32) = x1 := (Int32.toInt_inj.mp ((e1.trans hz14).trans (by decide : (0 : Int) = (0 : Int32).toInt))).symm
        refine lv_imul hx hb dX9_tyreNumber_26 ?_
        refine tw_cv (v := (0 : Int32)) (by decide) ?_
        refine lv_iload_n hx hb dX9_tyreNumber_27 rfl (lv_at hl 2 rfl) ?_
        refine lv_iadd hx hb dX9_tyreNumber_28 ?_
        refine tw_cv (v := (4 : Int32)) (by decide) ?_
        refine tw_iald (r := 8) (j := 4) (v := (0 : Int32)) F hH rfl (by decide) hw_8 (by decide) (by decide) rfl dX9_tyreNumber_29 ?_
        exact tw_iret F hH hret hlk rfl (Nat.le_of_ble_eq_true rfl) (Nat.le_of_ble_eq_true rfl) dX9_tyreNumber_30 (⟨rfl, (Or.inr (Or.inl (by omega))), rfl⟩)
      · skip
        obtain rfl : (1 : Int32) = x1 := (Int32.toInt_inj.mp ((e1.trans hz14).trans (by decide : (1 : Int) = (1 : Int32).toInt))).symm
        refine lv_imul hx hb dX9_tyreNumber_26 ?_
        refine tw_cv (v := (6 : Int32)) (by decide) ?_
        refine lv_iload_n hx hb dX9_tyreNumber_27 rfl (lv_at hl 2 rfl) ?_
        refine lv_iadd hx hb dX9_tyreNumber_28 ?_
        refine tw_cv (v := (10 : Int32)) (by decide) ?_
        refine tw_iald (r := 8) (j := 10) (v := (0 : Int32)) F hH rfl (by decide) hw_8 (by decide) (by decide) rfl dX9_tyreNumber_29 ?_
        exact tw_iret F hH hret hlk rfl (Nat.le_of_ble_eq_true rfl) (Nat.le_of_ble_eq_true rfl) dX9_tyreNumber_30 (⟨rfl, (Or.inr (Or.inr (Or.inl (by omega)))), rfl⟩)
      · skip
        obtain rfl : (2 : Int32) = x1 := (Int32.toInt_inj.mp ((e1.trans hz14).trans (by decide : (2 : Int) = (2 : Int32).toInt))).symm
        refine lv_imul hx hb dX9_tyreNumber_26 ?_
        refine tw_cv (v := (12 : Int32)) (by decide) ?_
        refine lv_iload_n hx hb dX9_tyreNumber_27 rfl (lv_at hl 2 rfl) ?_
        refine lv_iadd hx hb dX9_tyreNumber_28 ?_
        refine tw_cv (v := (16 : Int32)) (by decide) ?_
        refine tw_iald (r := 8) (j := 16) (v := (0 : Int32)) F hH rfl (by decide) hw_8 (by decide) (by decide) rfl dX9_tyreNumber_29 ?_
        exact tw_iret F hH hret hlk rfl (Nat.le_of_ble_eq_true rfl) (Nat.le_of_ble_eq_true rfl) dX9_tyreNumber_30 (⟨rfl, (Or.inr (Or.inr (Or.inr (Or.inl (by omega))))), rfl⟩)
      · skip
        obtain rfl : (3 : Int32) = x1 := (Int32.toInt_inj.mp ((e1.trans hz14).trans (by decide : (3 : Int) = (3 : Int32).toInt))).symm
        refine lv_imul hx hb dX9_tyreNumber_26 ?_
        refine tw_cv (v := (18 : Int32)) (by decide) ?_
        refine lv_iload_n hx hb dX9_tyreNumber_27 rfl (lv_at hl 2 rfl) ?_
        refine lv_iadd hx hb dX9_tyreNumber_28 ?_
        refine tw_cv (v := (22 : Int32)) (by decide) ?_
        refine tw_iald (r := 8) (j := 22) (v := (0 : Int32)) F hH rfl (by decide) hw_8 (by decide) (by decide) rfl dX9_tyreNumber_29 ?_
        exact tw_iret F hH hret hlk rfl (Nat.le_of_ble_eq_true rfl) (Nat.le_of_ble_eq_true rfl) dX9_tyreNumber_30 (⟨rfl, (Or.inr (Or.inr (Or.inr (Or.inr (by omega))))), rfl⟩)
set_option maxHeartbeats 4000000 in
set_option maxRecDepth 100000 in
theorem c_X9_tyreNumber_v6 (l : Launch) (G : tw_G) (ad : Nat → Nat) (w : Nat → va_E) (sz : Nat) (x1 : Int32) (z1 : Int) (e1 : x1.toInt = z1) (hw_4 : w 4 = .inr (9, [.int (2 : Int32), .int (1 : Int32), .ref (ad 5), .ref (ad 6), .ref (ad 7), .ref (ad 8), .ref (ad 9), .ref (ad 10), .ref (ad 12)])) (hw_8 : w 8 = .inl (G.2.1 0, 24, .inl (upd (upd (upd (upd (upd (upd (upd (upd (upd (upd (upd (upd (upd (upd (upd (upd (upd (upd (upd (upd (upd (upd (upd (upd (fun _ => 0) 0 (0 : Int32)) 1 (10 : Int32)) 2 (40 : Int32)) 3 (1000 : Int32)) 4 (0 : Int32)) 5 (5 : Int32)) 6 (0 : Int32)) 7 (10 : Int32)) 8 (40 : Int32)) 9 (1000 : Int32)) 10 (0 : Int32)) 11 (5 : Int32)) 12 (0 : Int32)) 13 (10 : Int32)) 14 (40 : Int32)) 15 (1000 : Int32)) 16 (0 : Int32)) 17 (5 : Int32)) 18 (0 : Int32)) 19 (10 : Int32)) 20 (40 : Int32)) 21 (1000 : Int32)) 22 (0 : Int32)) 23 (5 : Int32)))) : Met l yX9_tyreNumber (tw_ws yX9_tyreNumber cX9_tyreNumber 3 (some .int)) ({ frames := 1, cells := 0, slots := 0, locals := 21 }) (tw_Pre G 244 ad w sz [.ref (ad 4), .int x1, .int (5 : Int32)]) (tw_Qi G 244 ad (fun r w1 => ((0 : Int32) = r ∧ (((z1 < 0)) ∨ ((¬ (z1 < 0)) ∧ (4 ≤ z1))) ∧ w = w1) ∨ ((5 : Int32) = r ∧ ((((¬ (z1 < 0)) ∧ (¬ (4 ≤ z1))) ∧ ((¬ (5 < 0)) ∧ (¬ (6 ≤ 5))) ∧ (z1 = 0)) ∨ (((¬ (z1 < 0)) ∧ (¬ (4 ≤ z1))) ∧ ((¬ (5 < 0)) ∧ (¬ (6 ≤ 5))) ∧ (z1 = 1)) ∨ (((¬ (z1 < 0)) ∧ (¬ (4 ≤ z1))) ∧ ((¬ (5 < 0)) ∧ (¬ (6 ≤ 5))) ∧ (z1 = 2)) ∨ (((¬ (z1 < 0)) ∧ (¬ (4 ≤ z1))) ∧ ((¬ (5 < 0)) ∧ (¬ (6 ≤ 5))) ∧ (z1 = 3))) ∧ w = w1)) sz) 0 0 (tw_A 244 ad sz) := by
  refine tw_met (by decide) (Nat.le_of_ble_eq_true rfl) ?_
  intro p e s m args below meth c F hret hlk hin hargs hsz hH ls hl
  have hx := F.1.1
  have hb := F.1.2.1
  have hown := F.1.2.2.2.1
  have hts := F.1.2.2.2.2
  have hl : lv_has ls 3 [(0, .ref (ad 4)), (1, .int x1), (2, .int (5 : Int32))] := hl
  generalize hH0 : s.heap = H at hH ⊢
  refine lv_iload_n hx hb dX9_tyreNumber_0 rfl (lv_at hl 1 rfl) ?_
  refine lv_iconst (v := 4) hx hb dX9_tyreNumber_1 (by decide) ?_
  refine tw_calli F hH (tw_runSN (host := "RaceByLaps") (As := [.int x1, .int (4 : Int32)]) (rest := []) F hH (c_X11_isIndex l G 244 ad w H.size x1 (z1) e1 (4 : Int32) 4 (by decide : (4 : Int32).toInt = 4)) (by decide) km_X11_isIndex (tw_gl kw_562 rfl) rfl rfl ⟨(Nat.le_of_ble_eq_true rfl), (Nat.le_of_ble_eq_true rfl)⟩ rfl hl.1 rfl (Nat.le_of_ble_eq_true rfl) dX9_tyreNumber_2 ⟨(Nat.le_of_ble_eq_true rfl), (Nat.le_of_ble_eq_true rfl)⟩) (fun r3 w1 H locs hp2 _ hH => ?_)
  rcases hp2 with ⟨rfl, hc4, rfl⟩ | ⟨rfl, hc5, rfl⟩
  · skip
    refine lv_if_eq (tgt := 17) hx hb dX9_tyreNumber_5 (by decide) (fun _ => ?_) (fun c => absurd c (by decide))
    refine lv_iconst (v := 0) hx hb dX9_tyreNumber_17 (by decide) ?_
    exact tw_iret F hH hret hlk rfl (Nat.le_of_ble_eq_true rfl) (Nat.le_of_ble_eq_true rfl) dX9_tyreNumber_18 (Or.inl (⟨rfl, (by omega), rfl⟩))
  · skip
    refine lv_if_eq (tgt := 17) hx hb dX9_tyreNumber_5 (by decide) (fun c => absurd c (by decide)) (fun _ => ?_)
    refine lv_iload_n hx hb dX9_tyreNumber_8 rfl (lv_at hl 2 rfl) ?_
    refine lv_bipush (v := 6) hx hb dX9_tyreNumber_9 (by decide) ?_
    refine tw_calli F hH (tw_runSN (host := "RaceByLaps") (As := [.int (5 : Int32), .int (6 : Int32)]) (rest := []) F hH (c_X11_isIndex l G 244 ad w H.size (5 : Int32) 5 (by decide : (5 : Int32).toInt = 5) (6 : Int32) 6 (by decide : (6 : Int32).toInt = 6)) (by decide) km_X11_isIndex (tw_gl kw_562 rfl) rfl rfl ⟨(Nat.le_of_ble_eq_true rfl), (Nat.le_of_ble_eq_true rfl)⟩ rfl hl.1 rfl (Nat.le_of_ble_eq_true rfl) dX9_tyreNumber_11 ⟨(Nat.le_of_ble_eq_true rfl), (Nat.le_of_ble_eq_true rfl)⟩) (fun r10 w8 H locs hp9 _ hH => ?_)
    rcases hp9 with ⟨rfl, hc11, rfl⟩ | ⟨rfl, hc12, rfl⟩
    · exfalso; omega
    · skip
      refine lv_if_ne (tgt := 19) hx hb dX9_tyreNumber_14 (by decide) (fun _ => ?_) (fun c => absurd c (by decide))
      refine lv_aload_n hx hb dX9_tyreNumber_19 rfl (lv_at hl 0 rfl) ?_
      refine tw_get (r := 4) F hH kf_RX9_22 rfl (by decide) hw_4 rfl dX9_tyreNumber_20 ?_
      refine lv_iload_n hx hb dX9_tyreNumber_23 rfl (lv_at hl 1 rfl) ?_
      refine lv_bipush (v := 6) hx hb dX9_tyreNumber_24 (by decide) ?_
      rcases (by omega : z1 = 0 ∨ z1 = 1 ∨ z1 = 2 ∨ z1 = 3) with hz14 | hz14 | hz14 | hz14
      · skip
        obtain rfl : (0 : Int32) = x1 := (Int32.toInt_inj.mp ((e1.trans hz14).trans (by decide : (0 : Int) = (0 : Int32).toInt))).symm
        refine lv_imul hx hb dX9_tyreNumber_26 ?_
        refine tw_cv (v := (0 : Int32)) (by decide) ?_
        refine lv_iload_n hx hb dX9_tyreNumber_27 rfl (lv_at hl 2 rfl) ?_
        refine lv_iadd hx hb dX9_tyreNumber_28 ?_
        refine tw_cv (v := (5 : Int32)) (by decide) ?_
        refine tw_iald (r := 8) (j := 5) (v := (5 : Int32)) F hH rfl (by decide) hw_8 (by decide) (by decide) rfl dX9_tyreNumber_29 ?_
        exact tw_iret F hH hret hlk rfl (Nat.le_of_ble_eq_true rfl) (Nat.le_of_ble_eq_true rfl) dX9_tyreNumber_30 (Or.inr (⟨rfl, (Or.inl (by omega)), rfl⟩))
      · skip
        obtain rfl : (1 : Int32) = x1 := (Int32.toInt_inj.mp ((e1.trans hz14).trans (by decide : (1 : Int) = (1 : Int32).toInt))).symm
        refine lv_imul hx hb dX9_tyreNumber_26 ?_
        refine tw_cv (v := (6 : Int32)) (by decide) ?_
        refine lv_iload_n hx hb dX9_tyreNumber_27 rfl (lv_at hl 2 rfl) ?_
        refine lv_iadd hx hb dX9_tyreNumber_28 ?_
        refine tw_cv (v := (11 : Int32)) (by decide) ?_
        refine tw_iald (r := 8) (j := 11) (v := (5 : Int32)) F hH rfl (by decide) hw_8 (by decide) (by decide) rfl dX9_tyreNumber_29 ?_
        exact tw_iret F hH hret hlk rfl (Nat.le_of_ble_eq_true rfl) (Nat.le_of_ble_eq_true rfl) dX9_tyreNumber_30 (Or.inr (⟨rfl, (Or.inr (Or.inl (by omega))), rfl⟩))
      · skip
        obtain rfl : (2 : Int32) = x1 := (Int32.toInt_inj.mp ((e1.trans hz14).trans (by decide : (2 : Int) = (2 : Int32).toInt))).symm
        refine lv_imul hx hb dX9_tyreNumber_26 ?_
        refine tw_cv (v := (12 : Int32)) (by decide) ?_
        refine lv_iload_n hx hb dX9_tyreNumber_27 rfl (lv_at hl 2 rfl) ?_
        refine lv_iadd hx hb dX9_tyreNumber_28 ?_
        refine tw_cv (v := (17 : Int32)) (by decide) ?_
        refine tw_iald (r := 8) (j := 17) (v := (5 : Int32)) F hH rfl (by decide) hw_8 (by decide) (by decide) rfl dX9_tyreNumber_29 ?_
        exact tw_iret F hH hret hlk rfl (Nat.le_of_ble_eq_true rfl) (Nat.le_of_ble_eq_true rfl) dX9_tyreNumber_30 (Or.inr (⟨rfl, (Or.inr (Or.inr (Or.inl (by omega)))), rfl⟩))
      · skip
        obtain rfl : (3 : Int32) = x1 := (Int32.toInt_inj.mp ((e1.trans hz14).trans (by decide : (3 : Int) = (3 : Int32).toInt))).symm
        refine lv_imul hx hb dX9_tyreNumber_26 ?_
        refine tw_cv (v := (18 : Int32)) (by decide) ?_
        refine lv_iload_n hx hb dX9_tyreNumber_27 rfl (lv_at hl 2 rfl) ?_
        refine lv_iadd hx hb dX9_tyreNumber_28 ?_
        refine tw_cv (v := (23 : Int32)) (by decide) ?_
        refine tw_iald (r := 8) (j := 23) (v := (5 : Int32)) F hH rfl (by decide) hw_8 (by decide) (by decide) rfl dX9_tyreNumber_29 ?_
        exact tw_iret F hH hret hlk rfl (Nat.le_of_ble_eq_true rfl) (Nat.le_of_ble_eq_true rfl) dX9_tyreNumber_30 (Or.inr (⟨rfl, (Or.inr (Or.inr (Or.inr (by omega)))), rfl⟩))
set_option maxHeartbeats 40000000 in
set_option maxRecDepth 100000 in
theorem c_X11_tyres (l : Launch) (G : tw_G) (ad : Nat → Nat) (w : Nat → va_E) (sz : Nat) (x1 : Int32) (z1 : Int) (e1 : x1.toInt = z1) (x2 : Int32) (z2 : Int) (e2 : x2.toInt = z2) (x3 : Int32) (z3 : Int) (e3 : x3.toInt = z3) (hw_0 : w 0 = .inr (11, [.ref (ad 4), .ref (ad 14), .ref (ad 156), .ref (ad 221), .ref (ad 225), .ref (ad 233), .ref (ad 236), .int (0 : Int32), .ref (ad 237), .int (0 : Int32), .ref (ad 238)])) (hw_4 : w 4 = .inr (9, [.int (2 : Int32), .int (1 : Int32), .ref (ad 5), .ref (ad 6), .ref (ad 7), .ref (ad 8), .ref (ad 9), .ref (ad 10), .ref (ad 12)])) (hw_8 : w 8 = .inl (G.2.1 0, 24, .inl (upd (upd (upd (upd (upd (upd (upd (upd (upd (upd (upd (upd (upd (upd (upd (upd (upd (upd (upd (upd (upd (upd (upd (upd (fun _ => 0) 0 (0 : Int32)) 1 (10 : Int32)) 2 (40 : Int32)) 3 (1000 : Int32)) 4 (0 : Int32)) 5 (5 : Int32)) 6 (0 : Int32)) 7 (10 : Int32)) 8 (40 : Int32)) 9 (1000 : Int32)) 10 (0 : Int32)) 11 (5 : Int32)) 12 (0 : Int32)) 13 (10 : Int32)) 14 (40 : Int32)) 15 (1000 : Int32)) 16 (0 : Int32)) 17 (5 : Int32)) 18 (0 : Int32)) 19 (10 : Int32)) 20 (40 : Int32)) 21 (1000 : Int32)) 22 (0 : Int32)) 23 (5 : Int32)))) (hw_14 : w 14 = .inr (2, [.ref (ad 4), .ref (ad 1), .ref (ad 15), .ref (ad 16), .ref (ad 17), .int (0 : Int32), .int (0 : Int32), .int (0 : Int32)])) : Met l yX11_tyres (tw_ws yX11_tyres cX11_tyres 5 (some .int)) ({ frames := 2, cells := 0, slots := 0, locals := 43 }) (tw_Pre G 244 ad w sz [.ref (ad 0), .int x1, .int x2, .int x3]) (tw_Qi G 244 ad (fun r w1 => ((-1 : Int32) = r ∧ (((((z1 < 0)) ∨ ((¬ (z1 < 0)) ∧ (4 ≤ z1)))) ∨ (((¬ (z1 < 0)) ∧ (¬ (4 ≤ z1))) ∧ (((z2 < 0)) ∨ ((¬ (z2 < 0)) ∧ (6 ≤ z2)))) ∨ (((¬ (z1 < 0)) ∧ (¬ (4 ≤ z1))) ∧ ((¬ (z2 < 0)) ∧ (¬ (6 ≤ z2))) ∧ (z2 = 0) ∧ (((z3 < 0)) ∨ ((¬ (z3 < 0)) ∧ (3000 < z3)))) ∨ (((¬ (z1 < 0)) ∧ (¬ (4 ≤ z1))) ∧ ((¬ (z2 < 0)) ∧ (¬ (6 ≤ z2))) ∧ (z2 = 1) ∧ (((z3 < 0)) ∨ ((¬ (z3 < 0)) ∧ (100 < z3)))) ∨ (((¬ (z1 < 0)) ∧ (¬ (4 ≤ z1))) ∧ ((¬ (z2 < 0)) ∧ (¬ (6 ≤ z2))) ∧ (z2 = 2) ∧ (((z3 < 0)) ∨ ((¬ (z3 < 0)) ∧ (200 < z3)))) ∨ (((¬ (z1 < 0)) ∧ (¬ (4 ≤ z1))) ∧ ((¬ (z2 < 0)) ∧ (¬ (6 ≤ z2))) ∧ (z2 = 3) ∧ (((z3 < 0)) ∨ ((¬ (z3 < 0)) ∧ (5000 < z3)))) ∨ (((¬ (z1 < 0)) ∧ (¬ (4 ≤ z1))) ∧ ((¬ (z2 < 0)) ∧ (¬ (6 ≤ z2))) ∧ (z2 = 4) ∧ (((z3 < 0)) ∨ ((¬ (z3 < 0)) ∧ (100 < z3)))) ∨ (((¬ (z1 < 0)) ∧ (¬ (4 ≤ z1))) ∧ ((¬ (z2 < 0)) ∧ (¬ (6 ≤ z2))) ∧ (z2 = 5) ∧ (((z3 < 0)) ∨ ((¬ (z3 < 0)) ∧ (100 < z3)))))) ∨ ((0 : Int32) = r ∧ ((((¬ (z1 < 0)) ∧ (¬ (4 ≤ z1))) ∧ ((¬ (z2 < 0)) ∧ (¬ (6 ≤ z2))) ∧ (z2 = 0) ∧ ((¬ (z3 < 0)) ∧ (¬ (3000 < z3))) ∧ (((((z1 < 0)) ∨ ((¬ (z1 < 0)) ∧ (4 ≤ z1)))) ∨ (((¬ (z1 < 0)) ∧ (¬ (4 ≤ z1))) ∧ ((¬ (0 < 0)) ∧ (¬ (6 ≤ 0))) ∧ (z1 = 0)) ∨ (((¬ (z1 < 0)) ∧ (¬ (4 ≤ z1))) ∧ ((¬ (0 < 0)) ∧ (¬ (6 ≤ 0))) ∧ (z1 = 1)) ∨ (((¬ (z1 < 0)) ∧ (¬ (4 ≤ z1))) ∧ ((¬ (0 < 0)) ∧ (¬ (6 ≤ 0))) ∧ (z1 = 2)) ∨ (((¬ (z1 < 0)) ∧ (¬ (4 ≤ z1))) ∧ ((¬ (0 < 0)) ∧ (¬ (6 ≤ 0))) ∧ (z1 = 3))) ∧ (z1 = 0)) ∨ (((¬ (z1 < 0)) ∧ (¬ (4 ≤ z1))) ∧ ((¬ (z2 < 0)) ∧ (¬ (6 ≤ z2))) ∧ (z2 = 0) ∧ ((¬ (z3 < 0)) ∧ (¬ (3000 < z3))) ∧ (((((z1 < 0)) ∨ ((¬ (z1 < 0)) ∧ (4 ≤ z1)))) ∨ (((¬ (z1 < 0)) ∧ (¬ (4 ≤ z1))) ∧ ((¬ (0 < 0)) ∧ (¬ (6 ≤ 0))) ∧ (z1 = 0)) ∨ (((¬ (z1 < 0)) ∧ (¬ (4 ≤ z1))) ∧ ((¬ (0 < 0)) ∧ (¬ (6 ≤ 0))) ∧ (z1 = 1)) ∨ (((¬ (z1 < 0)) ∧ (¬ (4 ≤ z1))) ∧ ((¬ (0 < 0)) ∧ (¬ (6 ≤ 0))) ∧ (z1 = 2)) ∨ (((¬ (z1 < 0)) ∧ (¬ (4 ≤ z1))) ∧ ((¬ (0 < 0)) ∧ (¬ (6 ≤ 0))) ∧ (z1 = 3))) ∧ (z1 = 1)) ∨ (((¬ (z1 < 0)) ∧ (¬ (4 ≤ z1))) ∧ ((¬ (z2 < 0)) ∧ (¬ (6 ≤ z2))) ∧ (z2 = 0) ∧ ((¬ (z3 < 0)) ∧ (¬ (3000 < z3))) ∧ (((((z1 < 0)) ∨ ((¬ (z1 < 0)) ∧ (4 ≤ z1)))) ∨ (((¬ (z1 < 0)) ∧ (¬ (4 ≤ z1))) ∧ ((¬ (0 < 0)) ∧ (¬ (6 ≤ 0))) ∧ (z1 = 0)) ∨ (((¬ (z1 < 0)) ∧ (¬ (4 ≤ z1))) ∧ ((¬ (0 < 0)) ∧ (¬ (6 ≤ 0))) ∧ (z1 = 1)) ∨ (((¬ (z1 < 0)) ∧ (¬ (4 ≤ z1))) ∧ ((¬ (0 < 0)) ∧ (¬ (6 ≤ 0))) ∧ (z1 = 2)) ∨ (((¬ (z1 < 0)) ∧ (¬ (4 ≤ z1))) ∧ ((¬ (0 < 0)) ∧ (¬ (6 ≤ 0))) ∧ (z1 = 3))) ∧ (z1 = 2)) ∨ (((¬ (z1 < 0)) ∧ (¬ (4 ≤ z1))) ∧ ((¬ (z2 < 0)) ∧ (¬ (6 ≤ z2))) ∧ (z2 = 0) ∧ ((¬ (z3 < 0)) ∧ (¬ (3000 < z3))) ∧ (((((z1 < 0)) ∨ ((¬ (z1 < 0)) ∧ (4 ≤ z1)))) ∨ (((¬ (z1 < 0)) ∧ (¬ (4 ≤ z1))) ∧ ((¬ (0 < 0)) ∧ (¬ (6 ≤ 0))) ∧ (z1 = 0)) ∨ (((¬ (z1 < 0)) ∧ (¬ (4 ≤ z1))) ∧ ((¬ (0 < 0)) ∧ (¬ (6 ≤ 0))) ∧ (z1 = 1)) ∨ (((¬ (z1 < 0)) ∧ (¬ (4 ≤ z1))) ∧ ((¬ (0 < 0)) ∧ (¬ (6 ≤ 0))) ∧ (z1 = 2)) ∨ (((¬ (z1 < 0)) ∧ (¬ (4 ≤ z1))) ∧ ((¬ (0 < 0)) ∧ (¬ (6 ≤ 0))) ∧ (z1 = 3))) ∧ (z1 = 3)) ∨ (((¬ (z1 < 0)) ∧ (¬ (4 ≤ z1))) ∧ ((¬ (z2 < 0)) ∧ (¬ (6 ≤ z2))) ∧ (z2 = 4) ∧ ((¬ (z3 < 0)) ∧ (¬ (100 < z3))) ∧ (((((z1 < 0)) ∨ ((¬ (z1 < 0)) ∧ (4 ≤ z1)))) ∨ (((¬ (z1 < 0)) ∧ (¬ (4 ≤ z1))) ∧ ((¬ (4 < 0)) ∧ (¬ (6 ≤ 4))) ∧ (z1 = 0)) ∨ (((¬ (z1 < 0)) ∧ (¬ (4 ≤ z1))) ∧ ((¬ (4 < 0)) ∧ (¬ (6 ≤ 4))) ∧ (z1 = 1)) ∨ (((¬ (z1 < 0)) ∧ (¬ (4 ≤ z1))) ∧ ((¬ (4 < 0)) ∧ (¬ (6 ≤ 4))) ∧ (z1 = 2)) ∨ (((¬ (z1 < 0)) ∧ (¬ (4 ≤ z1))) ∧ ((¬ (4 < 0)) ∧ (¬ (6 ≤ 4))) ∧ (z1 = 3))) ∧ (z1 = 0)) ∨ (((¬ (z1 < 0)) ∧ (¬ (4 ≤ z1))) ∧ ((¬ (z2 < 0)) ∧ (¬ (6 ≤ z2))) ∧ (z2 = 4) ∧ ((¬ (z3 < 0)) ∧ (¬ (100 < z3))) ∧ (((((z1 < 0)) ∨ ((¬ (z1 < 0)) ∧ (4 ≤ z1)))) ∨ (((¬ (z1 < 0)) ∧ (¬ (4 ≤ z1))) ∧ ((¬ (4 < 0)) ∧ (¬ (6 ≤ 4))) ∧ (z1 = 0)) ∨ (((¬ (z1 < 0)) ∧ (¬ (4 ≤ z1))) ∧ ((¬ (4 < 0)) ∧ (¬ (6 ≤ 4))) ∧ (z1 = 1)) ∨ (((¬ (z1 < 0)) ∧ (¬ (4 ≤ z1))) ∧ ((¬ (4 < 0)) ∧ (¬ (6 ≤ 4))) ∧ (z1 = 2)) ∨ (((¬ (z1 < 0)) ∧ (¬ (4 ≤ z1))) ∧ ((¬ (4 < 0)) ∧ (¬ (6 ≤ 4))) ∧ (z1 = 3))) ∧ (z1 = 1)) ∨ (((¬ (z1 < 0)) ∧ (¬ (4 ≤ z1))) ∧ ((¬ (z2 < 0)) ∧ (¬ (6 ≤ z2))) ∧ (z2 = 4) ∧ ((¬ (z3 < 0)) ∧ (¬ (100 < z3))) ∧ (((((z1 < 0)) ∨ ((¬ (z1 < 0)) ∧ (4 ≤ z1)))) ∨ (((¬ (z1 < 0)) ∧ (¬ (4 ≤ z1))) ∧ ((¬ (4 < 0)) ∧ (¬ (6 ≤ 4))) ∧ (z1 = 0)) ∨ (((¬ (z1 < 0)) ∧ (¬ (4 ≤ z1))) ∧ ((¬ (4 < 0)) ∧ (¬ (6 ≤ 4))) ∧ (z1 = 1)) ∨ (((¬ (z1 < 0)) ∧ (¬ (4 ≤ z1))) ∧ ((¬ (4 < 0)) ∧ (¬ (6 ≤ 4))) ∧ (z1 = 2)) ∨ (((¬ (z1 < 0)) ∧ (¬ (4 ≤ z1))) ∧ ((¬ (4 < 0)) ∧ (¬ (6 ≤ 4))) ∧ (z1 = 3))) ∧ (z1 = 2)) ∨ (((¬ (z1 < 0)) ∧ (¬ (4 ≤ z1))) ∧ ((¬ (z2 < 0)) ∧ (¬ (6 ≤ z2))) ∧ (z2 = 4) ∧ ((¬ (z3 < 0)) ∧ (¬ (100 < z3))) ∧ (((((z1 < 0)) ∨ ((¬ (z1 < 0)) ∧ (4 ≤ z1)))) ∨ (((¬ (z1 < 0)) ∧ (¬ (4 ≤ z1))) ∧ ((¬ (4 < 0)) ∧ (¬ (6 ≤ 4))) ∧ (z1 = 0)) ∨ (((¬ (z1 < 0)) ∧ (¬ (4 ≤ z1))) ∧ ((¬ (4 < 0)) ∧ (¬ (6 ≤ 4))) ∧ (z1 = 1)) ∨ (((¬ (z1 < 0)) ∧ (¬ (4 ≤ z1))) ∧ ((¬ (4 < 0)) ∧ (¬ (6 ≤ 4))) ∧ (z1 = 2)) ∨ (((¬ (z1 < 0)) ∧ (¬ (4 ≤ z1))) ∧ ((¬ (4 < 0)) ∧ (¬ (6 ≤ 4))) ∧ (z1 = 3))) ∧ (z1 = 3)))) ∨ ((10 : Int32) = r ∧ ((((¬ (z1 < 0)) ∧ (¬ (4 ≤ z1))) ∧ ((¬ (z2 < 0)) ∧ (¬ (6 ≤ z2))) ∧ (z2 = 1) ∧ ((¬ (z3 < 0)) ∧ (¬ (100 < z3))) ∧ ((((¬ (z1 < 0)) ∧ (¬ (4 ≤ z1))) ∧ ((¬ (1 < 0)) ∧ (¬ (6 ≤ 1))) ∧ (z1 = 0)) ∨ (((¬ (z1 < 0)) ∧ (¬ (4 ≤ z1))) ∧ ((¬ (1 < 0)) ∧ (¬ (6 ≤ 1))) ∧ (z1 = 1)) ∨ (((¬ (z1 < 0)) ∧ (¬ (4 ≤ z1))) ∧ ((¬ (1 < 0)) ∧ (¬ (6 ≤ 1))) ∧ (z1 = 2)) ∨ (((¬ (z1 < 0)) ∧ (¬ (4 ≤ z1))) ∧ ((¬ (1 < 0)) ∧ (¬ (6 ≤ 1))) ∧ (z1 = 3))) ∧ (z1 = 0)) ∨ (((¬ (z1 < 0)) ∧ (¬ (4 ≤ z1))) ∧ ((¬ (z2 < 0)) ∧ (¬ (6 ≤ z2))) ∧ (z2 = 1) ∧ ((¬ (z3 < 0)) ∧ (¬ (100 < z3))) ∧ ((((¬ (z1 < 0)) ∧ (¬ (4 ≤ z1))) ∧ ((¬ (1 < 0)) ∧ (¬ (6 ≤ 1))) ∧ (z1 = 0)) ∨ (((¬ (z1 < 0)) ∧ (¬ (4 ≤ z1))) ∧ ((¬ (1 < 0)) ∧ (¬ (6 ≤ 1))) ∧ (z1 = 1)) ∨ (((¬ (z1 < 0)) ∧ (¬ (4 ≤ z1))) ∧ ((¬ (1 < 0)) ∧ (¬ (6 ≤ 1))) ∧ (z1 = 2)) ∨ (((¬ (z1 < 0)) ∧ (¬ (4 ≤ z1))) ∧ ((¬ (1 < 0)) ∧ (¬ (6 ≤ 1))) ∧ (z1 = 3))) ∧ (z1 = 1)) ∨ (((¬ (z1 < 0)) ∧ (¬ (4 ≤ z1))) ∧ ((¬ (z2 < 0)) ∧ (¬ (6 ≤ z2))) ∧ (z2 = 1) ∧ ((¬ (z3 < 0)) ∧ (¬ (100 < z3))) ∧ ((((¬ (z1 < 0)) ∧ (¬ (4 ≤ z1))) ∧ ((¬ (1 < 0)) ∧ (¬ (6 ≤ 1))) ∧ (z1 = 0)) ∨ (((¬ (z1 < 0)) ∧ (¬ (4 ≤ z1))) ∧ ((¬ (1 < 0)) ∧ (¬ (6 ≤ 1))) ∧ (z1 = 1)) ∨ (((¬ (z1 < 0)) ∧ (¬ (4 ≤ z1))) ∧ ((¬ (1 < 0)) ∧ (¬ (6 ≤ 1))) ∧ (z1 = 2)) ∨ (((¬ (z1 < 0)) ∧ (¬ (4 ≤ z1))) ∧ ((¬ (1 < 0)) ∧ (¬ (6 ≤ 1))) ∧ (z1 = 3))) ∧ (z1 = 2)) ∨ (((¬ (z1 < 0)) ∧ (¬ (4 ≤ z1))) ∧ ((¬ (z2 < 0)) ∧ (¬ (6 ≤ z2))) ∧ (z2 = 1) ∧ ((¬ (z3 < 0)) ∧ (¬ (100 < z3))) ∧ ((((¬ (z1 < 0)) ∧ (¬ (4 ≤ z1))) ∧ ((¬ (1 < 0)) ∧ (¬ (6 ≤ 1))) ∧ (z1 = 0)) ∨ (((¬ (z1 < 0)) ∧ (¬ (4 ≤ z1))) ∧ ((¬ (1 < 0)) ∧ (¬ (6 ≤ 1))) ∧ (z1 = 1)) ∨ (((¬ (z1 < 0)) ∧ (¬ (4 ≤ z1))) ∧ ((¬ (1 < 0)) ∧ (¬ (6 ≤ 1))) ∧ (z1 = 2)) ∨ (((¬ (z1 < 0)) ∧ (¬ (4 ≤ z1))) ∧ ((¬ (1 < 0)) ∧ (¬ (6 ≤ 1))) ∧ (z1 = 3))) ∧ (z1 = 3)))) ∨ ((40 : Int32) = r ∧ ((((¬ (z1 < 0)) ∧ (¬ (4 ≤ z1))) ∧ ((¬ (z2 < 0)) ∧ (¬ (6 ≤ z2))) ∧ (z2 = 2) ∧ ((¬ (z3 < 0)) ∧ (¬ (200 < z3))) ∧ ((((¬ (z1 < 0)) ∧ (¬ (4 ≤ z1))) ∧ ((¬ (2 < 0)) ∧ (¬ (6 ≤ 2))) ∧ (z1 = 0)) ∨ (((¬ (z1 < 0)) ∧ (¬ (4 ≤ z1))) ∧ ((¬ (2 < 0)) ∧ (¬ (6 ≤ 2))) ∧ (z1 = 1)) ∨ (((¬ (z1 < 0)) ∧ (¬ (4 ≤ z1))) ∧ ((¬ (2 < 0)) ∧ (¬ (6 ≤ 2))) ∧ (z1 = 2)) ∨ (((¬ (z1 < 0)) ∧ (¬ (4 ≤ z1))) ∧ ((¬ (2 < 0)) ∧ (¬ (6 ≤ 2))) ∧ (z1 = 3))) ∧ (z1 = 0)) ∨ (((¬ (z1 < 0)) ∧ (¬ (4 ≤ z1))) ∧ ((¬ (z2 < 0)) ∧ (¬ (6 ≤ z2))) ∧ (z2 = 2) ∧ ((¬ (z3 < 0)) ∧ (¬ (200 < z3))) ∧ ((((¬ (z1 < 0)) ∧ (¬ (4 ≤ z1))) ∧ ((¬ (2 < 0)) ∧ (¬ (6 ≤ 2))) ∧ (z1 = 0)) ∨ (((¬ (z1 < 0)) ∧ (¬ (4 ≤ z1))) ∧ ((¬ (2 < 0)) ∧ (¬ (6 ≤ 2))) ∧ (z1 = 1)) ∨ (((¬ (z1 < 0)) ∧ (¬ (4 ≤ z1))) ∧ ((¬ (2 < 0)) ∧ (¬ (6 ≤ 2))) ∧ (z1 = 2)) ∨ (((¬ (z1 < 0)) ∧ (¬ (4 ≤ z1))) ∧ ((¬ (2 < 0)) ∧ (¬ (6 ≤ 2))) ∧ (z1 = 3))) ∧ (z1 = 1)) ∨ (((¬ (z1 < 0)) ∧ (¬ (4 ≤ z1))) ∧ ((¬ (z2 < 0)) ∧ (¬ (6 ≤ z2))) ∧ (z2 = 2) ∧ ((¬ (z3 < 0)) ∧ (¬ (200 < z3))) ∧ ((((¬ (z1 < 0)) ∧ (¬ (4 ≤ z1))) ∧ ((¬ (2 < 0)) ∧ (¬ (6 ≤ 2))) ∧ (z1 = 0)) ∨ (((¬ (z1 < 0)) ∧ (¬ (4 ≤ z1))) ∧ ((¬ (2 < 0)) ∧ (¬ (6 ≤ 2))) ∧ (z1 = 1)) ∨ (((¬ (z1 < 0)) ∧ (¬ (4 ≤ z1))) ∧ ((¬ (2 < 0)) ∧ (¬ (6 ≤ 2))) ∧ (z1 = 2)) ∨ (((¬ (z1 < 0)) ∧ (¬ (4 ≤ z1))) ∧ ((¬ (2 < 0)) ∧ (¬ (6 ≤ 2))) ∧ (z1 = 3))) ∧ (z1 = 2)) ∨ (((¬ (z1 < 0)) ∧ (¬ (4 ≤ z1))) ∧ ((¬ (z2 < 0)) ∧ (¬ (6 ≤ z2))) ∧ (z2 = 2) ∧ ((¬ (z3 < 0)) ∧ (¬ (200 < z3))) ∧ ((((¬ (z1 < 0)) ∧ (¬ (4 ≤ z1))) ∧ ((¬ (2 < 0)) ∧ (¬ (6 ≤ 2))) ∧ (z1 = 0)) ∨ (((¬ (z1 < 0)) ∧ (¬ (4 ≤ z1))) ∧ ((¬ (2 < 0)) ∧ (¬ (6 ≤ 2))) ∧ (z1 = 1)) ∨ (((¬ (z1 < 0)) ∧ (¬ (4 ≤ z1))) ∧ ((¬ (2 < 0)) ∧ (¬ (6 ≤ 2))) ∧ (z1 = 2)) ∨ (((¬ (z1 < 0)) ∧ (¬ (4 ≤ z1))) ∧ ((¬ (2 < 0)) ∧ (¬ (6 ≤ 2))) ∧ (z1 = 3))) ∧ (z1 = 3)))) ∨ ((1000 : Int32) = r ∧ ((((¬ (z1 < 0)) ∧ (¬ (4 ≤ z1))) ∧ ((¬ (z2 < 0)) ∧ (¬ (6 ≤ z2))) ∧ (z2 = 3) ∧ ((¬ (z3 < 0)) ∧ (¬ (5000 < z3))) ∧ ((((¬ (z1 < 0)) ∧ (¬ (4 ≤ z1))) ∧ ((¬ (3 < 0)) ∧ (¬ (6 ≤ 3))) ∧ (z1 = 0)) ∨ (((¬ (z1 < 0)) ∧ (¬ (4 ≤ z1))) ∧ ((¬ (3 < 0)) ∧ (¬ (6 ≤ 3))) ∧ (z1 = 1)) ∨ (((¬ (z1 < 0)) ∧ (¬ (4 ≤ z1))) ∧ ((¬ (3 < 0)) ∧ (¬ (6 ≤ 3))) ∧ (z1 = 2)) ∨ (((¬ (z1 < 0)) ∧ (¬ (4 ≤ z1))) ∧ ((¬ (3 < 0)) ∧ (¬ (6 ≤ 3))) ∧ (z1 = 3))) ∧ (z1 = 0)) ∨ (((¬ (z1 < 0)) ∧ (¬ (4 ≤ z1))) ∧ ((¬ (z2 < 0)) ∧ (¬ (6 ≤ z2))) ∧ (z2 = 3) ∧ ((¬ (z3 < 0)) ∧ (¬ (5000 < z3))) ∧ ((((¬ (z1 < 0)) ∧ (¬ (4 ≤ z1))) ∧ ((¬ (3 < 0)) ∧ (¬ (6 ≤ 3))) ∧ (z1 = 0)) ∨ (((¬ (z1 < 0)) ∧ (¬ (4 ≤ z1))) ∧ ((¬ (3 < 0)) ∧ (¬ (6 ≤ 3))) ∧ (z1 = 1)) ∨ (((¬ (z1 < 0)) ∧ (¬ (4 ≤ z1))) ∧ ((¬ (3 < 0)) ∧ (¬ (6 ≤ 3))) ∧ (z1 = 2)) ∨ (((¬ (z1 < 0)) ∧ (¬ (4 ≤ z1))) ∧ ((¬ (3 < 0)) ∧ (¬ (6 ≤ 3))) ∧ (z1 = 3))) ∧ (z1 = 1)) ∨ (((¬ (z1 < 0)) ∧ (¬ (4 ≤ z1))) ∧ ((¬ (z2 < 0)) ∧ (¬ (6 ≤ z2))) ∧ (z2 = 3) ∧ ((¬ (z3 < 0)) ∧ (¬ (5000 < z3))) ∧ ((((¬ (z1 < 0)) ∧ (¬ (4 ≤ z1))) ∧ ((¬ (3 < 0)) ∧ (¬ (6 ≤ 3))) ∧ (z1 = 0)) ∨ (((¬ (z1 < 0)) ∧ (¬ (4 ≤ z1))) ∧ ((¬ (3 < 0)) ∧ (¬ (6 ≤ 3))) ∧ (z1 = 1)) ∨ (((¬ (z1 < 0)) ∧ (¬ (4 ≤ z1))) ∧ ((¬ (3 < 0)) ∧ (¬ (6 ≤ 3))) ∧ (z1 = 2)) ∨ (((¬ (z1 < 0)) ∧ (¬ (4 ≤ z1))) ∧ ((¬ (3 < 0)) ∧ (¬ (6 ≤ 3))) ∧ (z1 = 3))) ∧ (z1 = 2)) ∨ (((¬ (z1 < 0)) ∧ (¬ (4 ≤ z1))) ∧ ((¬ (z2 < 0)) ∧ (¬ (6 ≤ z2))) ∧ (z2 = 3) ∧ ((¬ (z3 < 0)) ∧ (¬ (5000 < z3))) ∧ ((((¬ (z1 < 0)) ∧ (¬ (4 ≤ z1))) ∧ ((¬ (3 < 0)) ∧ (¬ (6 ≤ 3))) ∧ (z1 = 0)) ∨ (((¬ (z1 < 0)) ∧ (¬ (4 ≤ z1))) ∧ ((¬ (3 < 0)) ∧ (¬ (6 ≤ 3))) ∧ (z1 = 1)) ∨ (((¬ (z1 < 0)) ∧ (¬ (4 ≤ z1))) ∧ ((¬ (3 < 0)) ∧ (¬ (6 ≤ 3))) ∧ (z1 = 2)) ∨ (((¬ (z1 < 0)) ∧ (¬ (4 ≤ z1))) ∧ ((¬ (3 < 0)) ∧ (¬ (6 ≤ 3))) ∧ (z1 = 3))) ∧ (z1 = 3)))) ∨ ((5 : Int32) = r ∧ ((((¬ (z1 < 0)) ∧ (¬ (4 ≤ z1))) ∧ ((¬ (z2 < 0)) ∧ (¬ (6 ≤ z2))) ∧ (z2 = 5) ∧ ((¬ (z3 < 0)) ∧ (¬ (100 < z3))) ∧ ((((¬ (z1 < 0)) ∧ (¬ (4 ≤ z1))) ∧ ((¬ (5 < 0)) ∧ (¬ (6 ≤ 5))) ∧ (z1 = 0)) ∨ (((¬ (z1 < 0)) ∧ (¬ (4 ≤ z1))) ∧ ((¬ (5 < 0)) ∧ (¬ (6 ≤ 5))) ∧ (z1 = 1)) ∨ (((¬ (z1 < 0)) ∧ (¬ (4 ≤ z1))) ∧ ((¬ (5 < 0)) ∧ (¬ (6 ≤ 5))) ∧ (z1 = 2)) ∨ (((¬ (z1 < 0)) ∧ (¬ (4 ≤ z1))) ∧ ((¬ (5 < 0)) ∧ (¬ (6 ≤ 5))) ∧ (z1 = 3))) ∧ (z1 = 0)) ∨ (((¬ (z1 < 0)) ∧ (¬ (4 ≤ z1))) ∧ ((¬ (z2 < 0)) ∧ (¬ (6 ≤ z2))) ∧ (z2 = 5) ∧ ((¬ (z3 < 0)) ∧ (¬ (100 < z3))) ∧ ((((¬ (z1 < 0)) ∧ (¬ (4 ≤ z1))) ∧ ((¬ (5 < 0)) ∧ (¬ (6 ≤ 5))) ∧ (z1 = 0)) ∨ (((¬ (z1 < 0)) ∧ (¬ (4 ≤ z1))) ∧ ((¬ (5 < 0)) ∧ (¬ (6 ≤ 5))) ∧ (z1 = 1)) ∨ (((¬ (z1 < 0)) ∧ (¬ (4 ≤ z1))) ∧ ((¬ (5 < 0)) ∧ (¬ (6 ≤ 5))) ∧ (z1 = 2)) ∨ (((¬ (z1 < 0)) ∧ (¬ (4 ≤ z1))) ∧ ((¬ (5 < 0)) ∧ (¬ (6 ≤ 5))) ∧ (z1 = 3))) ∧ (z1 = 1)) ∨ (((¬ (z1 < 0)) ∧ (¬ (4 ≤ z1))) ∧ ((¬ (z2 < 0)) ∧ (¬ (6 ≤ z2))) ∧ (z2 = 5) ∧ ((¬ (z3 < 0)) ∧ (¬ (100 < z3))) ∧ ((((¬ (z1 < 0)) ∧ (¬ (4 ≤ z1))) ∧ ((¬ (5 < 0)) ∧ (¬ (6 ≤ 5))) ∧ (z1 = 0)) ∨ (((¬ (z1 < 0)) ∧ (¬ (4 ≤ z1))) ∧ ((¬ (5 < 0)) ∧ (¬ (6 ≤ 5))) ∧ (z1 = 1)) ∨ (((¬ (z1 < 0)) ∧ (¬ (4 ≤ z1))) ∧ ((¬ (5 < 0)) ∧ (¬ (6 ≤ 5))) ∧ (z1 = 2)) ∨ (((¬ (z1 < 0)) ∧ (¬ (4 ≤ z1))) ∧ ((¬ (5 < 0)) ∧ (¬ (6 ≤ 5))) ∧ (z1 = 3))) ∧ (z1 = 2)) ∨ (((¬ (z1 < 0)) ∧ (¬ (4 ≤ z1))) ∧ ((¬ (z2 < 0)) ∧ (¬ (6 ≤ z2))) ∧ (z2 = 5) ∧ ((¬ (z3 < 0)) ∧ (¬ (100 < z3))) ∧ ((((¬ (z1 < 0)) ∧ (¬ (4 ≤ z1))) ∧ ((¬ (5 < 0)) ∧ (¬ (6 ≤ 5))) ∧ (z1 = 0)) ∨ (((¬ (z1 < 0)) ∧ (¬ (4 ≤ z1))) ∧ ((¬ (5 < 0)) ∧ (¬ (6 ≤ 5))) ∧ (z1 = 1)) ∨ (((¬ (z1 < 0)) ∧ (¬ (4 ≤ z1))) ∧ ((¬ (5 < 0)) ∧ (¬ (6 ≤ 5))) ∧ (z1 = 2)) ∨ (((¬ (z1 < 0)) ∧ (¬ (4 ≤ z1))) ∧ ((¬ (5 < 0)) ∧ (¬ (6 ≤ 5))) ∧ (z1 = 3))) ∧ (z1 = 3))))) sz) 0 0 (tw_A 244 ad sz) := by
  refine tw_met (by decide) (Nat.le_of_ble_eq_true rfl) ?_
  intro p e s m args below meth c F hret hlk hin hargs hsz hH ls hl
  have hx := F.1.1
  have hb := F.1.2.1
  have hown := F.1.2.2.2.1
  have hts := F.1.2.2.2.2
  have hl : lv_has ls 5 [(0, .ref (ad 0)), (1, .int x1), (2, .int x2), (3, .int x3)] := hl
  generalize hH0 : s.heap = H at hH ⊢
  refine lv_iload_n hx hb dX11_tyres_0 rfl (lv_at hl 1 rfl) ?_
  refine lv_iconst (v := 4) hx hb dX11_tyres_1 (by decide) ?_
  refine tw_calli F hH (tw_runS (As := [.int x1, .int (4 : Int32)]) (rest := []) F hH (c_X11_isIndex l G 244 ad w H.size x1 (z1) e1 (4 : Int32) 4 (by decide : (4 : Int32).toInt = 4)) (tw_gl kw_572 rfl) km_X11_isIndex (tw_gl kw_562 rfl) rfl rfl ⟨(Nat.le_of_ble_eq_true rfl), (Nat.le_of_ble_eq_true rfl)⟩ rfl hl.1 rfl (Nat.le_of_ble_eq_true rfl) dX11_tyres_2 ⟨(Nat.le_of_ble_eq_true rfl), (Nat.le_of_ble_eq_true rfl)⟩) (fun r3 w1 H locs hp2 _ hH => ?_)
  rcases hp2 with ⟨rfl, hc4, rfl⟩ | ⟨rfl, hc5, rfl⟩
  · skip
    refine lv_if_eq (tgt := 30) hx hb dX11_tyres_5 (by decide) (fun _ => ?_) (fun c => absurd c (by decide))
    refine lv_iconst (v := -1) hx hb dX11_tyres_30 (by decide) ?_
    exact tw_iret F hH hret hlk rfl (Nat.le_of_ble_eq_true rfl) (Nat.le_of_ble_eq_true rfl) dX11_tyres_31 (Or.inl (⟨rfl, (Or.inl (by omega))⟩))
  · skip
    refine lv_if_eq (tgt := 30) hx hb dX11_tyres_5 (by decide) (fun c => absurd c (by decide)) (fun _ => ?_)
    refine lv_iload_n hx hb dX11_tyres_8 rfl (lv_at hl 2 rfl) ?_
    refine lv_bipush (v := 6) hx hb dX11_tyres_9 (by decide) ?_
    refine tw_calli F hH (tw_runS (As := [.int x2, .int (6 : Int32)]) (rest := []) F hH (c_X11_isIndex l G 244 ad w H.size x2 (z2) e2 (6 : Int32) 6 (by decide : (6 : Int32).toInt = 6)) (tw_gl kw_572 rfl) km_X11_isIndex (tw_gl kw_562 rfl) rfl rfl ⟨(Nat.le_of_ble_eq_true rfl), (Nat.le_of_ble_eq_true rfl)⟩ rfl hl.1 rfl (Nat.le_of_ble_eq_true rfl) dX11_tyres_11 ⟨(Nat.le_of_ble_eq_true rfl), (Nat.le_of_ble_eq_true rfl)⟩) (fun r10 w8 H locs hp9 _ hH => ?_)
    rcases hp9 with ⟨rfl, hc11, rfl⟩ | ⟨rfl, hc12, rfl⟩
    · skip
      refine lv_if_eq (tgt := 30) hx hb dX11_tyres_14 (by decide) (fun _ => ?_) (fun c => absurd c (by decide))
      refine lv_iconst (v := -1) hx hb dX11_tyres_30 (by decide) ?_
      exact tw_iret F hH hret hlk rfl (Nat.le_of_ble_eq_true rfl) (Nat.le_of_ble_eq_true rfl) dX11_tyres_31 (Or.inl (⟨rfl, (Or.inr (Or.inl (by omega)))⟩))
    · skip
      refine lv_if_eq (tgt := 30) hx hb dX11_tyres_14 (by decide) (fun c => absurd c (by decide)) (fun _ => ?_)
      refine lv_iload_n hx hb dX11_tyres_17 rfl (lv_at hl 3 rfl) ?_
      refine lv_iconst (v := 0) hx hb dX11_tyres_18 (by decide) ?_
      refine tw_gets (k := 4) F hH (by decide) (tw_gl kw_573 rfl) dX11_tyres_19 ?_
      refine lv_iload_n hx hb dX11_tyres_22 rfl (lv_at hl 2 rfl) ?_
      rcases (by omega : z2 = 0 ∨ z2 = 1 ∨ z2 = 2 ∨ z2 = 3 ∨ z2 = 4 ∨ z2 = 5) with hz15 | hz15 | hz15 | hz15 | hz15 | hz15
      · skip
        obtain rfl : (0 : Int32) = x2 := (Int32.toInt_inj.mp ((e2.trans hz15).trans (by decide : (0 : Int) = (0 : Int32).toInt))).symm
        refine tw_tald (k := 4) (j := 0) (v := (3000 : Int32)) F hH (by decide) (by decide) (by decide) (by decide) dX11_tyres_23 ?_
        refine tw_calli F hH (tw_runS (As := [.int x3, .int (0 : Int32), .int (3000 : Int32)]) (rest := []) F hH (c_X11_isWithin l G 244 ad w H.size x3 (z3) e3 (0 : Int32) 0 (by decide : (0 : Int32).toInt = 0) (3000 : Int32) 3000 (by decide : (3000 : Int32).toInt = 3000)) (tw_gl kw_565 rfl) km_X11_isWithin (tw_gl kw_566 rfl) rfl rfl ⟨(Nat.le_of_ble_eq_true rfl), (Nat.le_of_ble_eq_true rfl)⟩ rfl hl.1 rfl (Nat.le_of_ble_eq_true rfl) dX11_tyres_24 ⟨(Nat.le_of_ble_eq_true rfl), (Nat.le_of_ble_eq_true rfl)⟩) (fun r18 w16 H locs hp17 _ hH => ?_)
        rcases hp17 with ⟨rfl, hc19, rfl⟩ | ⟨rfl, hc20, rfl⟩
        · skip
          refine lv_if_ne (tgt := 32) hx hb dX11_tyres_27 (by decide) (fun c => absurd c (by decide)) (fun _ => ?_)
          refine lv_iconst (v := -1) hx hb dX11_tyres_30 (by decide) ?_
          exact tw_iret F hH hret hlk rfl (Nat.le_of_ble_eq_true rfl) (Nat.le_of_ble_eq_true rfl) dX11_tyres_31 (Or.inl (⟨rfl, (Or.inr (Or.inr (Or.inl (by omega))))⟩))
        · skip
          refine lv_if_ne (tgt := 32) hx hb dX11_tyres_27 (by decide) (fun _ => ?_) (fun c => absurd c (by decide))
          refine lv_aload_n hx hb dX11_tyres_32 rfl (lv_at hl 0 rfl) ?_
          refine tw_get (r := 0) F hH kf_RX11_15 rfl (by decide) hw_0 rfl dX11_tyres_33 ?_
          refine lv_iload_n hx hb dX11_tyres_36 rfl (lv_at hl 1 rfl) ?_
          refine lv_iload_n hx hb dX11_tyres_37 rfl (lv_at hl 2 rfl) ?_
          refine tw_calli F hH (tw_runV (r := 4) (As := [.int x1, .int (0 : Int32)]) (rest := []) F hH (c_X9_tyreNumber l G ad w H.size x1 (z1) e1 hw_4 hw_8) (tw_gl kw_575 rfl) km_X9_tyreNumber kv_X9_tyreNumber rfl rfl ⟨(Nat.le_of_ble_eq_true rfl), (Nat.le_of_ble_eq_true rfl)⟩ (by decide) hw_4 rfl rfl hl.1 rfl (Nat.le_of_ble_eq_true rfl) dX11_tyres_38 ⟨(Nat.le_of_ble_eq_true rfl), (Nat.le_of_ble_eq_true rfl)⟩) (fun r25 w23 H locs hp24 _ hH => ?_)
          obtain ⟨rfl, hc26, rfl⟩ := hp24
          refine lv_istore (lv' := [(4, .int (0 : Int32)), (0, .ref (ad 0)), (1, .int x1), (2, .int (0 : Int32)), (3, .int x3)]) hx hb dX11_tyres_41 hl (by decide) rfl (fun ls hl => ?_)
          refine lv_aload_n hx hb dX11_tyres_43 rfl (lv_at hl 1 rfl) ?_
          refine tw_get (r := 0) F hH kf_RX11_15 rfl (by decide) hw_0 rfl dX11_tyres_44 ?_
          refine tw_get (r := 4) F hH kf_RX11_126 rfl (by decide) hw_4 rfl dX11_tyres_47 ?_
          refine lv_iload_n hx hb dX11_tyres_50 rfl (lv_at hl 2 rfl) ?_
          refine lv_bipush (v := 6) hx hb dX11_tyres_51 (by decide) ?_
          rcases (by omega : z1 = 0 ∨ z1 = 1 ∨ z1 = 2 ∨ z1 = 3) with hz27 | hz27 | hz27 | hz27
          · skip
            obtain rfl : (0 : Int32) = x1 := (Int32.toInt_inj.mp ((e1.trans hz27).trans (by decide : (0 : Int) = (0 : Int32).toInt))).symm
            refine lv_imul hx hb dX11_tyres_53 ?_
            refine tw_cv (v := (0 : Int32)) (by decide) ?_
            refine lv_iload_n hx hb dX11_tyres_54 rfl (lv_at hl 3 rfl) ?_
            refine lv_iadd hx hb dX11_tyres_55 ?_
            refine tw_cv (v := (0 : Int32)) (by decide) ?_
            refine lv_iload_n hx hb dX11_tyres_56 rfl (lv_at hl 4 rfl) ?_
            refine tw_iast (r := 8) (j := 0) F hH rfl (by decide) hw_8 (by decide) (by decide) dX11_tyres_57 (fun H locs w28 hw29 hne30 hH => ?_)
            refine lv_aload_n hx hb dX11_tyres_58 rfl (lv_at hl 1 rfl) ?_
            have hw31 : w28 0 = .inr (11, [.ref (ad 4), .ref (ad 14), .ref (ad 156), .ref (ad 221), .ref (ad 225), .ref (ad 233), .ref (ad 236), .int (0 : Int32), .ref (ad 237), .int (0 : Int32), .ref (ad 238)]) := (hne30 0 (by decide)).trans (hw_0)
            refine tw_get (r := 0) F hH kf_RX11_24 rfl (by decide) hw31 rfl dX11_tyres_59 ?_
            refine lv_iconst (v := 0) hx hb dX11_tyres_62 (by decide) ?_
            have hw32 : w28 14 = .inr (2, [.ref (ad 4), .ref (ad 1), .ref (ad 15), .ref (ad 16), .ref (ad 17), .int (0 : Int32), .int (0 : Int32), .int (0 : Int32)]) := (hne30 14 (by decide)).trans (hw_14)
            refine tw_put (r := 14) F hH kf_RX11_84 kp_X2_7 rfl (by decide) hw32 (Nat.le_of_ble_eq_true rfl) rfl rfl dX11_tyres_63 (fun H locs w33 hw34 hne35 hH => ?_)
            have hw34 : w33 14 = .inr (2, [.ref (ad 4), .ref (ad 1), .ref (ad 15), .ref (ad 16), .ref (ad 17), .int (0 : Int32), .int (0 : Int32), .int (0 : Int32)]) := hw34
            refine lv_iload hx hb dX11_tyres_66 (lv_at hl 0 rfl) ?_
            exact tw_iret F hH hret hlk rfl (Nat.le_of_ble_eq_true rfl) (Nat.le_of_ble_eq_true rfl) dX11_tyres_68 (Or.inr (Or.inl (⟨rfl, (Or.inl (by omega))⟩)))
          · skip
            obtain rfl : (1 : Int32) = x1 := (Int32.toInt_inj.mp ((e1.trans hz27).trans (by decide : (1 : Int) = (1 : Int32).toInt))).symm
            refine lv_imul hx hb dX11_tyres_53 ?_
            refine tw_cv (v := (6 : Int32)) (by decide) ?_
            refine lv_iload_n hx hb dX11_tyres_54 rfl (lv_at hl 3 rfl) ?_
            refine lv_iadd hx hb dX11_tyres_55 ?_
            refine tw_cv (v := (6 : Int32)) (by decide) ?_
            refine lv_iload_n hx hb dX11_tyres_56 rfl (lv_at hl 4 rfl) ?_
            refine tw_iast (r := 8) (j := 6) F hH rfl (by decide) hw_8 (by decide) (by decide) dX11_tyres_57 (fun H locs w36 hw37 hne38 hH => ?_)
            refine lv_aload_n hx hb dX11_tyres_58 rfl (lv_at hl 1 rfl) ?_
            have hw39 : w36 0 = .inr (11, [.ref (ad 4), .ref (ad 14), .ref (ad 156), .ref (ad 221), .ref (ad 225), .ref (ad 233), .ref (ad 236), .int (0 : Int32), .ref (ad 237), .int (0 : Int32), .ref (ad 238)]) := (hne38 0 (by decide)).trans (hw_0)
            refine tw_get (r := 0) F hH kf_RX11_24 rfl (by decide) hw39 rfl dX11_tyres_59 ?_
            refine lv_iconst (v := 0) hx hb dX11_tyres_62 (by decide) ?_
            have hw40 : w36 14 = .inr (2, [.ref (ad 4), .ref (ad 1), .ref (ad 15), .ref (ad 16), .ref (ad 17), .int (0 : Int32), .int (0 : Int32), .int (0 : Int32)]) := (hne38 14 (by decide)).trans (hw_14)
            refine tw_put (r := 14) F hH kf_RX11_84 kp_X2_7 rfl (by decide) hw40 (Nat.le_of_ble_eq_true rfl) rfl rfl dX11_tyres_63 (fun H locs w41 hw42 hne43 hH => ?_)
            have hw42 : w41 14 = .inr (2, [.ref (ad 4), .ref (ad 1), .ref (ad 15), .ref (ad 16), .ref (ad 17), .int (0 : Int32), .int (0 : Int32), .int (0 : Int32)]) := hw42
            refine lv_iload hx hb dX11_tyres_66 (lv_at hl 0 rfl) ?_
            exact tw_iret F hH hret hlk rfl (Nat.le_of_ble_eq_true rfl) (Nat.le_of_ble_eq_true rfl) dX11_tyres_68 (Or.inr (Or.inl (⟨rfl, (Or.inr (Or.inl (by omega)))⟩)))
          · skip
            obtain rfl : (2 : Int32) = x1 := (Int32.toInt_inj.mp ((e1.trans hz27).trans (by decide : (2 : Int) = (2 : Int32).toInt))).symm
            refine lv_imul hx hb dX11_tyres_53 ?_
            refine tw_cv (v := (12 : Int32)) (by decide) ?_
            refine lv_iload_n hx hb dX11_tyres_54 rfl (lv_at hl 3 rfl) ?_
            refine lv_iadd hx hb dX11_tyres_55 ?_
            refine tw_cv (v := (12 : Int32)) (by decide) ?_
            refine lv_iload_n hx hb dX11_tyres_56 rfl (lv_at hl 4 rfl) ?_
            refine tw_iast (r := 8) (j := 12) F hH rfl (by decide) hw_8 (by decide) (by decide) dX11_tyres_57 (fun H locs w44 hw45 hne46 hH => ?_)
            refine lv_aload_n hx hb dX11_tyres_58 rfl (lv_at hl 1 rfl) ?_
            have hw47 : w44 0 = .inr (11, [.ref (ad 4), .ref (ad 14), .ref (ad 156), .ref (ad 221), .ref (ad 225), .ref (ad 233), .ref (ad 236), .int (0 : Int32), .ref (ad 237), .int (0 : Int32), .ref (ad 238)]) := (hne46 0 (by decide)).trans (hw_0)
            refine tw_get (r := 0) F hH kf_RX11_24 rfl (by decide) hw47 rfl dX11_tyres_59 ?_
            refine lv_iconst (v := 0) hx hb dX11_tyres_62 (by decide) ?_
            have hw48 : w44 14 = .inr (2, [.ref (ad 4), .ref (ad 1), .ref (ad 15), .ref (ad 16), .ref (ad 17), .int (0 : Int32), .int (0 : Int32), .int (0 : Int32)]) := (hne46 14 (by decide)).trans (hw_14)
            refine tw_put (r := 14) F hH kf_RX11_84 kp_X2_7 rfl (by decide) hw48 (Nat.le_of_ble_eq_true rfl) rfl rfl dX11_tyres_63 (fun H locs w49 hw50 hne51 hH => ?_)
            have hw50 : w49 14 = .inr (2, [.ref (ad 4), .ref (ad 1), .ref (ad 15), .ref (ad 16), .ref (ad 17), .int (0 : Int32), .int (0 : Int32), .int (0 : Int32)]) := hw50
            refine lv_iload hx hb dX11_tyres_66 (lv_at hl 0 rfl) ?_
            exact tw_iret F hH hret hlk rfl (Nat.le_of_ble_eq_true rfl) (Nat.le_of_ble_eq_true rfl) dX11_tyres_68 (Or.inr (Or.inl (⟨rfl, (Or.inr (Or.inr (Or.inl (by omega))))⟩)))
          · skip
            obtain rfl : (3 : Int32) = x1 := (Int32.toInt_inj.mp ((e1.trans hz27).trans (by decide : (3 : Int) = (3 : Int32).toInt))).symm
            refine lv_imul hx hb dX11_tyres_53 ?_
            refine tw_cv (v := (18 : Int32)) (by decide) ?_
            refine lv_iload_n hx hb dX11_tyres_54 rfl (lv_at hl 3 rfl) ?_
            refine lv_iadd hx hb dX11_tyres_55 ?_
            refine tw_cv (v := (18 : Int32)) (by decide) ?_
            refine lv_iload_n hx hb dX11_tyres_56 rfl (lv_at hl 4 rfl) ?_
            refine tw_iast (r := 8) (j := 18) F hH rfl (by decide) hw_8 (by decide) (by decide) dX11_tyres_57 (fun H locs w52 hw53 hne54 hH => ?_)
            refine lv_aload_n hx hb dX11_tyres_58 rfl (lv_at hl 1 rfl) ?_
            have hw55 : w52 0 = .inr (11, [.ref (ad 4), .ref (ad 14), .ref (ad 156), .ref (ad 221), .ref (ad 225), .ref (ad 233), .ref (ad 236), .int (0 : Int32), .ref (ad 237), .int (0 : Int32), .ref (ad 238)]) := (hne54 0 (by decide)).trans (hw_0)
            refine tw_get (r := 0) F hH kf_RX11_24 rfl (by decide) hw55 rfl dX11_tyres_59 ?_
            refine lv_iconst (v := 0) hx hb dX11_tyres_62 (by decide) ?_
            have hw56 : w52 14 = .inr (2, [.ref (ad 4), .ref (ad 1), .ref (ad 15), .ref (ad 16), .ref (ad 17), .int (0 : Int32), .int (0 : Int32), .int (0 : Int32)]) := (hne54 14 (by decide)).trans (hw_14)
            refine tw_put (r := 14) F hH kf_RX11_84 kp_X2_7 rfl (by decide) hw56 (Nat.le_of_ble_eq_true rfl) rfl rfl dX11_tyres_63 (fun H locs w57 hw58 hne59 hH => ?_)
            have hw58 : w57 14 = .inr (2, [.ref (ad 4), .ref (ad 1), .ref (ad 15), .ref (ad 16), .ref (ad 17), .int (0 : Int32), .int (0 : Int32), .int (0 : Int32)]) := hw58
            refine lv_iload hx hb dX11_tyres_66 (lv_at hl 0 rfl) ?_
            exact tw_iret F hH hret hlk rfl (Nat.le_of_ble_eq_true rfl) (Nat.le_of_ble_eq_true rfl) dX11_tyres_68 (Or.inr (Or.inl (⟨rfl, (Or.inr (Or.inr (Or.inr (Or.inl (by omega)))))⟩)))
      · skip
        obtain rfl : (1 : Int32) = x2 := (Int32.toInt_inj.mp ((e2.trans hz15).trans (by decide : (1 : Int) = (1 : Int32).toInt))).symm
        refine tw_tald (k := 4) (j := 1) (v := (100 : Int32)) F hH (by decide) (by decide) (by decide) (by decide) dX11_tyres_23 ?_
        refine tw_calli F hH (tw_runS (As := [.int x3, .int (0 : Int32), .int (100 : Int32)]) (rest := []) F hH (c_X11_isWithin l G 244 ad w H.size x3 (z3) e3 (0 : Int32) 0 (by decide : (0 : Int32).toInt = 0) (100 : Int32) 100 (by decide : (100 : Int32).toInt = 100)) (tw_gl kw_565 rfl) km_X11_isWithin (tw_gl kw_566 rfl) rfl rfl ⟨(Nat.le_of_ble_eq_true rfl), (Nat.le_of_ble_eq_true rfl)⟩ rfl hl.1 rfl (Nat.le_of_ble_eq_true rfl) dX11_tyres_24 ⟨(Nat.le_of_ble_eq_true rfl), (Nat.le_of_ble_eq_true rfl)⟩) (fun r62 w60 H locs hp61 _ hH => ?_)
        rcases hp61 with ⟨rfl, hc63, rfl⟩ | ⟨rfl, hc64, rfl⟩
        · skip
          refine lv_if_ne (tgt := 32) hx hb dX11_tyres_27 (by decide) (fun c => absurd c (by decide)) (fun _ => ?_)
          refine lv_iconst (v := -1) hx hb dX11_tyres_30 (by decide) ?_
          exact tw_iret F hH hret hlk rfl (Nat.le_of_ble_eq_true rfl) (Nat.le_of_ble_eq_true rfl) dX11_tyres_31 (Or.inl (⟨rfl, (Or.inr (Or.inr (Or.inr (Or.inl (by omega)))))⟩))
        · skip
          refine lv_if_ne (tgt := 32) hx hb dX11_tyres_27 (by decide) (fun _ => ?_) (fun c => absurd c (by decide))
          refine lv_aload_n hx hb dX11_tyres_32 rfl (lv_at hl 0 rfl) ?_
          refine tw_get (r := 0) F hH kf_RX11_15 rfl (by decide) hw_0 rfl dX11_tyres_33 ?_
          refine lv_iload_n hx hb dX11_tyres_36 rfl (lv_at hl 1 rfl) ?_
          refine lv_iload_n hx hb dX11_tyres_37 rfl (lv_at hl 2 rfl) ?_
          refine tw_calli F hH (tw_runV (r := 4) (As := [.int x1, .int (1 : Int32)]) (rest := []) F hH (c_X9_tyreNumber_v2 l G ad w H.size x1 (z1) e1 hw_4 hw_8) (tw_gl kw_575 rfl) km_X9_tyreNumber kv_X9_tyreNumber rfl rfl ⟨(Nat.le_of_ble_eq_true rfl), (Nat.le_of_ble_eq_true rfl)⟩ (by decide) hw_4 rfl rfl hl.1 rfl (Nat.le_of_ble_eq_true rfl) dX11_tyres_38 ⟨(Nat.le_of_ble_eq_true rfl), (Nat.le_of_ble_eq_true rfl)⟩) (fun r69 w67 H locs hp68 _ hH => ?_)
          rcases hp68 with ⟨rfl, hc70, rfl⟩ | ⟨rfl, hc71, rfl⟩
          · exfalso; omega
          · skip
            refine lv_istore (lv' := [(4, .int (10 : Int32)), (0, .ref (ad 0)), (1, .int x1), (2, .int (1 : Int32)), (3, .int x3)]) hx hb dX11_tyres_41 hl (by decide) rfl (fun ls hl => ?_)
            refine lv_aload_n hx hb dX11_tyres_43 rfl (lv_at hl 1 rfl) ?_
            refine tw_get (r := 0) F hH kf_RX11_15 rfl (by decide) hw_0 rfl dX11_tyres_44 ?_
            refine tw_get (r := 4) F hH kf_RX11_126 rfl (by decide) hw_4 rfl dX11_tyres_47 ?_
            refine lv_iload_n hx hb dX11_tyres_50 rfl (lv_at hl 2 rfl) ?_
            refine lv_bipush (v := 6) hx hb dX11_tyres_51 (by decide) ?_
            rcases (by omega : z1 = 0 ∨ z1 = 1 ∨ z1 = 2 ∨ z1 = 3) with hz72 | hz72 | hz72 | hz72
            · skip
              obtain rfl : (0 : Int32) = x1 := (Int32.toInt_inj.mp ((e1.trans hz72).trans (by decide : (0 : Int) = (0 : Int32).toInt))).symm
              refine lv_imul hx hb dX11_tyres_53 ?_
              refine tw_cv (v := (0 : Int32)) (by decide) ?_
              refine lv_iload_n hx hb dX11_tyres_54 rfl (lv_at hl 3 rfl) ?_
              refine lv_iadd hx hb dX11_tyres_55 ?_
              refine tw_cv (v := (1 : Int32)) (by decide) ?_
              refine lv_iload_n hx hb dX11_tyres_56 rfl (lv_at hl 4 rfl) ?_
              refine tw_iast (r := 8) (j := 1) F hH rfl (by decide) hw_8 (by decide) (by decide) dX11_tyres_57 (fun H locs w73 hw74 hne75 hH => ?_)
              refine lv_aload_n hx hb dX11_tyres_58 rfl (lv_at hl 1 rfl) ?_
              have hw76 : w73 0 = .inr (11, [.ref (ad 4), .ref (ad 14), .ref (ad 156), .ref (ad 221), .ref (ad 225), .ref (ad 233), .ref (ad 236), .int (0 : Int32), .ref (ad 237), .int (0 : Int32), .ref (ad 238)]) := (hne75 0 (by decide)).trans (hw_0)
              refine tw_get (r := 0) F hH kf_RX11_24 rfl (by decide) hw76 rfl dX11_tyres_59 ?_
              refine lv_iconst (v := 0) hx hb dX11_tyres_62 (by decide) ?_
              have hw77 : w73 14 = .inr (2, [.ref (ad 4), .ref (ad 1), .ref (ad 15), .ref (ad 16), .ref (ad 17), .int (0 : Int32), .int (0 : Int32), .int (0 : Int32)]) := (hne75 14 (by decide)).trans (hw_14)
              refine tw_put (r := 14) F hH kf_RX11_84 kp_X2_7 rfl (by decide) hw77 (Nat.le_of_ble_eq_true rfl) rfl rfl dX11_tyres_63 (fun H locs w78 hw79 hne80 hH => ?_)
              have hw79 : w78 14 = .inr (2, [.ref (ad 4), .ref (ad 1), .ref (ad 15), .ref (ad 16), .ref (ad 17), .int (0 : Int32), .int (0 : Int32), .int (0 : Int32)]) := hw79
              refine lv_iload hx hb dX11_tyres_66 (lv_at hl 0 rfl) ?_
              exact tw_iret F hH hret hlk rfl (Nat.le_of_ble_eq_true rfl) (Nat.le_of_ble_eq_true rfl) dX11_tyres_68 (Or.inr (Or.inr (Or.inl (⟨rfl, (Or.inl (by omega))⟩))))
            · skip
              obtain rfl : (1 : Int32) = x1 := (Int32.toInt_inj.mp ((e1.trans hz72).trans (by decide : (1 : Int) = (1 : Int32).toInt))).symm
              refine lv_imul hx hb dX11_tyres_53 ?_
              refine tw_cv (v := (6 : Int32)) (by decide) ?_
              refine lv_iload_n hx hb dX11_tyres_54 rfl (lv_at hl 3 rfl) ?_
              refine lv_iadd hx hb dX11_tyres_55 ?_
              refine tw_cv (v := (7 : Int32)) (by decide) ?_
              refine lv_iload_n hx hb dX11_tyres_56 rfl (lv_at hl 4 rfl) ?_
              refine tw_iast (r := 8) (j := 7) F hH rfl (by decide) hw_8 (by decide) (by decide) dX11_tyres_57 (fun H locs w81 hw82 hne83 hH => ?_)
              refine lv_aload_n hx hb dX11_tyres_58 rfl (lv_at hl 1 rfl) ?_
              have hw84 : w81 0 = .inr (11, [.ref (ad 4), .ref (ad 14), .ref (ad 156), .ref (ad 221), .ref (ad 225), .ref (ad 233), .ref (ad 236), .int (0 : Int32), .ref (ad 237), .int (0 : Int32), .ref (ad 238)]) := (hne83 0 (by decide)).trans (hw_0)
              refine tw_get (r := 0) F hH kf_RX11_24 rfl (by decide) hw84 rfl dX11_tyres_59 ?_
              refine lv_iconst (v := 0) hx hb dX11_tyres_62 (by decide) ?_
              have hw85 : w81 14 = .inr (2, [.ref (ad 4), .ref (ad 1), .ref (ad 15), .ref (ad 16), .ref (ad 17), .int (0 : Int32), .int (0 : Int32), .int (0 : Int32)]) := (hne83 14 (by decide)).trans (hw_14)
              refine tw_put (r := 14) F hH kf_RX11_84 kp_X2_7 rfl (by decide) hw85 (Nat.le_of_ble_eq_true rfl) rfl rfl dX11_tyres_63 (fun H locs w86 hw87 hne88 hH => ?_)
              have hw87 : w86 14 = .inr (2, [.ref (ad 4), .ref (ad 1), .ref (ad 15), .ref (ad 16), .ref (ad 17), .int (0 : Int32), .int (0 : Int32), .int (0 : Int32)]) := hw87
              refine lv_iload hx hb dX11_tyres_66 (lv_at hl 0 rfl) ?_
              exact tw_iret F hH hret hlk rfl (Nat.le_of_ble_eq_true rfl) (Nat.le_of_ble_eq_true rfl) dX11_tyres_68 (Or.inr (Or.inr (Or.inl (⟨rfl, (Or.inr (Or.inl (by omega)))⟩))))
            · skip
              obtain rfl : (2 : Int32) = x1 := (Int32.toInt_inj.mp ((e1.trans hz72).trans (by decide : (2 : Int) = (2 : Int32).toInt))).symm
              refine lv_imul hx hb dX11_tyres_53 ?_
              refine tw_cv (v := (12 : Int32)) (by decide) ?_
              refine lv_iload_n hx hb dX11_tyres_54 rfl (lv_at hl 3 rfl) ?_
              refine lv_iadd hx hb dX11_tyres_55 ?_
              refine tw_cv (v := (13 : Int32)) (by decide) ?_
              refine lv_iload_n hx hb dX11_tyres_56 rfl (lv_at hl 4 rfl) ?_
              refine tw_iast (r := 8) (j := 13) F hH rfl (by decide) hw_8 (by decide) (by decide) dX11_tyres_57 (fun H locs w89 hw90 hne91 hH => ?_)
              refine lv_aload_n hx hb dX11_tyres_58 rfl (lv_at hl 1 rfl) ?_
              have hw92 : w89 0 = .inr (11, [.ref (ad 4), .ref (ad 14), .ref (ad 156), .ref (ad 221), .ref (ad 225), .ref (ad 233), .ref (ad 236), .int (0 : Int32), .ref (ad 237), .int (0 : Int32), .ref (ad 238)]) := (hne91 0 (by decide)).trans (hw_0)
              refine tw_get (r := 0) F hH kf_RX11_24 rfl (by decide) hw92 rfl dX11_tyres_59 ?_
              refine lv_iconst (v := 0) hx hb dX11_tyres_62 (by decide) ?_
              have hw93 : w89 14 = .inr (2, [.ref (ad 4), .ref (ad 1), .ref (ad 15), .ref (ad 16), .ref (ad 17), .int (0 : Int32), .int (0 : Int32), .int (0 : Int32)]) := (hne91 14 (by decide)).trans (hw_14)
              refine tw_put (r := 14) F hH kf_RX11_84 kp_X2_7 rfl (by decide) hw93 (Nat.le_of_ble_eq_true rfl) rfl rfl dX11_tyres_63 (fun H locs w94 hw95 hne96 hH => ?_)
              have hw95 : w94 14 = .inr (2, [.ref (ad 4), .ref (ad 1), .ref (ad 15), .ref (ad 16), .ref (ad 17), .int (0 : Int32), .int (0 : Int32), .int (0 : Int32)]) := hw95
              refine lv_iload hx hb dX11_tyres_66 (lv_at hl 0 rfl) ?_
              exact tw_iret F hH hret hlk rfl (Nat.le_of_ble_eq_true rfl) (Nat.le_of_ble_eq_true rfl) dX11_tyres_68 (Or.inr (Or.inr (Or.inl (⟨rfl, (Or.inr (Or.inr (Or.inl (by omega))))⟩))))
            · skip
              obtain rfl : (3 : Int32) = x1 := (Int32.toInt_inj.mp ((e1.trans hz72).trans (by decide : (3 : Int) = (3 : Int32).toInt))).symm
              refine lv_imul hx hb dX11_tyres_53 ?_
              refine tw_cv (v := (18 : Int32)) (by decide) ?_
              refine lv_iload_n hx hb dX11_tyres_54 rfl (lv_at hl 3 rfl) ?_
              refine lv_iadd hx hb dX11_tyres_55 ?_
              refine tw_cv (v := (19 : Int32)) (by decide) ?_
              refine lv_iload_n hx hb dX11_tyres_56 rfl (lv_at hl 4 rfl) ?_
              refine tw_iast (r := 8) (j := 19) F hH rfl (by decide) hw_8 (by decide) (by decide) dX11_tyres_57 (fun H locs w97 hw98 hne99 hH => ?_)
              refine lv_aload_n hx hb dX11_tyres_58 rfl (lv_at hl 1 rfl) ?_
              have hw100 : w97 0 = .inr (11, [.ref (ad 4), .ref (ad 14), .ref (ad 156), .ref (ad 221), .ref (ad 225), .ref (ad 233), .ref (ad 236), .int (0 : Int32), .ref (ad 237), .int (0 : Int32), .ref (ad 238)]) := (hne99 0 (by decide)).trans (hw_0)
              refine tw_get (r := 0) F hH kf_RX11_24 rfl (by decide) hw100 rfl dX11_tyres_59 ?_
              refine lv_iconst (v := 0) hx hb dX11_tyres_62 (by decide) ?_
              have hw101 : w97 14 = .inr (2, [.ref (ad 4), .ref (ad 1), .ref (ad 15), .ref (ad 16), .ref (ad 17), .int (0 : Int32), .int (0 : Int32), .int (0 : Int32)]) := (hne99 14 (by decide)).trans (hw_14)
              refine tw_put (r := 14) F hH kf_RX11_84 kp_X2_7 rfl (by decide) hw101 (Nat.le_of_ble_eq_true rfl) rfl rfl dX11_tyres_63 (fun H locs w102 hw103 hne104 hH => ?_)
              have hw103 : w102 14 = .inr (2, [.ref (ad 4), .ref (ad 1), .ref (ad 15), .ref (ad 16), .ref (ad 17), .int (0 : Int32), .int (0 : Int32), .int (0 : Int32)]) := hw103
              refine lv_iload hx hb dX11_tyres_66 (lv_at hl 0 rfl) ?_
              exact tw_iret F hH hret hlk rfl (Nat.le_of_ble_eq_true rfl) (Nat.le_of_ble_eq_true rfl) dX11_tyres_68 (Or.inr (Or.inr (Or.inl (⟨rfl, (Or.inr (Or.inr (Or.inr (by omega))))⟩))))
      · skip
        obtain rfl : (2 : Int32) = x2 := (Int32.toInt_inj.mp ((e2.trans hz15).trans (by decide : (2 : Int) = (2 : Int32).toInt))).symm
        refine tw_tald (k := 4) (j := 2) (v := (200 : Int32)) F hH (by decide) (by decide) (by decide) (by decide) dX11_tyres_23 ?_
        refine tw_calli F hH (tw_runS (As := [.int x3, .int (0 : Int32), .int (200 : Int32)]) (rest := []) F hH (c_X11_isWithin l G 244 ad w H.size x3 (z3) e3 (0 : Int32) 0 (by decide : (0 : Int32).toInt = 0) (200 : Int32) 200 (by decide : (200 : Int32).toInt = 200)) (tw_gl kw_565 rfl) km_X11_isWithin (tw_gl kw_566 rfl) rfl rfl ⟨(Nat.le_of_ble_eq_true rfl), (Nat.le_of_ble_eq_true rfl)⟩ rfl hl.1 rfl (Nat.le_of_ble_eq_true rfl) dX11_tyres_24 ⟨(Nat.le_of_ble_eq_true rfl), (Nat.le_of_ble_eq_true rfl)⟩) (fun r107 w105 H locs hp106 _ hH => ?_)
        rcases hp106 with ⟨rfl, hc108, rfl⟩ | ⟨rfl, hc109, rfl⟩
        · skip
          refine lv_if_ne (tgt := 32) hx hb dX11_tyres_27 (by decide) (fun c => absurd c (by decide)) (fun _ => ?_)
          refine lv_iconst (v := -1) hx hb dX11_tyres_30 (by decide) ?_
          exact tw_iret F hH hret hlk rfl (Nat.le_of_ble_eq_true rfl) (Nat.le_of_ble_eq_true rfl) dX11_tyres_31 (Or.inl (⟨rfl, (Or.inr (Or.inr (Or.inr (Or.inr (Or.inl (by omega))))))⟩))
        · skip
          refine lv_if_ne (tgt := 32) hx hb dX11_tyres_27 (by decide) (fun _ => ?_) (fun c => absurd c (by decide))
          refine lv_aload_n hx hb dX11_tyres_32 rfl (lv_at hl 0 rfl) ?_
          refine tw_get (r := 0) F hH kf_RX11_15 rfl (by decide) hw_0 rfl dX11_tyres_33 ?_
          refine lv_iload_n hx hb dX11_tyres_36 rfl (lv_at hl 1 rfl) ?_
          refine lv_iload_n hx hb dX11_tyres_37 rfl (lv_at hl 2 rfl) ?_
          refine tw_calli F hH (tw_runV (r := 4) (As := [.int x1, .int (2 : Int32)]) (rest := []) F hH (c_X9_tyreNumber_v3 l G ad w H.size x1 (z1) e1 hw_4 hw_8) (tw_gl kw_575 rfl) km_X9_tyreNumber kv_X9_tyreNumber rfl rfl ⟨(Nat.le_of_ble_eq_true rfl), (Nat.le_of_ble_eq_true rfl)⟩ (by decide) hw_4 rfl rfl hl.1 rfl (Nat.le_of_ble_eq_true rfl) dX11_tyres_38 ⟨(Nat.le_of_ble_eq_true rfl), (Nat.le_of_ble_eq_true rfl)⟩) (fun r114 w112 H locs hp113 _ hH => ?_)
          rcases hp113 with ⟨rfl, hc115, rfl⟩ | ⟨rfl, hc116, rfl⟩
          · exfalso; omega
          · skip
            refine lv_istore (lv' := [(4, .int (40 : Int32)), (0, .ref (ad 0)), (1, .int x1), (2, .int (2 : Int32)), (3, .int x3)]) hx hb dX11_tyres_41 hl (by decide) rfl (fun ls hl => ?_)
            refine lv_aload_n hx hb dX11_tyres_43 rfl (lv_at hl 1 rfl) ?_
            refine tw_get (r := 0) F hH kf_RX11_15 rfl (by decide) hw_0 rfl dX11_tyres_44 ?_
            refine tw_get (r := 4) F hH kf_RX11_126 rfl (by decide) hw_4 rfl dX11_tyres_47 ?_
            refine lv_iload_n hx hb dX11_tyres_50 rfl (lv_at hl 2 rfl) ?_
            refine lv_bipush (v := 6) hx hb dX11_tyres_51 (by decide) ?_
            rcases (by omega : z1 = 0 ∨ z1 = 1 ∨ z1 = 2 ∨ z1 = 3) with hz117 | hz117 | hz117 | hz117
            · skip
              obtain rfl : (0 : Int32) = x1 := (Int32.toInt_inj.mp ((e1.trans hz117).trans (by decide : (0 : Int) = (0 : Int32).toInt))).symm
              refine lv_imul hx hb dX11_tyres_53 ?_
              refine tw_cv (v := (0 : Int32)) (by decide) ?_
              refine lv_iload_n hx hb dX11_tyres_54 rfl (lv_at hl 3 rfl) ?_
              refine lv_iadd hx hb dX11_tyres_55 ?_
              refine tw_cv (v := (2 : Int32)) (by decide) ?_
              refine lv_iload_n hx hb dX11_tyres_56 rfl (lv_at hl 4 rfl) ?_
              refine tw_iast (r := 8) (j := 2) F hH rfl (by decide) hw_8 (by decide) (by decide) dX11_tyres_57 (fun H locs w118 hw119 hne120 hH => ?_)
              refine lv_aload_n hx hb dX11_tyres_58 rfl (lv_at hl 1 rfl) ?_
              have hw121 : w118 0 = .inr (11, [.ref (ad 4), .ref (ad 14), .ref (ad 156), .ref (ad 221), .ref (ad 225), .ref (ad 233), .ref (ad 236), .int (0 : Int32), .ref (ad 237), .int (0 : Int32), .ref (ad 238)]) := (hne120 0 (by decide)).trans (hw_0)
              refine tw_get (r := 0) F hH kf_RX11_24 rfl (by decide) hw121 rfl dX11_tyres_59 ?_
              refine lv_iconst (v := 0) hx hb dX11_tyres_62 (by decide) ?_
              have hw122 : w118 14 = .inr (2, [.ref (ad 4), .ref (ad 1), .ref (ad 15), .ref (ad 16), .ref (ad 17), .int (0 : Int32), .int (0 : Int32), .int (0 : Int32)]) := (hne120 14 (by decide)).trans (hw_14)
              refine tw_put (r := 14) F hH kf_RX11_84 kp_X2_7 rfl (by decide) hw122 (Nat.le_of_ble_eq_true rfl) rfl rfl dX11_tyres_63 (fun H locs w123 hw124 hne125 hH => ?_)
              have hw124 : w123 14 = .inr (2, [.ref (ad 4), .ref (ad 1), .ref (ad 15), .ref (ad 16), .ref (ad 17), .int (0 : Int32), .int (0 : Int32), .int (0 : Int32)]) := hw124
              refine lv_iload hx hb dX11_tyres_66 (lv_at hl 0 rfl) ?_
              exact tw_iret F hH hret hlk rfl (Nat.le_of_ble_eq_true rfl) (Nat.le_of_ble_eq_true rfl) dX11_tyres_68 (Or.inr (Or.inr (Or.inr (Or.inl (⟨rfl, (Or.inl (by omega))⟩)))))
            · skip
              obtain rfl : (1 : Int32) = x1 := (Int32.toInt_inj.mp ((e1.trans hz117).trans (by decide : (1 : Int) = (1 : Int32).toInt))).symm
              refine lv_imul hx hb dX11_tyres_53 ?_
              refine tw_cv (v := (6 : Int32)) (by decide) ?_
              refine lv_iload_n hx hb dX11_tyres_54 rfl (lv_at hl 3 rfl) ?_
              refine lv_iadd hx hb dX11_tyres_55 ?_
              refine tw_cv (v := (8 : Int32)) (by decide) ?_
              refine lv_iload_n hx hb dX11_tyres_56 rfl (lv_at hl 4 rfl) ?_
              refine tw_iast (r := 8) (j := 8) F hH rfl (by decide) hw_8 (by decide) (by decide) dX11_tyres_57 (fun H locs w126 hw127 hne128 hH => ?_)
              refine lv_aload_n hx hb dX11_tyres_58 rfl (lv_at hl 1 rfl) ?_
              have hw129 : w126 0 = .inr (11, [.ref (ad 4), .ref (ad 14), .ref (ad 156), .ref (ad 221), .ref (ad 225), .ref (ad 233), .ref (ad 236), .int (0 : Int32), .ref (ad 237), .int (0 : Int32), .ref (ad 238)]) := (hne128 0 (by decide)).trans (hw_0)
              refine tw_get (r := 0) F hH kf_RX11_24 rfl (by decide) hw129 rfl dX11_tyres_59 ?_
              refine lv_iconst (v := 0) hx hb dX11_tyres_62 (by decide) ?_
              have hw130 : w126 14 = .inr (2, [.ref (ad 4), .ref (ad 1), .ref (ad 15), .ref (ad 16), .ref (ad 17), .int (0 : Int32), .int (0 : Int32), .int (0 : Int32)]) := (hne128 14 (by decide)).trans (hw_14)
              refine tw_put (r := 14) F hH kf_RX11_84 kp_X2_7 rfl (by decide) hw130 (Nat.le_of_ble_eq_true rfl) rfl rfl dX11_tyres_63 (fun H locs w131 hw132 hne133 hH => ?_)
              have hw132 : w131 14 = .inr (2, [.ref (ad 4), .ref (ad 1), .ref (ad 15), .ref (ad 16), .ref (ad 17), .int (0 : Int32), .int (0 : Int32), .int (0 : Int32)]) := hw132
              refine lv_iload hx hb dX11_tyres_66 (lv_at hl 0 rfl) ?_
              exact tw_iret F hH hret hlk rfl (Nat.le_of_ble_eq_true rfl) (Nat.le_of_ble_eq_true rfl) dX11_tyres_68 (Or.inr (Or.inr (Or.inr (Or.inl (⟨rfl, (Or.inr (Or.inl (by omega)))⟩)))))
            · skip
              obtain rfl : (2 : Int32) = x1 := (Int32.toInt_inj.mp ((e1.trans hz117).trans (by decide : (2 : Int) = (2 : Int32).toInt))).symm
              refine lv_imul hx hb dX11_tyres_53 ?_
              refine tw_cv (v := (12 : Int32)) (by decide) ?_
              refine lv_iload_n hx hb dX11_tyres_54 rfl (lv_at hl 3 rfl) ?_
              refine lv_iadd hx hb dX11_tyres_55 ?_
              refine tw_cv (v := (14 : Int32)) (by decide) ?_
              refine lv_iload_n hx hb dX11_tyres_56 rfl (lv_at hl 4 rfl) ?_
              refine tw_iast (r := 8) (j := 14) F hH rfl (by decide) hw_8 (by decide) (by decide) dX11_tyres_57 (fun H locs w134 hw135 hne136 hH => ?_)
              refine lv_aload_n hx hb dX11_tyres_58 rfl (lv_at hl 1 rfl) ?_
              have hw137 : w134 0 = .inr (11, [.ref (ad 4), .ref (ad 14), .ref (ad 156), .ref (ad 221), .ref (ad 225), .ref (ad 233), .ref (ad 236), .int (0 : Int32), .ref (ad 237), .int (0 : Int32), .ref (ad 238)]) := (hne136 0 (by decide)).trans (hw_0)
              refine tw_get (r := 0) F hH kf_RX11_24 rfl (by decide) hw137 rfl dX11_tyres_59 ?_
              refine lv_iconst (v := 0) hx hb dX11_tyres_62 (by decide) ?_
              have hw138 : w134 14 = .inr (2, [.ref (ad 4), .ref (ad 1), .ref (ad 15), .ref (ad 16), .ref (ad 17), .int (0 : Int32), .int (0 : Int32), .int (0 : Int32)]) := (hne136 14 (by decide)).trans (hw_14)
              refine tw_put (r := 14) F hH kf_RX11_84 kp_X2_7 rfl (by decide) hw138 (Nat.le_of_ble_eq_true rfl) rfl rfl dX11_tyres_63 (fun H locs w139 hw140 hne141 hH => ?_)
              have hw140 : w139 14 = .inr (2, [.ref (ad 4), .ref (ad 1), .ref (ad 15), .ref (ad 16), .ref (ad 17), .int (0 : Int32), .int (0 : Int32), .int (0 : Int32)]) := hw140
              refine lv_iload hx hb dX11_tyres_66 (lv_at hl 0 rfl) ?_
              exact tw_iret F hH hret hlk rfl (Nat.le_of_ble_eq_true rfl) (Nat.le_of_ble_eq_true rfl) dX11_tyres_68 (Or.inr (Or.inr (Or.inr (Or.inl (⟨rfl, (Or.inr (Or.inr (Or.inl (by omega))))⟩)))))
            · skip
              obtain rfl : (3 : Int32) = x1 := (Int32.toInt_inj.mp ((e1.trans hz117).trans (by decide : (3 : Int) = (3 : Int32).toInt))).symm
              refine lv_imul hx hb dX11_tyres_53 ?_
              refine tw_cv (v := (18 : Int32)) (by decide) ?_
              refine lv_iload_n hx hb dX11_tyres_54 rfl (lv_at hl 3 rfl) ?_
              refine lv_iadd hx hb dX11_tyres_55 ?_
              refine tw_cv (v := (20 : Int32)) (by decide) ?_
              refine lv_iload_n hx hb dX11_tyres_56 rfl (lv_at hl 4 rfl) ?_
              refine tw_iast (r := 8) (j := 20) F hH rfl (by decide) hw_8 (by decide) (by decide) dX11_tyres_57 (fun H locs w142 hw143 hne144 hH => ?_)
              refine lv_aload_n hx hb dX11_tyres_58 rfl (lv_at hl 1 rfl) ?_
              have hw145 : w142 0 = .inr (11, [.ref (ad 4), .ref (ad 14), .ref (ad 156), .ref (ad 221), .ref (ad 225), .ref (ad 233), .ref (ad 236), .int (0 : Int32), .ref (ad 237), .int (0 : Int32), .ref (ad 238)]) := (hne144 0 (by decide)).trans (hw_0)
              refine tw_get (r := 0) F hH kf_RX11_24 rfl (by decide) hw145 rfl dX11_tyres_59 ?_
              refine lv_iconst (v := 0) hx hb dX11_tyres_62 (by decide) ?_
              have hw146 : w142 14 = .inr (2, [.ref (ad 4), .ref (ad 1), .ref (ad 15), .ref (ad 16), .ref (ad 17), .int (0 : Int32), .int (0 : Int32), .int (0 : Int32)]) := (hne144 14 (by decide)).trans (hw_14)
              refine tw_put (r := 14) F hH kf_RX11_84 kp_X2_7 rfl (by decide) hw146 (Nat.le_of_ble_eq_true rfl) rfl rfl dX11_tyres_63 (fun H locs w147 hw148 hne149 hH => ?_)
              have hw148 : w147 14 = .inr (2, [.ref (ad 4), .ref (ad 1), .ref (ad 15), .ref (ad 16), .ref (ad 17), .int (0 : Int32), .int (0 : Int32), .int (0 : Int32)]) := hw148
              refine lv_iload hx hb dX11_tyres_66 (lv_at hl 0 rfl) ?_
              exact tw_iret F hH hret hlk rfl (Nat.le_of_ble_eq_true rfl) (Nat.le_of_ble_eq_true rfl) dX11_tyres_68 (Or.inr (Or.inr (Or.inr (Or.inl (⟨rfl, (Or.inr (Or.inr (Or.inr (by omega))))⟩)))))
      · skip
        obtain rfl : (3 : Int32) = x2 := (Int32.toInt_inj.mp ((e2.trans hz15).trans (by decide : (3 : Int) = (3 : Int32).toInt))).symm
        refine tw_tald (k := 4) (j := 3) (v := (5000 : Int32)) F hH (by decide) (by decide) (by decide) (by decide) dX11_tyres_23 ?_
        refine tw_calli F hH (tw_runS (As := [.int x3, .int (0 : Int32), .int (5000 : Int32)]) (rest := []) F hH (c_X11_isWithin l G 244 ad w H.size x3 (z3) e3 (0 : Int32) 0 (by decide : (0 : Int32).toInt = 0) (5000 : Int32) 5000 (by decide : (5000 : Int32).toInt = 5000)) (tw_gl kw_565 rfl) km_X11_isWithin (tw_gl kw_566 rfl) rfl rfl ⟨(Nat.le_of_ble_eq_true rfl), (Nat.le_of_ble_eq_true rfl)⟩ rfl hl.1 rfl (Nat.le_of_ble_eq_true rfl) dX11_tyres_24 ⟨(Nat.le_of_ble_eq_true rfl), (Nat.le_of_ble_eq_true rfl)⟩) (fun r152 w150 H locs hp151 _ hH => ?_)
        rcases hp151 with ⟨rfl, hc153, rfl⟩ | ⟨rfl, hc154, rfl⟩
        · skip
          refine lv_if_ne (tgt := 32) hx hb dX11_tyres_27 (by decide) (fun c => absurd c (by decide)) (fun _ => ?_)
          refine lv_iconst (v := -1) hx hb dX11_tyres_30 (by decide) ?_
          exact tw_iret F hH hret hlk rfl (Nat.le_of_ble_eq_true rfl) (Nat.le_of_ble_eq_true rfl) dX11_tyres_31 (Or.inl (⟨rfl, (Or.inr (Or.inr (Or.inr (Or.inr (Or.inr (Or.inl (by omega)))))))⟩))
        · skip
          refine lv_if_ne (tgt := 32) hx hb dX11_tyres_27 (by decide) (fun _ => ?_) (fun c => absurd c (by decide))
          refine lv_aload_n hx hb dX11_tyres_32 rfl (lv_at hl 0 rfl) ?_
          refine tw_get (r := 0) F hH kf_RX11_15 rfl (by decide) hw_0 rfl dX11_tyres_33 ?_
          refine lv_iload_n hx hb dX11_tyres_36 rfl (lv_at hl 1 rfl) ?_
          refine lv_iload_n hx hb dX11_tyres_37 rfl (lv_at hl 2 rfl) ?_
          refine tw_calli F hH (tw_runV (r := 4) (As := [.int x1, .int (3 : Int32)]) (rest := []) F hH (c_X9_tyreNumber_v4 l G ad w H.size x1 (z1) e1 hw_4 hw_8) (tw_gl kw_575 rfl) km_X9_tyreNumber kv_X9_tyreNumber rfl rfl ⟨(Nat.le_of_ble_eq_true rfl), (Nat.le_of_ble_eq_true rfl)⟩ (by decide) hw_4 rfl rfl hl.1 rfl (Nat.le_of_ble_eq_true rfl) dX11_tyres_38 ⟨(Nat.le_of_ble_eq_true rfl), (Nat.le_of_ble_eq_true rfl)⟩) (fun r159 w157 H locs hp158 _ hH => ?_)
          rcases hp158 with ⟨rfl, hc160, rfl⟩ | ⟨rfl, hc161, rfl⟩
          · exfalso; omega
          · skip
            refine lv_istore (lv' := [(4, .int (1000 : Int32)), (0, .ref (ad 0)), (1, .int x1), (2, .int (3 : Int32)), (3, .int x3)]) hx hb dX11_tyres_41 hl (by decide) rfl (fun ls hl => ?_)
            refine lv_aload_n hx hb dX11_tyres_43 rfl (lv_at hl 1 rfl) ?_
            refine tw_get (r := 0) F hH kf_RX11_15 rfl (by decide) hw_0 rfl dX11_tyres_44 ?_
            refine tw_get (r := 4) F hH kf_RX11_126 rfl (by decide) hw_4 rfl dX11_tyres_47 ?_
            refine lv_iload_n hx hb dX11_tyres_50 rfl (lv_at hl 2 rfl) ?_
            refine lv_bipush (v := 6) hx hb dX11_tyres_51 (by decide) ?_
            rcases (by omega : z1 = 0 ∨ z1 = 1 ∨ z1 = 2 ∨ z1 = 3) with hz162 | hz162 | hz162 | hz162
            · skip
              obtain rfl : (0 : Int32) = x1 := (Int32.toInt_inj.mp ((e1.trans hz162).trans (by decide : (0 : Int) = (0 : Int32).toInt))).symm
              refine lv_imul hx hb dX11_tyres_53 ?_
              refine tw_cv (v := (0 : Int32)) (by decide) ?_
              refine lv_iload_n hx hb dX11_tyres_54 rfl (lv_at hl 3 rfl) ?_
              refine lv_iadd hx hb dX11_tyres_55 ?_
              refine tw_cv (v := (3 : Int32)) (by decide) ?_
              refine lv_iload_n hx hb dX11_tyres_56 rfl (lv_at hl 4 rfl) ?_
              refine tw_iast (r := 8) (j := 3) F hH rfl (by decide) hw_8 (by decide) (by decide) dX11_tyres_57 (fun H locs w163 hw164 hne165 hH => ?_)
              refine lv_aload_n hx hb dX11_tyres_58 rfl (lv_at hl 1 rfl) ?_
              have hw166 : w163 0 = .inr (11, [.ref (ad 4), .ref (ad 14), .ref (ad 156), .ref (ad 221), .ref (ad 225), .ref (ad 233), .ref (ad 236), .int (0 : Int32), .ref (ad 237), .int (0 : Int32), .ref (ad 238)]) := (hne165 0 (by decide)).trans (hw_0)
              refine tw_get (r := 0) F hH kf_RX11_24 rfl (by decide) hw166 rfl dX11_tyres_59 ?_
              refine lv_iconst (v := 0) hx hb dX11_tyres_62 (by decide) ?_
              have hw167 : w163 14 = .inr (2, [.ref (ad 4), .ref (ad 1), .ref (ad 15), .ref (ad 16), .ref (ad 17), .int (0 : Int32), .int (0 : Int32), .int (0 : Int32)]) := (hne165 14 (by decide)).trans (hw_14)
              refine tw_put (r := 14) F hH kf_RX11_84 kp_X2_7 rfl (by decide) hw167 (Nat.le_of_ble_eq_true rfl) rfl rfl dX11_tyres_63 (fun H locs w168 hw169 hne170 hH => ?_)
              have hw169 : w168 14 = .inr (2, [.ref (ad 4), .ref (ad 1), .ref (ad 15), .ref (ad 16), .ref (ad 17), .int (0 : Int32), .int (0 : Int32), .int (0 : Int32)]) := hw169
              refine lv_iload hx hb dX11_tyres_66 (lv_at hl 0 rfl) ?_
              exact tw_iret F hH hret hlk rfl (Nat.le_of_ble_eq_true rfl) (Nat.le_of_ble_eq_true rfl) dX11_tyres_68 (Or.inr (Or.inr (Or.inr (Or.inr (Or.inl (⟨rfl, (Or.inl (by omega))⟩))))))
            · skip
              obtain rfl : (1 : Int32) = x1 := (Int32.toInt_inj.mp ((e1.trans hz162).trans (by decide : (1 : Int) = (1 : Int32).toInt))).symm
              refine lv_imul hx hb dX11_tyres_53 ?_
              refine tw_cv (v := (6 : Int32)) (by decide) ?_
              refine lv_iload_n hx hb dX11_tyres_54 rfl (lv_at hl 3 rfl) ?_
              refine lv_iadd hx hb dX11_tyres_55 ?_
              refine tw_cv (v := (9 : Int32)) (by decide) ?_
              refine lv_iload_n hx hb dX11_tyres_56 rfl (lv_at hl 4 rfl) ?_
              refine tw_iast (r := 8) (j := 9) F hH rfl (by decide) hw_8 (by decide) (by decide) dX11_tyres_57 (fun H locs w171 hw172 hne173 hH => ?_)
              refine lv_aload_n hx hb dX11_tyres_58 rfl (lv_at hl 1 rfl) ?_
              have hw174 : w171 0 = .inr (11, [.ref (ad 4), .ref (ad 14), .ref (ad 156), .ref (ad 221), .ref (ad 225), .ref (ad 233), .ref (ad 236), .int (0 : Int32), .ref (ad 237), .int (0 : Int32), .ref (ad 238)]) := (hne173 0 (by decide)).trans (hw_0)
              refine tw_get (r := 0) F hH kf_RX11_24 rfl (by decide) hw174 rfl dX11_tyres_59 ?_
              refine lv_iconst (v := 0) hx hb dX11_tyres_62 (by decide) ?_
              have hw175 : w171 14 = .inr (2, [.ref (ad 4), .ref (ad 1), .ref (ad 15), .ref (ad 16), .ref (ad 17), .int (0 : Int32), .int (0 : Int32), .int (0 : Int32)]) := (hne173 14 (by decide)).trans (hw_14)
              refine tw_put (r := 14) F hH kf_RX11_84 kp_X2_7 rfl (by decide) hw175 (Nat.le_of_ble_eq_true rfl) rfl rfl dX11_tyres_63 (fun H locs w176 hw177 hne178 hH => ?_)
              have hw177 : w176 14 = .inr (2, [.ref (ad 4), .ref (ad 1), .ref (ad 15), .ref (ad 16), .ref (ad 17), .int (0 : Int32), .int (0 : Int32), .int (0 : Int32)]) := hw177
              refine lv_iload hx hb dX11_tyres_66 (lv_at hl 0 rfl) ?_
              exact tw_iret F hH hret hlk rfl (Nat.le_of_ble_eq_true rfl) (Nat.le_of_ble_eq_true rfl) dX11_tyres_68 (Or.inr (Or.inr (Or.inr (Or.inr (Or.inl (⟨rfl, (Or.inr (Or.inl (by omega)))⟩))))))
            · skip
              obtain rfl : (2 : Int32) = x1 := (Int32.toInt_inj.mp ((e1.trans hz162).trans (by decide : (2 : Int) = (2 : Int32).toInt))).symm
              refine lv_imul hx hb dX11_tyres_53 ?_
              refine tw_cv (v := (12 : Int32)) (by decide) ?_
              refine lv_iload_n hx hb dX11_tyres_54 rfl (lv_at hl 3 rfl) ?_
              refine lv_iadd hx hb dX11_tyres_55 ?_
              refine tw_cv (v := (15 : Int32)) (by decide) ?_
              refine lv_iload_n hx hb dX11_tyres_56 rfl (lv_at hl 4 rfl) ?_
              refine tw_iast (r := 8) (j := 15) F hH rfl (by decide) hw_8 (by decide) (by decide) dX11_tyres_57 (fun H locs w179 hw180 hne181 hH => ?_)
              refine lv_aload_n hx hb dX11_tyres_58 rfl (lv_at hl 1 rfl) ?_
              have hw182 : w179 0 = .inr (11, [.ref (ad 4), .ref (ad 14), .ref (ad 156), .ref (ad 221), .ref (ad 225), .ref (ad 233), .ref (ad 236), .int (0 : Int32), .ref (ad 237), .int (0 : Int32), .ref (ad 238)]) := (hne181 0 (by decide)).trans (hw_0)
              refine tw_get (r := 0) F hH kf_RX11_24 rfl (by decide) hw182 rfl dX11_tyres_59 ?_
              refine lv_iconst (v := 0) hx hb dX11_tyres_62 (by decide) ?_
              have hw183 : w179 14 = .inr (2, [.ref (ad 4), .ref (ad 1), .ref (ad 15), .ref (ad 16), .ref (ad 17), .int (0 : Int32), .int (0 : Int32), .int (0 : Int32)]) := (hne181 14 (by decide)).trans (hw_14)
              refine tw_put (r := 14) F hH kf_RX11_84 kp_X2_7 rfl (by decide) hw183 (Nat.le_of_ble_eq_true rfl) rfl rfl dX11_tyres_63 (fun H locs w184 hw185 hne186 hH => ?_)
              have hw185 : w184 14 = .inr (2, [.ref (ad 4), .ref (ad 1), .ref (ad 15), .ref (ad 16), .ref (ad 17), .int (0 : Int32), .int (0 : Int32), .int (0 : Int32)]) := hw185
              refine lv_iload hx hb dX11_tyres_66 (lv_at hl 0 rfl) ?_
              exact tw_iret F hH hret hlk rfl (Nat.le_of_ble_eq_true rfl) (Nat.le_of_ble_eq_true rfl) dX11_tyres_68 (Or.inr (Or.inr (Or.inr (Or.inr (Or.inl (⟨rfl, (Or.inr (Or.inr (Or.inl (by omega))))⟩))))))
            · skip
              obtain rfl : (3 : Int32) = x1 := (Int32.toInt_inj.mp ((e1.trans hz162).trans (by decide : (3 : Int) = (3 : Int32).toInt))).symm
              refine lv_imul hx hb dX11_tyres_53 ?_
              refine tw_cv (v := (18 : Int32)) (by decide) ?_
              refine lv_iload_n hx hb dX11_tyres_54 rfl (lv_at hl 3 rfl) ?_
              refine lv_iadd hx hb dX11_tyres_55 ?_
              refine tw_cv (v := (21 : Int32)) (by decide) ?_
              refine lv_iload_n hx hb dX11_tyres_56 rfl (lv_at hl 4 rfl) ?_
              refine tw_iast (r := 8) (j := 21) F hH rfl (by decide) hw_8 (by decide) (by decide) dX11_tyres_57 (fun H locs w187 hw188 hne189 hH => ?_)
              refine lv_aload_n hx hb dX11_tyres_58 rfl (lv_at hl 1 rfl) ?_
              have hw190 : w187 0 = .inr (11, [.ref (ad 4), .ref (ad 14), .ref (ad 156), .ref (ad 221), .ref (ad 225), .ref (ad 233), .ref (ad 236), .int (0 : Int32), .ref (ad 237), .int (0 : Int32), .ref (ad 238)]) := (hne189 0 (by decide)).trans (hw_0)
              refine tw_get (r := 0) F hH kf_RX11_24 rfl (by decide) hw190 rfl dX11_tyres_59 ?_
              refine lv_iconst (v := 0) hx hb dX11_tyres_62 (by decide) ?_
              have hw191 : w187 14 = .inr (2, [.ref (ad 4), .ref (ad 1), .ref (ad 15), .ref (ad 16), .ref (ad 17), .int (0 : Int32), .int (0 : Int32), .int (0 : Int32)]) := (hne189 14 (by decide)).trans (hw_14)
              refine tw_put (r := 14) F hH kf_RX11_84 kp_X2_7 rfl (by decide) hw191 (Nat.le_of_ble_eq_true rfl) rfl rfl dX11_tyres_63 (fun H locs w192 hw193 hne194 hH => ?_)
              have hw193 : w192 14 = .inr (2, [.ref (ad 4), .ref (ad 1), .ref (ad 15), .ref (ad 16), .ref (ad 17), .int (0 : Int32), .int (0 : Int32), .int (0 : Int32)]) := hw193
              refine lv_iload hx hb dX11_tyres_66 (lv_at hl 0 rfl) ?_
              exact tw_iret F hH hret hlk rfl (Nat.le_of_ble_eq_true rfl) (Nat.le_of_ble_eq_true rfl) dX11_tyres_68 (Or.inr (Or.inr (Or.inr (Or.inr (Or.inl (⟨rfl, (Or.inr (Or.inr (Or.inr (by omega))))⟩))))))
      · skip
        obtain rfl : (4 : Int32) = x2 := (Int32.toInt_inj.mp ((e2.trans hz15).trans (by decide : (4 : Int) = (4 : Int32).toInt))).symm
        refine tw_tald (k := 4) (j := 4) (v := (100 : Int32)) F hH (by decide) (by decide) (by decide) (by decide) dX11_tyres_23 ?_
        refine tw_calli F hH (tw_runS (As := [.int x3, .int (0 : Int32), .int (100 : Int32)]) (rest := []) F hH (c_X11_isWithin l G 244 ad w H.size x3 (z3) e3 (0 : Int32) 0 (by decide : (0 : Int32).toInt = 0) (100 : Int32) 100 (by decide : (100 : Int32).toInt = 100)) (tw_gl kw_565 rfl) km_X11_isWithin (tw_gl kw_566 rfl) rfl rfl ⟨(Nat.le_of_ble_eq_true rfl), (Nat.le_of_ble_eq_true rfl)⟩ rfl hl.1 rfl (Nat.le_of_ble_eq_true rfl) dX11_tyres_24 ⟨(Nat.le_of_ble_eq_true rfl), (Nat.le_of_ble_eq_true rfl)⟩) (fun r197 w195 H locs hp196 _ hH => ?_)
        rcases hp196 with ⟨rfl, hc198, rfl⟩ | ⟨rfl, hc199, rfl⟩
        · skip
          refine lv_if_ne (tgt := 32) hx hb dX11_tyres_27 (by decide) (fun c => absurd c (by decide)) (fun _ => ?_)
          refine lv_iconst (v := -1) hx hb dX11_tyres_30 (by decide) ?_
          exact tw_iret F hH hret hlk rfl (Nat.le_of_ble_eq_true rfl) (Nat.le_of_ble_eq_true rfl) dX11_tyres_31 (Or.inl (⟨rfl, (Or.inr (Or.inr (Or.inr (Or.inr (Or.inr (Or.inr (Or.inl (by omega))))))))⟩))
        · skip
          refine lv_if_ne (tgt := 32) hx hb dX11_tyres_27 (by decide) (fun _ => ?_) (fun c => absurd c (by decide))
          refine lv_aload_n hx hb dX11_tyres_32 rfl (lv_at hl 0 rfl) ?_
          refine tw_get (r := 0) F hH kf_RX11_15 rfl (by decide) hw_0 rfl dX11_tyres_33 ?_
          refine lv_iload_n hx hb dX11_tyres_36 rfl (lv_at hl 1 rfl) ?_
          refine lv_iload_n hx hb dX11_tyres_37 rfl (lv_at hl 2 rfl) ?_
          refine tw_calli F hH (tw_runV (r := 4) (As := [.int x1, .int (4 : Int32)]) (rest := []) F hH (c_X9_tyreNumber_v5 l G ad w H.size x1 (z1) e1 hw_4 hw_8) (tw_gl kw_575 rfl) km_X9_tyreNumber kv_X9_tyreNumber rfl rfl ⟨(Nat.le_of_ble_eq_true rfl), (Nat.le_of_ble_eq_true rfl)⟩ (by decide) hw_4 rfl rfl hl.1 rfl (Nat.le_of_ble_eq_true rfl) dX11_tyres_38 ⟨(Nat.le_of_ble_eq_true rfl), (Nat.le_of_ble_eq_true rfl)⟩) (fun r204 w202 H locs hp203 _ hH => ?_)
          obtain ⟨rfl, hc205, rfl⟩ := hp203
          refine lv_istore (lv' := [(4, .int (0 : Int32)), (0, .ref (ad 0)), (1, .int x1), (2, .int (4 : Int32)), (3, .int x3)]) hx hb dX11_tyres_41 hl (by decide) rfl (fun ls hl => ?_)
          refine lv_aload_n hx hb dX11_tyres_43 rfl (lv_at hl 1 rfl) ?_
          refine tw_get (r := 0) F hH kf_RX11_15 rfl (by decide) hw_0 rfl dX11_tyres_44 ?_
          refine tw_get (r := 4) F hH kf_RX11_126 rfl (by decide) hw_4 rfl dX11_tyres_47 ?_
          refine lv_iload_n hx hb dX11_tyres_50 rfl (lv_at hl 2 rfl) ?_
          refine lv_bipush (v := 6) hx hb dX11_tyres_51 (by decide) ?_
          rcases (by omega : z1 = 0 ∨ z1 = 1 ∨ z1 = 2 ∨ z1 = 3) with hz206 | hz206 | hz206 | hz206
          · skip
            obtain rfl : (0 : Int32) = x1 := (Int32.toInt_inj.mp ((e1.trans hz206).trans (by decide : (0 : Int) = (0 : Int32).toInt))).symm
            refine lv_imul hx hb dX11_tyres_53 ?_
            refine tw_cv (v := (0 : Int32)) (by decide) ?_
            refine lv_iload_n hx hb dX11_tyres_54 rfl (lv_at hl 3 rfl) ?_
            refine lv_iadd hx hb dX11_tyres_55 ?_
            refine tw_cv (v := (4 : Int32)) (by decide) ?_
            refine lv_iload_n hx hb dX11_tyres_56 rfl (lv_at hl 4 rfl) ?_
            refine tw_iast (r := 8) (j := 4) F hH rfl (by decide) hw_8 (by decide) (by decide) dX11_tyres_57 (fun H locs w207 hw208 hne209 hH => ?_)
            refine lv_aload_n hx hb dX11_tyres_58 rfl (lv_at hl 1 rfl) ?_
            have hw210 : w207 0 = .inr (11, [.ref (ad 4), .ref (ad 14), .ref (ad 156), .ref (ad 221), .ref (ad 225), .ref (ad 233), .ref (ad 236), .int (0 : Int32), .ref (ad 237), .int (0 : Int32), .ref (ad 238)]) := (hne209 0 (by decide)).trans (hw_0)
            refine tw_get (r := 0) F hH kf_RX11_24 rfl (by decide) hw210 rfl dX11_tyres_59 ?_
            refine lv_iconst (v := 0) hx hb dX11_tyres_62 (by decide) ?_
            have hw211 : w207 14 = .inr (2, [.ref (ad 4), .ref (ad 1), .ref (ad 15), .ref (ad 16), .ref (ad 17), .int (0 : Int32), .int (0 : Int32), .int (0 : Int32)]) := (hne209 14 (by decide)).trans (hw_14)
            refine tw_put (r := 14) F hH kf_RX11_84 kp_X2_7 rfl (by decide) hw211 (Nat.le_of_ble_eq_true rfl) rfl rfl dX11_tyres_63 (fun H locs w212 hw213 hne214 hH => ?_)
            have hw213 : w212 14 = .inr (2, [.ref (ad 4), .ref (ad 1), .ref (ad 15), .ref (ad 16), .ref (ad 17), .int (0 : Int32), .int (0 : Int32), .int (0 : Int32)]) := hw213
            refine lv_iload hx hb dX11_tyres_66 (lv_at hl 0 rfl) ?_
            exact tw_iret F hH hret hlk rfl (Nat.le_of_ble_eq_true rfl) (Nat.le_of_ble_eq_true rfl) dX11_tyres_68 (Or.inr (Or.inl (⟨rfl, (Or.inr (Or.inr (Or.inr (Or.inr (Or.inl (by omega))))))⟩)))
          · skip
            obtain rfl : (1 : Int32) = x1 := (Int32.toInt_inj.mp ((e1.trans hz206).trans (by decide : (1 : Int) = (1 : Int32).toInt))).symm
            refine lv_imul hx hb dX11_tyres_53 ?_
            refine tw_cv (v := (6 : Int32)) (by decide) ?_
            refine lv_iload_n hx hb dX11_tyres_54 rfl (lv_at hl 3 rfl) ?_
            refine lv_iadd hx hb dX11_tyres_55 ?_
            refine tw_cv (v := (10 : Int32)) (by decide) ?_
            refine lv_iload_n hx hb dX11_tyres_56 rfl (lv_at hl 4 rfl) ?_
            refine tw_iast (r := 8) (j := 10) F hH rfl (by decide) hw_8 (by decide) (by decide) dX11_tyres_57 (fun H locs w215 hw216 hne217 hH => ?_)
            refine lv_aload_n hx hb dX11_tyres_58 rfl (lv_at hl 1 rfl) ?_
            have hw218 : w215 0 = .inr (11, [.ref (ad 4), .ref (ad 14), .ref (ad 156), .ref (ad 221), .ref (ad 225), .ref (ad 233), .ref (ad 236), .int (0 : Int32), .ref (ad 237), .int (0 : Int32), .ref (ad 238)]) := (hne217 0 (by decide)).trans (hw_0)
            refine tw_get (r := 0) F hH kf_RX11_24 rfl (by decide) hw218 rfl dX11_tyres_59 ?_
            refine lv_iconst (v := 0) hx hb dX11_tyres_62 (by decide) ?_
            have hw219 : w215 14 = .inr (2, [.ref (ad 4), .ref (ad 1), .ref (ad 15), .ref (ad 16), .ref (ad 17), .int (0 : Int32), .int (0 : Int32), .int (0 : Int32)]) := (hne217 14 (by decide)).trans (hw_14)
            refine tw_put (r := 14) F hH kf_RX11_84 kp_X2_7 rfl (by decide) hw219 (Nat.le_of_ble_eq_true rfl) rfl rfl dX11_tyres_63 (fun H locs w220 hw221 hne222 hH => ?_)
            have hw221 : w220 14 = .inr (2, [.ref (ad 4), .ref (ad 1), .ref (ad 15), .ref (ad 16), .ref (ad 17), .int (0 : Int32), .int (0 : Int32), .int (0 : Int32)]) := hw221
            refine lv_iload hx hb dX11_tyres_66 (lv_at hl 0 rfl) ?_
            exact tw_iret F hH hret hlk rfl (Nat.le_of_ble_eq_true rfl) (Nat.le_of_ble_eq_true rfl) dX11_tyres_68 (Or.inr (Or.inl (⟨rfl, (Or.inr (Or.inr (Or.inr (Or.inr (Or.inr (Or.inl (by omega)))))))⟩)))
          · skip
            obtain rfl : (2 : Int32) = x1 := (Int32.toInt_inj.mp ((e1.trans hz206).trans (by decide : (2 : Int) = (2 : Int32).toInt))).symm
            refine lv_imul hx hb dX11_tyres_53 ?_
            refine tw_cv (v := (12 : Int32)) (by decide) ?_
            refine lv_iload_n hx hb dX11_tyres_54 rfl (lv_at hl 3 rfl) ?_
            refine lv_iadd hx hb dX11_tyres_55 ?_
            refine tw_cv (v := (16 : Int32)) (by decide) ?_
            refine lv_iload_n hx hb dX11_tyres_56 rfl (lv_at hl 4 rfl) ?_
            refine tw_iast (r := 8) (j := 16) F hH rfl (by decide) hw_8 (by decide) (by decide) dX11_tyres_57 (fun H locs w223 hw224 hne225 hH => ?_)
            refine lv_aload_n hx hb dX11_tyres_58 rfl (lv_at hl 1 rfl) ?_
            have hw226 : w223 0 = .inr (11, [.ref (ad 4), .ref (ad 14), .ref (ad 156), .ref (ad 221), .ref (ad 225), .ref (ad 233), .ref (ad 236), .int (0 : Int32), .ref (ad 237), .int (0 : Int32), .ref (ad 238)]) := (hne225 0 (by decide)).trans (hw_0)
            refine tw_get (r := 0) F hH kf_RX11_24 rfl (by decide) hw226 rfl dX11_tyres_59 ?_
            refine lv_iconst (v := 0) hx hb dX11_tyres_62 (by decide) ?_
            have hw227 : w223 14 = .inr (2, [.ref (ad 4), .ref (ad 1), .ref (ad 15), .ref (ad 16), .ref (ad 17), .int (0 : Int32), .int (0 : Int32), .int (0 : Int32)]) := (hne225 14 (by decide)).trans (hw_14)
            refine tw_put (r := 14) F hH kf_RX11_84 kp_X2_7 rfl (by decide) hw227 (Nat.le_of_ble_eq_true rfl) rfl rfl dX11_tyres_63 (fun H locs w228 hw229 hne230 hH => ?_)
            have hw229 : w228 14 = .inr (2, [.ref (ad 4), .ref (ad 1), .ref (ad 15), .ref (ad 16), .ref (ad 17), .int (0 : Int32), .int (0 : Int32), .int (0 : Int32)]) := hw229
            refine lv_iload hx hb dX11_tyres_66 (lv_at hl 0 rfl) ?_
            exact tw_iret F hH hret hlk rfl (Nat.le_of_ble_eq_true rfl) (Nat.le_of_ble_eq_true rfl) dX11_tyres_68 (Or.inr (Or.inl (⟨rfl, (Or.inr (Or.inr (Or.inr (Or.inr (Or.inr (Or.inr (Or.inl (by omega))))))))⟩)))
          · skip
            obtain rfl : (3 : Int32) = x1 := (Int32.toInt_inj.mp ((e1.trans hz206).trans (by decide : (3 : Int) = (3 : Int32).toInt))).symm
            refine lv_imul hx hb dX11_tyres_53 ?_
            refine tw_cv (v := (18 : Int32)) (by decide) ?_
            refine lv_iload_n hx hb dX11_tyres_54 rfl (lv_at hl 3 rfl) ?_
            refine lv_iadd hx hb dX11_tyres_55 ?_
            refine tw_cv (v := (22 : Int32)) (by decide) ?_
            refine lv_iload_n hx hb dX11_tyres_56 rfl (lv_at hl 4 rfl) ?_
            refine tw_iast (r := 8) (j := 22) F hH rfl (by decide) hw_8 (by decide) (by decide) dX11_tyres_57 (fun H locs w231 hw232 hne233 hH => ?_)
            refine lv_aload_n hx hb dX11_tyres_58 rfl (lv_at hl 1 rfl) ?_
            have hw234 : w231 0 = .inr (11, [.ref (ad 4), .ref (ad 14), .ref (ad 156), .ref (ad 221), .ref (ad 225), .ref (ad 233), .ref (ad 236), .int (0 : Int32), .ref (ad 237), .int (0 : Int32), .ref (ad 238)]) := (hne233 0 (by decide)).trans (hw_0)
            refine tw_get (r := 0) F hH kf_RX11_24 rfl (by decide) hw234 rfl dX11_tyres_59 ?_
            refine lv_iconst (v := 0) hx hb dX11_tyres_62 (by decide) ?_
            have hw235 : w231 14 = .inr (2, [.ref (ad 4), .ref (ad 1), .ref (ad 15), .ref (ad 16), .ref (ad 17), .int (0 : Int32), .int (0 : Int32), .int (0 : Int32)]) := (hne233 14 (by decide)).trans (hw_14)
            refine tw_put (r := 14) F hH kf_RX11_84 kp_X2_7 rfl (by decide) hw235 (Nat.le_of_ble_eq_true rfl) rfl rfl dX11_tyres_63 (fun H locs w236 hw237 hne238 hH => ?_)
            have hw237 : w236 14 = .inr (2, [.ref (ad 4), .ref (ad 1), .ref (ad 15), .ref (ad 16), .ref (ad 17), .int (0 : Int32), .int (0 : Int32), .int (0 : Int32)]) := hw237
            refine lv_iload hx hb dX11_tyres_66 (lv_at hl 0 rfl) ?_
            exact tw_iret F hH hret hlk rfl (Nat.le_of_ble_eq_true rfl) (Nat.le_of_ble_eq_true rfl) dX11_tyres_68 (Or.inr (Or.inl (⟨rfl, (Or.inr (Or.inr (Or.inr (Or.inr (Or.inr (Or.inr (Or.inr (by omega))))))))⟩)))
      · skip
        obtain rfl : (5 : Int32) = x2 := (Int32.toInt_inj.mp ((e2.trans hz15).trans (by decide : (5 : Int) = (5 : Int32).toInt))).symm
        refine tw_tald (k := 4) (j := 5) (v := (100 : Int32)) F hH (by decide) (by decide) (by decide) (by decide) dX11_tyres_23 ?_
        refine tw_calli F hH (tw_runS (As := [.int x3, .int (0 : Int32), .int (100 : Int32)]) (rest := []) F hH (c_X11_isWithin l G 244 ad w H.size x3 (z3) e3 (0 : Int32) 0 (by decide : (0 : Int32).toInt = 0) (100 : Int32) 100 (by decide : (100 : Int32).toInt = 100)) (tw_gl kw_565 rfl) km_X11_isWithin (tw_gl kw_566 rfl) rfl rfl ⟨(Nat.le_of_ble_eq_true rfl), (Nat.le_of_ble_eq_true rfl)⟩ rfl hl.1 rfl (Nat.le_of_ble_eq_true rfl) dX11_tyres_24 ⟨(Nat.le_of_ble_eq_true rfl), (Nat.le_of_ble_eq_true rfl)⟩) (fun r241 w239 H locs hp240 _ hH => ?_)
        rcases hp240 with ⟨rfl, hc242, rfl⟩ | ⟨rfl, hc243, rfl⟩
        · skip
          refine lv_if_ne (tgt := 32) hx hb dX11_tyres_27 (by decide) (fun c => absurd c (by decide)) (fun _ => ?_)
          refine lv_iconst (v := -1) hx hb dX11_tyres_30 (by decide) ?_
          exact tw_iret F hH hret hlk rfl (Nat.le_of_ble_eq_true rfl) (Nat.le_of_ble_eq_true rfl) dX11_tyres_31 (Or.inl (⟨rfl, (Or.inr (Or.inr (Or.inr (Or.inr (Or.inr (Or.inr (Or.inr (by omega))))))))⟩))
        · skip
          refine lv_if_ne (tgt := 32) hx hb dX11_tyres_27 (by decide) (fun _ => ?_) (fun c => absurd c (by decide))
          refine lv_aload_n hx hb dX11_tyres_32 rfl (lv_at hl 0 rfl) ?_
          refine tw_get (r := 0) F hH kf_RX11_15 rfl (by decide) hw_0 rfl dX11_tyres_33 ?_
          refine lv_iload_n hx hb dX11_tyres_36 rfl (lv_at hl 1 rfl) ?_
          refine lv_iload_n hx hb dX11_tyres_37 rfl (lv_at hl 2 rfl) ?_
          refine tw_calli F hH (tw_runV (r := 4) (As := [.int x1, .int (5 : Int32)]) (rest := []) F hH (c_X9_tyreNumber_v6 l G ad w H.size x1 (z1) e1 hw_4 hw_8) (tw_gl kw_575 rfl) km_X9_tyreNumber kv_X9_tyreNumber rfl rfl ⟨(Nat.le_of_ble_eq_true rfl), (Nat.le_of_ble_eq_true rfl)⟩ (by decide) hw_4 rfl rfl hl.1 rfl (Nat.le_of_ble_eq_true rfl) dX11_tyres_38 ⟨(Nat.le_of_ble_eq_true rfl), (Nat.le_of_ble_eq_true rfl)⟩) (fun r248 w246 H locs hp247 _ hH => ?_)
          rcases hp247 with ⟨rfl, hc249, rfl⟩ | ⟨rfl, hc250, rfl⟩
          · exfalso; omega
          · skip
            refine lv_istore (lv' := [(4, .int (5 : Int32)), (0, .ref (ad 0)), (1, .int x1), (2, .int (5 : Int32)), (3, .int x3)]) hx hb dX11_tyres_41 hl (by decide) rfl (fun ls hl => ?_)
            refine lv_aload_n hx hb dX11_tyres_43 rfl (lv_at hl 1 rfl) ?_
            refine tw_get (r := 0) F hH kf_RX11_15 rfl (by decide) hw_0 rfl dX11_tyres_44 ?_
            refine tw_get (r := 4) F hH kf_RX11_126 rfl (by decide) hw_4 rfl dX11_tyres_47 ?_
            refine lv_iload_n hx hb dX11_tyres_50 rfl (lv_at hl 2 rfl) ?_
            refine lv_bipush (v := 6) hx hb dX11_tyres_51 (by decide) ?_
            rcases (by omega : z1 = 0 ∨ z1 = 1 ∨ z1 = 2 ∨ z1 = 3) with hz251 | hz251 | hz251 | hz251
            · skip
              obtain rfl : (0 : Int32) = x1 := (Int32.toInt_inj.mp ((e1.trans hz251).trans (by decide : (0 : Int) = (0 : Int32).toInt))).symm
              refine lv_imul hx hb dX11_tyres_53 ?_
              refine tw_cv (v := (0 : Int32)) (by decide) ?_
              refine lv_iload_n hx hb dX11_tyres_54 rfl (lv_at hl 3 rfl) ?_
              refine lv_iadd hx hb dX11_tyres_55 ?_
              refine tw_cv (v := (5 : Int32)) (by decide) ?_
              refine lv_iload_n hx hb dX11_tyres_56 rfl (lv_at hl 4 rfl) ?_
              refine tw_iast (r := 8) (j := 5) F hH rfl (by decide) hw_8 (by decide) (by decide) dX11_tyres_57 (fun H locs w252 hw253 hne254 hH => ?_)
              refine lv_aload_n hx hb dX11_tyres_58 rfl (lv_at hl 1 rfl) ?_
              have hw255 : w252 0 = .inr (11, [.ref (ad 4), .ref (ad 14), .ref (ad 156), .ref (ad 221), .ref (ad 225), .ref (ad 233), .ref (ad 236), .int (0 : Int32), .ref (ad 237), .int (0 : Int32), .ref (ad 238)]) := (hne254 0 (by decide)).trans (hw_0)
              refine tw_get (r := 0) F hH kf_RX11_24 rfl (by decide) hw255 rfl dX11_tyres_59 ?_
              refine lv_iconst (v := 0) hx hb dX11_tyres_62 (by decide) ?_
              have hw256 : w252 14 = .inr (2, [.ref (ad 4), .ref (ad 1), .ref (ad 15), .ref (ad 16), .ref (ad 17), .int (0 : Int32), .int (0 : Int32), .int (0 : Int32)]) := (hne254 14 (by decide)).trans (hw_14)
              refine tw_put (r := 14) F hH kf_RX11_84 kp_X2_7 rfl (by decide) hw256 (Nat.le_of_ble_eq_true rfl) rfl rfl dX11_tyres_63 (fun H locs w257 hw258 hne259 hH => ?_)
              have hw258 : w257 14 = .inr (2, [.ref (ad 4), .ref (ad 1), .ref (ad 15), .ref (ad 16), .ref (ad 17), .int (0 : Int32), .int (0 : Int32), .int (0 : Int32)]) := hw258
              refine lv_iload hx hb dX11_tyres_66 (lv_at hl 0 rfl) ?_
              exact tw_iret F hH hret hlk rfl (Nat.le_of_ble_eq_true rfl) (Nat.le_of_ble_eq_true rfl) dX11_tyres_68 (Or.inr (Or.inr (Or.inr (Or.inr (Or.inr (⟨rfl, (Or.inl (by omega))⟩))))))
            · skip
              obtain rfl : (1 : Int32) = x1 := (Int32.toInt_inj.mp ((e1.trans hz251).trans (by decide : (1 : Int) = (1 : Int32).toInt))).symm
              refine lv_imul hx hb dX11_tyres_53 ?_
              refine tw_cv (v := (6 : Int32)) (by decide) ?_
              refine lv_iload_n hx hb dX11_tyres_54 rfl (lv_at hl 3 rfl) ?_
              refine lv_iadd hx hb dX11_tyres_55 ?_
              refine tw_cv (v := (11 : Int32)) (by decide) ?_
              refine lv_iload_n hx hb dX11_tyres_56 rfl (lv_at hl 4 rfl) ?_
              refine tw_iast (r := 8) (j := 11) F hH rfl (by decide) hw_8 (by decide) (by decide) dX11_tyres_57 (fun H locs w260 hw261 hne262 hH => ?_)
              refine lv_aload_n hx hb dX11_tyres_58 rfl (lv_at hl 1 rfl) ?_
              have hw263 : w260 0 = .inr (11, [.ref (ad 4), .ref (ad 14), .ref (ad 156), .ref (ad 221), .ref (ad 225), .ref (ad 233), .ref (ad 236), .int (0 : Int32), .ref (ad 237), .int (0 : Int32), .ref (ad 238)]) := (hne262 0 (by decide)).trans (hw_0)
              refine tw_get (r := 0) F hH kf_RX11_24 rfl (by decide) hw263 rfl dX11_tyres_59 ?_
              refine lv_iconst (v := 0) hx hb dX11_tyres_62 (by decide) ?_
              have hw264 : w260 14 = .inr (2, [.ref (ad 4), .ref (ad 1), .ref (ad 15), .ref (ad 16), .ref (ad 17), .int (0 : Int32), .int (0 : Int32), .int (0 : Int32)]) := (hne262 14 (by decide)).trans (hw_14)
              refine tw_put (r := 14) F hH kf_RX11_84 kp_X2_7 rfl (by decide) hw264 (Nat.le_of_ble_eq_true rfl) rfl rfl dX11_tyres_63 (fun H locs w265 hw266 hne267 hH => ?_)
              have hw266 : w265 14 = .inr (2, [.ref (ad 4), .ref (ad 1), .ref (ad 15), .ref (ad 16), .ref (ad 17), .int (0 : Int32), .int (0 : Int32), .int (0 : Int32)]) := hw266
              refine lv_iload hx hb dX11_tyres_66 (lv_at hl 0 rfl) ?_
              exact tw_iret F hH hret hlk rfl (Nat.le_of_ble_eq_true rfl) (Nat.le_of_ble_eq_true rfl) dX11_tyres_68 (Or.inr (Or.inr (Or.inr (Or.inr (Or.inr (⟨rfl, (Or.inr (Or.inl (by omega)))⟩))))))
            · skip
              obtain rfl : (2 : Int32) = x1 := (Int32.toInt_inj.mp ((e1.trans hz251).trans (by decide : (2 : Int) = (2 : Int32).toInt))).symm
              refine lv_imul hx hb dX11_tyres_53 ?_
              refine tw_cv (v := (12 : Int32)) (by decide) ?_
              refine lv_iload_n hx hb dX11_tyres_54 rfl (lv_at hl 3 rfl) ?_
              refine lv_iadd hx hb dX11_tyres_55 ?_
              refine tw_cv (v := (17 : Int32)) (by decide) ?_
              refine lv_iload_n hx hb dX11_tyres_56 rfl (lv_at hl 4 rfl) ?_
              refine tw_iast (r := 8) (j := 17) F hH rfl (by decide) hw_8 (by decide) (by decide) dX11_tyres_57 (fun H locs w268 hw269 hne270 hH => ?_)
              refine lv_aload_n hx hb dX11_tyres_58 rfl (lv_at hl 1 rfl) ?_
              have hw271 : w268 0 = .inr (11, [.ref (ad 4), .ref (ad 14), .ref (ad 156), .ref (ad 221), .ref (ad 225), .ref (ad 233), .ref (ad 236), .int (0 : Int32), .ref (ad 237), .int (0 : Int32), .ref (ad 238)]) := (hne270 0 (by decide)).trans (hw_0)
              refine tw_get (r := 0) F hH kf_RX11_24 rfl (by decide) hw271 rfl dX11_tyres_59 ?_
              refine lv_iconst (v := 0) hx hb dX11_tyres_62 (by decide) ?_
              have hw272 : w268 14 = .inr (2, [.ref (ad 4), .ref (ad 1), .ref (ad 15), .ref (ad 16), .ref (ad 17), .int (0 : Int32), .int (0 : Int32), .int (0 : Int32)]) := (hne270 14 (by decide)).trans (hw_14)
              refine tw_put (r := 14) F hH kf_RX11_84 kp_X2_7 rfl (by decide) hw272 (Nat.le_of_ble_eq_true rfl) rfl rfl dX11_tyres_63 (fun H locs w273 hw274 hne275 hH => ?_)
              have hw274 : w273 14 = .inr (2, [.ref (ad 4), .ref (ad 1), .ref (ad 15), .ref (ad 16), .ref (ad 17), .int (0 : Int32), .int (0 : Int32), .int (0 : Int32)]) := hw274
              refine lv_iload hx hb dX11_tyres_66 (lv_at hl 0 rfl) ?_
              exact tw_iret F hH hret hlk rfl (Nat.le_of_ble_eq_true rfl) (Nat.le_of_ble_eq_true rfl) dX11_tyres_68 (Or.inr (Or.inr (Or.inr (Or.inr (Or.inr (⟨rfl, (Or.inr (Or.inr (Or.inl (by omega))))⟩))))))
            · skip
              obtain rfl : (3 : Int32) = x1 := (Int32.toInt_inj.mp ((e1.trans hz251).trans (by decide : (3 : Int) = (3 : Int32).toInt))).symm
              refine lv_imul hx hb dX11_tyres_53 ?_
              refine tw_cv (v := (18 : Int32)) (by decide) ?_
              refine lv_iload_n hx hb dX11_tyres_54 rfl (lv_at hl 3 rfl) ?_
              refine lv_iadd hx hb dX11_tyres_55 ?_
              refine tw_cv (v := (23 : Int32)) (by decide) ?_
              refine lv_iload_n hx hb dX11_tyres_56 rfl (lv_at hl 4 rfl) ?_
              refine tw_iast (r := 8) (j := 23) F hH rfl (by decide) hw_8 (by decide) (by decide) dX11_tyres_57 (fun H locs w276 hw277 hne278 hH => ?_)
              refine lv_aload_n hx hb dX11_tyres_58 rfl (lv_at hl 1 rfl) ?_
              have hw279 : w276 0 = .inr (11, [.ref (ad 4), .ref (ad 14), .ref (ad 156), .ref (ad 221), .ref (ad 225), .ref (ad 233), .ref (ad 236), .int (0 : Int32), .ref (ad 237), .int (0 : Int32), .ref (ad 238)]) := (hne278 0 (by decide)).trans (hw_0)
              refine tw_get (r := 0) F hH kf_RX11_24 rfl (by decide) hw279 rfl dX11_tyres_59 ?_
              refine lv_iconst (v := 0) hx hb dX11_tyres_62 (by decide) ?_
              have hw280 : w276 14 = .inr (2, [.ref (ad 4), .ref (ad 1), .ref (ad 15), .ref (ad 16), .ref (ad 17), .int (0 : Int32), .int (0 : Int32), .int (0 : Int32)]) := (hne278 14 (by decide)).trans (hw_14)
              refine tw_put (r := 14) F hH kf_RX11_84 kp_X2_7 rfl (by decide) hw280 (Nat.le_of_ble_eq_true rfl) rfl rfl dX11_tyres_63 (fun H locs w281 hw282 hne283 hH => ?_)
              have hw282 : w281 14 = .inr (2, [.ref (ad 4), .ref (ad 1), .ref (ad 15), .ref (ad 16), .ref (ad 17), .int (0 : Int32), .int (0 : Int32), .int (0 : Int32)]) := hw282
              refine lv_iload hx hb dX11_tyres_66 (lv_at hl 0 rfl) ?_
              exact tw_iret F hH hret hlk rfl (Nat.le_of_ble_eq_true rfl) (Nat.le_of_ble_eq_true rfl) dX11_tyres_68 (Or.inr (Or.inr (Or.inr (Or.inr (Or.inr (⟨rfl, (Or.inr (Or.inr (Or.inr (by omega))))⟩))))))
set_option maxHeartbeats 4000000 in
set_option maxRecDepth 100000 in
theorem c_X11_set (l : Launch) (G : tw_G) (ad : Nat → Nat) (w : Nat → va_E) (sz : Nat) (x1 : Int32) (z1 : Int) (e1 : x1.toInt = z1) (x2 : Int32) (z2 : Int) (e2 : x2.toInt = z2) (hw_0 : w 0 = .inr (11, [.ref (ad 4), .ref (ad 14), .ref (ad 156), .ref (ad 221), .ref (ad 225), .ref (ad 233), .ref (ad 236), .int (0 : Int32), .ref (ad 237), .int (0 : Int32), .ref (ad 238)])) (hw_4 : w 4 = .inr (9, [.int (2 : Int32), .int (1 : Int32), .ref (ad 5), .ref (ad 6), .ref (ad 7), .ref (ad 8), .ref (ad 9), .ref (ad 10), .ref (ad 12)])) (hw_9 : w 9 = .inl (G.2.1 0, 8, .inl (upd (upd (upd (upd (upd (upd (upd (upd (fun _ => 0) 0 (500 : Int32)) 1 (5 : Int32)) 2 (200 : Int32)) 3 (15000 : Int32)) 4 (3000 : Int32)) 5 (50 : Int32)) 6 (300 : Int32)) 7 (0 : Int32)))) (hw_14 : w 14 = .inr (2, [.ref (ad 4), .ref (ad 1), .ref (ad 15), .ref (ad 16), .ref (ad 17), .int (0 : Int32), .int (0 : Int32), .int (0 : Int32)])) : Met l yX11_set (tw_ws yX11_set cX11_set 4 (some .int)) ({ frames := 1, cells := 0, slots := 0, locals := 22 }) (tw_Pre G 244 ad w sz [.ref (ad 0), .int x1, .int x2]) (tw_Qi G 244 ad (fun r w1 => ((-1 : Int32) = r ∧ (((((z1 < 0)) ∨ ((¬ (z1 < 0)) ∧ (8 ≤ z1)))) ∨ (((¬ (z1 < 0)) ∧ (¬ (8 ≤ z1))) ∧ (z1 = 0) ∧ (((z2 < 100)) ∨ ((¬ (z2 < 100)) ∧ (2000 < z2)))) ∨ (((¬ (z1 < 0)) ∧ (¬ (8 ≤ z1))) ∧ (z1 = 1) ∧ (((z2 < 0)) ∨ ((¬ (z2 < 0)) ∧ (50 < z2)))) ∨ (((¬ (z1 < 0)) ∧ (¬ (8 ≤ z1))) ∧ (z1 = 2) ∧ (((z2 < 0)) ∨ ((¬ (z2 < 0)) ∧ (500 < z2)))) ∨ (((¬ (z1 < 0)) ∧ (¬ (8 ≤ z1))) ∧ (z1 = 3) ∧ (((z2 < 0)) ∨ ((¬ (z2 < 0)) ∧ (60000 < z2)))) ∨ (((¬ (z1 < 0)) ∧ (¬ (8 ≤ z1))) ∧ (z1 = 4) ∧ (((z2 < 0)) ∨ ((¬ (z2 < 0)) ∧ (20000 < z2)))) ∨ (((¬ (z1 < 0)) ∧ (¬ (8 ≤ z1))) ∧ (z1 = 5) ∧ (((z2 < 0)) ∨ ((¬ (z2 < 0)) ∧ (200 < z2)))) ∨ (((¬ (z1 < 0)) ∧ (¬ (8 ≤ z1))) ∧ (z1 = 6) ∧ (((z2 < 0)) ∨ ((¬ (z2 < 0)) ∧ (2000 < z2)))) ∨ (((¬ (z1 < 0)) ∧ (¬ (8 ≤ z1))) ∧ (z1 = 7) ∧ (((z2 < 0)) ∨ ((¬ (z2 < 0)) ∧ (9 < z2)))))) ∨ ((500 : Int32) = r ∧ (((¬ (z1 < 0)) ∧ (¬ (8 ≤ z1))) ∧ (z1 = 0) ∧ ((¬ (z2 < 100)) ∧ (¬ (2000 < z2))))) ∨ ((5 : Int32) = r ∧ (((¬ (z1 < 0)) ∧ (¬ (8 ≤ z1))) ∧ (z1 = 1) ∧ ((¬ (z2 < 0)) ∧ (¬ (50 < z2))))) ∨ ((200 : Int32) = r ∧ (((¬ (z1 < 0)) ∧ (¬ (8 ≤ z1))) ∧ (z1 = 2) ∧ ((¬ (z2 < 0)) ∧ (¬ (500 < z2))))) ∨ ((15000 : Int32) = r ∧ (((¬ (z1 < 0)) ∧ (¬ (8 ≤ z1))) ∧ (z1 = 3) ∧ ((¬ (z2 < 0)) ∧ (¬ (60000 < z2))))) ∨ ((3000 : Int32) = r ∧ (((¬ (z1 < 0)) ∧ (¬ (8 ≤ z1))) ∧ (z1 = 4) ∧ ((¬ (z2 < 0)) ∧ (¬ (20000 < z2))))) ∨ ((50 : Int32) = r ∧ (((¬ (z1 < 0)) ∧ (¬ (8 ≤ z1))) ∧ (z1 = 5) ∧ ((¬ (z2 < 0)) ∧ (¬ (200 < z2))))) ∨ ((300 : Int32) = r ∧ (((¬ (z1 < 0)) ∧ (¬ (8 ≤ z1))) ∧ (z1 = 6) ∧ ((¬ (z2 < 0)) ∧ (¬ (2000 < z2))))) ∨ ((0 : Int32) = r ∧ (((¬ (z1 < 0)) ∧ (¬ (8 ≤ z1))) ∧ (z1 = 7) ∧ ((¬ (z2 < 0)) ∧ (¬ (9 < z2)))))) sz) 0 0 (tw_A 244 ad sz) := by
  refine tw_met (by decide) (Nat.le_of_ble_eq_true rfl) ?_
  intro p e s m args below meth c F hret hlk hin hargs hsz hH ls hl
  have hx := F.1.1
  have hb := F.1.2.1
  have hown := F.1.2.2.2.1
  have hts := F.1.2.2.2.2
  have hl : lv_has ls 4 [(0, .ref (ad 0)), (1, .int x1), (2, .int x2)] := hl
  generalize hH0 : s.heap = H at hH ⊢
  refine lv_iload_n hx hb dX11_set_0 rfl (lv_at hl 1 rfl) ?_
  refine lv_bipush (v := 8) hx hb dX11_set_1 (by decide) ?_
  refine tw_calli F hH (tw_runS (As := [.int x1, .int (8 : Int32)]) (rest := []) F hH (c_X11_isIndex l G 244 ad w H.size x1 (z1) e1 (8 : Int32) 8 (by decide : (8 : Int32).toInt = 8)) (tw_gl kw_572 rfl) km_X11_isIndex (tw_gl kw_562 rfl) rfl rfl ⟨(Nat.le_of_ble_eq_true rfl), (Nat.le_of_ble_eq_true rfl)⟩ rfl hl.1 rfl (Nat.le_of_ble_eq_true rfl) dX11_set_3 ⟨(Nat.le_of_ble_eq_true rfl), (Nat.le_of_ble_eq_true rfl)⟩) (fun r3 w1 H locs hp2 _ hH => ?_)
  rcases hp2 with ⟨rfl, hc4, rfl⟩ | ⟨rfl, hc5, rfl⟩
  · skip
    refine lv_if_eq (tgt := 26) hx hb dX11_set_6 (by decide) (fun _ => ?_) (fun c => absurd c (by decide))
    refine lv_iconst (v := -1) hx hb dX11_set_26 (by decide) ?_
    exact tw_iret F hH hret hlk rfl (Nat.le_of_ble_eq_true rfl) (Nat.le_of_ble_eq_true rfl) dX11_set_27 (Or.inl (⟨rfl, (Or.inl (by omega))⟩))
  · skip
    refine lv_if_eq (tgt := 26) hx hb dX11_set_6 (by decide) (fun c => absurd c (by decide)) (fun _ => ?_)
    refine lv_iload_n hx hb dX11_set_9 rfl (lv_at hl 2 rfl) ?_
    refine tw_gets (k := 1) F hH (by decide) (tw_gl kw_583 rfl) dX11_set_10 ?_
    refine lv_iload_n hx hb dX11_set_13 rfl (lv_at hl 1 rfl) ?_
    rcases (by omega : z1 = 0 ∨ z1 = 1 ∨ z1 = 2 ∨ z1 = 3 ∨ z1 = 4 ∨ z1 = 5 ∨ z1 = 6 ∨ z1 = 7) with hz8 | hz8 | hz8 | hz8 | hz8 | hz8 | hz8 | hz8
    · skip
      obtain rfl : (0 : Int32) = x1 := (Int32.toInt_inj.mp ((e1.trans hz8).trans (by decide : (0 : Int) = (0 : Int32).toInt))).symm
      refine tw_tald (k := 1) (j := 0) (v := (100 : Int32)) F hH (by decide) (by decide) (by decide) (by decide) dX11_set_14 ?_
      refine tw_gets (k := 2) F hH (by decide) (tw_gl kw_585 rfl) dX11_set_15 ?_
      refine lv_iload_n hx hb dX11_set_18 rfl (lv_at hl 1 rfl) ?_
      refine tw_tald (k := 2) (j := 0) (v := (2000 : Int32)) F hH (by decide) (by decide) (by decide) (by decide) dX11_set_19 ?_
      refine tw_calli F hH (tw_runS (As := [.int x2, .int (100 : Int32), .int (2000 : Int32)]) (rest := []) F hH (c_X11_isWithin l G 244 ad w H.size x2 (z2) e2 (100 : Int32) 100 (by decide : (100 : Int32).toInt = 100) (2000 : Int32) 2000 (by decide : (2000 : Int32).toInt = 2000)) (tw_gl kw_565 rfl) km_X11_isWithin (tw_gl kw_566 rfl) rfl rfl ⟨(Nat.le_of_ble_eq_true rfl), (Nat.le_of_ble_eq_true rfl)⟩ rfl hl.1 rfl (Nat.le_of_ble_eq_true rfl) dX11_set_20 ⟨(Nat.le_of_ble_eq_true rfl), (Nat.le_of_ble_eq_true rfl)⟩) (fun r11 w9 H locs hp10 _ hH => ?_)
      rcases hp10 with ⟨rfl, hc12, rfl⟩ | ⟨rfl, hc13, rfl⟩
      · skip
        refine lv_if_ne (tgt := 28) hx hb dX11_set_23 (by decide) (fun c => absurd c (by decide)) (fun _ => ?_)
        refine lv_iconst (v := -1) hx hb dX11_set_26 (by decide) ?_
        exact tw_iret F hH hret hlk rfl (Nat.le_of_ble_eq_true rfl) (Nat.le_of_ble_eq_true rfl) dX11_set_27 (Or.inl (⟨rfl, (Or.inr (Or.inl (by omega)))⟩))
      · skip
        refine lv_if_ne (tgt := 28) hx hb dX11_set_23 (by decide) (fun _ => ?_) (fun c => absurd c (by decide))
        refine lv_aload_n hx hb dX11_set_28 rfl (lv_at hl 0 rfl) ?_
        refine tw_get (r := 0) F hH kf_RX11_15 rfl (by decide) hw_0 rfl dX11_set_29 ?_
        refine tw_get (r := 4) F hH kf_RX11_135 rfl (by decide) hw_4 rfl dX11_set_32 ?_
        refine lv_iload_n hx hb dX11_set_35 rfl (lv_at hl 1 rfl) ?_
        refine tw_iald (r := 9) (j := 0) (v := (500 : Int32)) F hH rfl (by decide) hw_9 (by decide) (by decide) rfl dX11_set_36 ?_
        refine lv_istore_n (lv' := [(3, .int (500 : Int32)), (0, .ref (ad 0)), (1, .int (0 : Int32)), (2, .int x2)]) hx hb dX11_set_37 rfl hl (by decide) rfl (fun ls hl => ?_)
        refine lv_aload_n hx hb dX11_set_38 rfl (lv_at hl 1 rfl) ?_
        refine tw_get (r := 0) F hH kf_RX11_15 rfl (by decide) hw_0 rfl dX11_set_39 ?_
        refine tw_get (r := 4) F hH kf_RX11_135 rfl (by decide) hw_4 rfl dX11_set_42 ?_
        refine lv_iload_n hx hb dX11_set_45 rfl (lv_at hl 2 rfl) ?_
        refine lv_iload_n hx hb dX11_set_46 rfl (lv_at hl 3 rfl) ?_
        refine tw_iast (r := 9) (j := 0) F hH rfl (by decide) hw_9 (by decide) (by decide) dX11_set_47 (fun H locs w16 hw17 hne18 hH => ?_)
        refine lv_aload_n hx hb dX11_set_48 rfl (lv_at hl 1 rfl) ?_
        have hw19 : w16 0 = .inr (11, [.ref (ad 4), .ref (ad 14), .ref (ad 156), .ref (ad 221), .ref (ad 225), .ref (ad 233), .ref (ad 236), .int (0 : Int32), .ref (ad 237), .int (0 : Int32), .ref (ad 238)]) := (hne18 0 (by decide)).trans (hw_0)
        refine tw_get (r := 0) F hH kf_RX11_24 rfl (by decide) hw19 rfl dX11_set_49 ?_
        refine lv_iconst (v := 0) hx hb dX11_set_52 (by decide) ?_
        have hw20 : w16 14 = .inr (2, [.ref (ad 4), .ref (ad 1), .ref (ad 15), .ref (ad 16), .ref (ad 17), .int (0 : Int32), .int (0 : Int32), .int (0 : Int32)]) := (hne18 14 (by decide)).trans (hw_14)
        refine tw_put (r := 14) F hH kf_RX11_84 kp_X2_7 rfl (by decide) hw20 (Nat.le_of_ble_eq_true rfl) rfl rfl dX11_set_53 (fun H locs w21 hw22 hne23 hH => ?_)
        have hw22 : w21 14 = .inr (2, [.ref (ad 4), .ref (ad 1), .ref (ad 15), .ref (ad 16), .ref (ad 17), .int (0 : Int32), .int (0 : Int32), .int (0 : Int32)]) := hw22
        refine lv_iload_n hx hb dX11_set_56 rfl (lv_at hl 0 rfl) ?_
        exact tw_iret F hH hret hlk rfl (Nat.le_of_ble_eq_true rfl) (Nat.le_of_ble_eq_true rfl) dX11_set_57 (Or.inr (Or.inl (⟨rfl, (by omega)⟩)))
    · skip
      obtain rfl : (1 : Int32) = x1 := (Int32.toInt_inj.mp ((e1.trans hz8).trans (by decide : (1 : Int) = (1 : Int32).toInt))).symm
      refine tw_tald (k := 1) (j := 1) (v := (0 : Int32)) F hH (by decide) (by decide) (by decide) (by decide) dX11_set_14 ?_
      refine tw_gets (k := 2) F hH (by decide) (tw_gl kw_585 rfl) dX11_set_15 ?_
      refine lv_iload_n hx hb dX11_set_18 rfl (lv_at hl 1 rfl) ?_
      refine tw_tald (k := 2) (j := 1) (v := (50 : Int32)) F hH (by decide) (by decide) (by decide) (by decide) dX11_set_19 ?_
      refine tw_calli F hH (tw_runS (As := [.int x2, .int (0 : Int32), .int (50 : Int32)]) (rest := []) F hH (c_X11_isWithin l G 244 ad w H.size x2 (z2) e2 (0 : Int32) 0 (by decide : (0 : Int32).toInt = 0) (50 : Int32) 50 (by decide : (50 : Int32).toInt = 50)) (tw_gl kw_565 rfl) km_X11_isWithin (tw_gl kw_566 rfl) rfl rfl ⟨(Nat.le_of_ble_eq_true rfl), (Nat.le_of_ble_eq_true rfl)⟩ rfl hl.1 rfl (Nat.le_of_ble_eq_true rfl) dX11_set_20 ⟨(Nat.le_of_ble_eq_true rfl), (Nat.le_of_ble_eq_true rfl)⟩) (fun r26 w24 H locs hp25 _ hH => ?_)
      rcases hp25 with ⟨rfl, hc27, rfl⟩ | ⟨rfl, hc28, rfl⟩
      · skip
        refine lv_if_ne (tgt := 28) hx hb dX11_set_23 (by decide) (fun c => absurd c (by decide)) (fun _ => ?_)
        refine lv_iconst (v := -1) hx hb dX11_set_26 (by decide) ?_
        exact tw_iret F hH hret hlk rfl (Nat.le_of_ble_eq_true rfl) (Nat.le_of_ble_eq_true rfl) dX11_set_27 (Or.inl (⟨rfl, (Or.inr (Or.inr (Or.inl (by omega))))⟩))
      · skip
        refine lv_if_ne (tgt := 28) hx hb dX11_set_23 (by decide) (fun _ => ?_) (fun c => absurd c (by decide))
        refine lv_aload_n hx hb dX11_set_28 rfl (lv_at hl 0 rfl) ?_
        refine tw_get (r := 0) F hH kf_RX11_15 rfl (by decide) hw_0 rfl dX11_set_29 ?_
        refine tw_get (r := 4) F hH kf_RX11_135 rfl (by decide) hw_4 rfl dX11_set_32 ?_
        refine lv_iload_n hx hb dX11_set_35 rfl (lv_at hl 1 rfl) ?_
        refine tw_iald (r := 9) (j := 1) (v := (5 : Int32)) F hH rfl (by decide) hw_9 (by decide) (by decide) rfl dX11_set_36 ?_
        refine lv_istore_n (lv' := [(3, .int (5 : Int32)), (0, .ref (ad 0)), (1, .int (1 : Int32)), (2, .int x2)]) hx hb dX11_set_37 rfl hl (by decide) rfl (fun ls hl => ?_)
        refine lv_aload_n hx hb dX11_set_38 rfl (lv_at hl 1 rfl) ?_
        refine tw_get (r := 0) F hH kf_RX11_15 rfl (by decide) hw_0 rfl dX11_set_39 ?_
        refine tw_get (r := 4) F hH kf_RX11_135 rfl (by decide) hw_4 rfl dX11_set_42 ?_
        refine lv_iload_n hx hb dX11_set_45 rfl (lv_at hl 2 rfl) ?_
        refine lv_iload_n hx hb dX11_set_46 rfl (lv_at hl 3 rfl) ?_
        refine tw_iast (r := 9) (j := 1) F hH rfl (by decide) hw_9 (by decide) (by decide) dX11_set_47 (fun H locs w31 hw32 hne33 hH => ?_)
        refine lv_aload_n hx hb dX11_set_48 rfl (lv_at hl 1 rfl) ?_
        have hw34 : w31 0 = .inr (11, [.ref (ad 4), .ref (ad 14), .ref (ad 156), .ref (ad 221), .ref (ad 225), .ref (ad 233), .ref (ad 236), .int (0 : Int32), .ref (ad 237), .int (0 : Int32), .ref (ad 238)]) := (hne33 0 (by decide)).trans (hw_0)
        refine tw_get (r := 0) F hH kf_RX11_24 rfl (by decide) hw34 rfl dX11_set_49 ?_
        refine lv_iconst (v := 0) hx hb dX11_set_52 (by decide) ?_
        have hw35 : w31 14 = .inr (2, [.ref (ad 4), .ref (ad 1), .ref (ad 15), .ref (ad 16), .ref (ad 17), .int (0 : Int32), .int (0 : Int32), .int (0 : Int32)]) := (hne33 14 (by decide)).trans (hw_14)
        refine tw_put (r := 14) F hH kf_RX11_84 kp_X2_7 rfl (by decide) hw35 (Nat.le_of_ble_eq_true rfl) rfl rfl dX11_set_53 (fun H locs w36 hw37 hne38 hH => ?_)
        have hw37 : w36 14 = .inr (2, [.ref (ad 4), .ref (ad 1), .ref (ad 15), .ref (ad 16), .ref (ad 17), .int (0 : Int32), .int (0 : Int32), .int (0 : Int32)]) := hw37
        refine lv_iload_n hx hb dX11_set_56 rfl (lv_at hl 0 rfl) ?_
        exact tw_iret F hH hret hlk rfl (Nat.le_of_ble_eq_true rfl) (Nat.le_of_ble_eq_true rfl) dX11_set_57 (Or.inr (Or.inr (Or.inl (⟨rfl, (by omega)⟩))))
    · skip
      obtain rfl : (2 : Int32) = x1 := (Int32.toInt_inj.mp ((e1.trans hz8).trans (by decide : (2 : Int) = (2 : Int32).toInt))).symm
      refine tw_tald (k := 1) (j := 2) (v := (0 : Int32)) F hH (by decide) (by decide) (by decide) (by decide) dX11_set_14 ?_
      refine tw_gets (k := 2) F hH (by decide) (tw_gl kw_585 rfl) dX11_set_15 ?_
      refine lv_iload_n hx hb dX11_set_18 rfl (lv_at hl 1 rfl) ?_
      refine tw_tald (k := 2) (j := 2) (v := (500 : Int32)) F hH (by decide) (by decide) (by decide) (by decide) dX11_set_19 ?_
      refine tw_calli F hH (tw_runS (As := [.int x2, .int (0 : Int32), .int (500 : Int32)]) (rest := []) F hH (c_X11_isWithin l G 244 ad w H.size x2 (z2) e2 (0 : Int32) 0 (by decide : (0 : Int32).toInt = 0) (500 : Int32) 500 (by decide : (500 : Int32).toInt = 500)) (tw_gl kw_565 rfl) km_X11_isWithin (tw_gl kw_566 rfl) rfl rfl ⟨(Nat.le_of_ble_eq_true rfl), (Nat.le_of_ble_eq_true rfl)⟩ rfl hl.1 rfl (Nat.le_of_ble_eq_true rfl) dX11_set_20 ⟨(Nat.le_of_ble_eq_true rfl), (Nat.le_of_ble_eq_true rfl)⟩) (fun r41 w39 H locs hp40 _ hH => ?_)
      rcases hp40 with ⟨rfl, hc42, rfl⟩ | ⟨rfl, hc43, rfl⟩
      · skip
        refine lv_if_ne (tgt := 28) hx hb dX11_set_23 (by decide) (fun c => absurd c (by decide)) (fun _ => ?_)
        refine lv_iconst (v := -1) hx hb dX11_set_26 (by decide) ?_
        exact tw_iret F hH hret hlk rfl (Nat.le_of_ble_eq_true rfl) (Nat.le_of_ble_eq_true rfl) dX11_set_27 (Or.inl (⟨rfl, (Or.inr (Or.inr (Or.inr (Or.inl (by omega)))))⟩))
      · skip
        refine lv_if_ne (tgt := 28) hx hb dX11_set_23 (by decide) (fun _ => ?_) (fun c => absurd c (by decide))
        refine lv_aload_n hx hb dX11_set_28 rfl (lv_at hl 0 rfl) ?_
        refine tw_get (r := 0) F hH kf_RX11_15 rfl (by decide) hw_0 rfl dX11_set_29 ?_
        refine tw_get (r := 4) F hH kf_RX11_135 rfl (by decide) hw_4 rfl dX11_set_32 ?_
        refine lv_iload_n hx hb dX11_set_35 rfl (lv_at hl 1 rfl) ?_
        refine tw_iald (r := 9) (j := 2) (v := (200 : Int32)) F hH rfl (by decide) hw_9 (by decide) (by decide) rfl dX11_set_36 ?_
        refine lv_istore_n (lv' := [(3, .int (200 : Int32)), (0, .ref (ad 0)), (1, .int (2 : Int32)), (2, .int x2)]) hx hb dX11_set_37 rfl hl (by decide) rfl (fun ls hl => ?_)
        refine lv_aload_n hx hb dX11_set_38 rfl (lv_at hl 1 rfl) ?_
        refine tw_get (r := 0) F hH kf_RX11_15 rfl (by decide) hw_0 rfl dX11_set_39 ?_
        refine tw_get (r := 4) F hH kf_RX11_135 rfl (by decide) hw_4 rfl dX11_set_42 ?_
        refine lv_iload_n hx hb dX11_set_45 rfl (lv_at hl 2 rfl) ?_
        refine lv_iload_n hx hb dX11_set_46 rfl (lv_at hl 3 rfl) ?_
        refine tw_iast (r := 9) (j := 2) F hH rfl (by decide) hw_9 (by decide) (by decide) dX11_set_47 (fun H locs w46 hw47 hne48 hH => ?_)
        refine lv_aload_n hx hb dX11_set_48 rfl (lv_at hl 1 rfl) ?_
        have hw49 : w46 0 = .inr (11, [.ref (ad 4), .ref (ad 14), .ref (ad 156), .ref (ad 221), .ref (ad 225), .ref (ad 233), .ref (ad 236), .int (0 : Int32), .ref (ad 237), .int (0 : Int32), .ref (ad 238)]) := (hne48 0 (by decide)).trans (hw_0)
        refine tw_get (r := 0) F hH kf_RX11_24 rfl (by decide) hw49 rfl dX11_set_49 ?_
        refine lv_iconst (v := 0) hx hb dX11_set_52 (by decide) ?_
        have hw50 : w46 14 = .inr (2, [.ref (ad 4), .ref (ad 1), .ref (ad 15), .ref (ad 16), .ref (ad 17), .int (0 : Int32), .int (0 : Int32), .int (0 : Int32)]) := (hne48 14 (by decide)).trans (hw_14)
        refine tw_put (r := 14) F hH kf_RX11_84 kp_X2_7 rfl (by decide) hw50 (Nat.le_of_ble_eq_true rfl) rfl rfl dX11_set_53 (fun H locs w51 hw52 hne53 hH => ?_)
        have hw52 : w51 14 = .inr (2, [.ref (ad 4), .ref (ad 1), .ref (ad 15), .ref (ad 16), .ref (ad 17), .int (0 : Int32), .int (0 : Int32), .int (0 : Int32)]) := hw52
        refine lv_iload_n hx hb dX11_set_56 rfl (lv_at hl 0 rfl) ?_
        exact tw_iret F hH hret hlk rfl (Nat.le_of_ble_eq_true rfl) (Nat.le_of_ble_eq_true rfl) dX11_set_57 (Or.inr (Or.inr (Or.inr (Or.inl (⟨rfl, (by omega)⟩)))))
    · skip
      obtain rfl : (3 : Int32) = x1 := (Int32.toInt_inj.mp ((e1.trans hz8).trans (by decide : (3 : Int) = (3 : Int32).toInt))).symm
      refine tw_tald (k := 1) (j := 3) (v := (0 : Int32)) F hH (by decide) (by decide) (by decide) (by decide) dX11_set_14 ?_
      refine tw_gets (k := 2) F hH (by decide) (tw_gl kw_585 rfl) dX11_set_15 ?_
      refine lv_iload_n hx hb dX11_set_18 rfl (lv_at hl 1 rfl) ?_
      refine tw_tald (k := 2) (j := 3) (v := (60000 : Int32)) F hH (by decide) (by decide) (by decide) (by decide) dX11_set_19 ?_
      refine tw_calli F hH (tw_runS (As := [.int x2, .int (0 : Int32), .int (60000 : Int32)]) (rest := []) F hH (c_X11_isWithin l G 244 ad w H.size x2 (z2) e2 (0 : Int32) 0 (by decide : (0 : Int32).toInt = 0) (60000 : Int32) 60000 (by decide : (60000 : Int32).toInt = 60000)) (tw_gl kw_565 rfl) km_X11_isWithin (tw_gl kw_566 rfl) rfl rfl ⟨(Nat.le_of_ble_eq_true rfl), (Nat.le_of_ble_eq_true rfl)⟩ rfl hl.1 rfl (Nat.le_of_ble_eq_true rfl) dX11_set_20 ⟨(Nat.le_of_ble_eq_true rfl), (Nat.le_of_ble_eq_true rfl)⟩) (fun r56 w54 H locs hp55 _ hH => ?_)
      rcases hp55 with ⟨rfl, hc57, rfl⟩ | ⟨rfl, hc58, rfl⟩
      · skip
        refine lv_if_ne (tgt := 28) hx hb dX11_set_23 (by decide) (fun c => absurd c (by decide)) (fun _ => ?_)
        refine lv_iconst (v := -1) hx hb dX11_set_26 (by decide) ?_
        exact tw_iret F hH hret hlk rfl (Nat.le_of_ble_eq_true rfl) (Nat.le_of_ble_eq_true rfl) dX11_set_27 (Or.inl (⟨rfl, (Or.inr (Or.inr (Or.inr (Or.inr (Or.inl (by omega))))))⟩))
      · skip
        refine lv_if_ne (tgt := 28) hx hb dX11_set_23 (by decide) (fun _ => ?_) (fun c => absurd c (by decide))
        refine lv_aload_n hx hb dX11_set_28 rfl (lv_at hl 0 rfl) ?_
        refine tw_get (r := 0) F hH kf_RX11_15 rfl (by decide) hw_0 rfl dX11_set_29 ?_
        refine tw_get (r := 4) F hH kf_RX11_135 rfl (by decide) hw_4 rfl dX11_set_32 ?_
        refine lv_iload_n hx hb dX11_set_35 rfl (lv_at hl 1 rfl) ?_
        refine tw_iald (r := 9) (j := 3) (v := (15000 : Int32)) F hH rfl (by decide) hw_9 (by decide) (by decide) rfl dX11_set_36 ?_
        refine lv_istore_n (lv' := [(3, .int (15000 : Int32)), (0, .ref (ad 0)), (1, .int (3 : Int32)), (2, .int x2)]) hx hb dX11_set_37 rfl hl (by decide) rfl (fun ls hl => ?_)
        refine lv_aload_n hx hb dX11_set_38 rfl (lv_at hl 1 rfl) ?_
        refine tw_get (r := 0) F hH kf_RX11_15 rfl (by decide) hw_0 rfl dX11_set_39 ?_
        refine tw_get (r := 4) F hH kf_RX11_135 rfl (by decide) hw_4 rfl dX11_set_42 ?_
        refine lv_iload_n hx hb dX11_set_45 rfl (lv_at hl 2 rfl) ?_
        refine lv_iload_n hx hb dX11_set_46 rfl (lv_at hl 3 rfl) ?_
        refine tw_iast (r := 9) (j := 3) F hH rfl (by decide) hw_9 (by decide) (by decide) dX11_set_47 (fun H locs w61 hw62 hne63 hH => ?_)
        refine lv_aload_n hx hb dX11_set_48 rfl (lv_at hl 1 rfl) ?_
        have hw64 : w61 0 = .inr (11, [.ref (ad 4), .ref (ad 14), .ref (ad 156), .ref (ad 221), .ref (ad 225), .ref (ad 233), .ref (ad 236), .int (0 : Int32), .ref (ad 237), .int (0 : Int32), .ref (ad 238)]) := (hne63 0 (by decide)).trans (hw_0)
        refine tw_get (r := 0) F hH kf_RX11_24 rfl (by decide) hw64 rfl dX11_set_49 ?_
        refine lv_iconst (v := 0) hx hb dX11_set_52 (by decide) ?_
        have hw65 : w61 14 = .inr (2, [.ref (ad 4), .ref (ad 1), .ref (ad 15), .ref (ad 16), .ref (ad 17), .int (0 : Int32), .int (0 : Int32), .int (0 : Int32)]) := (hne63 14 (by decide)).trans (hw_14)
        refine tw_put (r := 14) F hH kf_RX11_84 kp_X2_7 rfl (by decide) hw65 (Nat.le_of_ble_eq_true rfl) rfl rfl dX11_set_53 (fun H locs w66 hw67 hne68 hH => ?_)
        have hw67 : w66 14 = .inr (2, [.ref (ad 4), .ref (ad 1), .ref (ad 15), .ref (ad 16), .ref (ad 17), .int (0 : Int32), .int (0 : Int32), .int (0 : Int32)]) := hw67
        refine lv_iload_n hx hb dX11_set_56 rfl (lv_at hl 0 rfl) ?_
        exact tw_iret F hH hret hlk rfl (Nat.le_of_ble_eq_true rfl) (Nat.le_of_ble_eq_true rfl) dX11_set_57 (Or.inr (Or.inr (Or.inr (Or.inr (Or.inl (⟨rfl, (by omega)⟩))))))
    · skip
      obtain rfl : (4 : Int32) = x1 := (Int32.toInt_inj.mp ((e1.trans hz8).trans (by decide : (4 : Int) = (4 : Int32).toInt))).symm
      refine tw_tald (k := 1) (j := 4) (v := (0 : Int32)) F hH (by decide) (by decide) (by decide) (by decide) dX11_set_14 ?_
      refine tw_gets (k := 2) F hH (by decide) (tw_gl kw_585 rfl) dX11_set_15 ?_
      refine lv_iload_n hx hb dX11_set_18 rfl (lv_at hl 1 rfl) ?_
      refine tw_tald (k := 2) (j := 4) (v := (20000 : Int32)) F hH (by decide) (by decide) (by decide) (by decide) dX11_set_19 ?_
      refine tw_calli F hH (tw_runS (As := [.int x2, .int (0 : Int32), .int (20000 : Int32)]) (rest := []) F hH (c_X11_isWithin l G 244 ad w H.size x2 (z2) e2 (0 : Int32) 0 (by decide : (0 : Int32).toInt = 0) (20000 : Int32) 20000 (by decide : (20000 : Int32).toInt = 20000)) (tw_gl kw_565 rfl) km_X11_isWithin (tw_gl kw_566 rfl) rfl rfl ⟨(Nat.le_of_ble_eq_true rfl), (Nat.le_of_ble_eq_true rfl)⟩ rfl hl.1 rfl (Nat.le_of_ble_eq_true rfl) dX11_set_20 ⟨(Nat.le_of_ble_eq_true rfl), (Nat.le_of_ble_eq_true rfl)⟩) (fun r71 w69 H locs hp70 _ hH => ?_)
      rcases hp70 with ⟨rfl, hc72, rfl⟩ | ⟨rfl, hc73, rfl⟩
      · skip
        refine lv_if_ne (tgt := 28) hx hb dX11_set_23 (by decide) (fun c => absurd c (by decide)) (fun _ => ?_)
        refine lv_iconst (v := -1) hx hb dX11_set_26 (by decide) ?_
        exact tw_iret F hH hret hlk rfl (Nat.le_of_ble_eq_true rfl) (Nat.le_of_ble_eq_true rfl) dX11_set_27 (Or.inl (⟨rfl, (Or.inr (Or.inr (Or.inr (Or.inr (Or.inr (Or.inl (by omega)))))))⟩))
      · skip
        refine lv_if_ne (tgt := 28) hx hb dX11_set_23 (by decide) (fun _ => ?_) (fun c => absurd c (by decide))
        refine lv_aload_n hx hb dX11_set_28 rfl (lv_at hl 0 rfl) ?_
        refine tw_get (r := 0) F hH kf_RX11_15 rfl (by decide) hw_0 rfl dX11_set_29 ?_
        refine tw_get (r := 4) F hH kf_RX11_135 rfl (by decide) hw_4 rfl dX11_set_32 ?_
        refine lv_iload_n hx hb dX11_set_35 rfl (lv_at hl 1 rfl) ?_
        refine tw_iald (r := 9) (j := 4) (v := (3000 : Int32)) F hH rfl (by decide) hw_9 (by decide) (by decide) rfl dX11_set_36 ?_
        refine lv_istore_n (lv' := [(3, .int (3000 : Int32)), (0, .ref (ad 0)), (1, .int (4 : Int32)), (2, .int x2)]) hx hb dX11_set_37 rfl hl (by decide) rfl (fun ls hl => ?_)
        refine lv_aload_n hx hb dX11_set_38 rfl (lv_at hl 1 rfl) ?_
        refine tw_get (r := 0) F hH kf_RX11_15 rfl (by decide) hw_0 rfl dX11_set_39 ?_
        refine tw_get (r := 4) F hH kf_RX11_135 rfl (by decide) hw_4 rfl dX11_set_42 ?_
        refine lv_iload_n hx hb dX11_set_45 rfl (lv_at hl 2 rfl) ?_
        refine lv_iload_n hx hb dX11_set_46 rfl (lv_at hl 3 rfl) ?_
        refine tw_iast (r := 9) (j := 4) F hH rfl (by decide) hw_9 (by decide) (by decide) dX11_set_47 (fun H locs w76 hw77 hne78 hH => ?_)
        refine lv_aload_n hx hb dX11_set_48 rfl (lv_at hl 1 rfl) ?_
        have hw79 : w76 0 = .inr (11, [.ref (ad 4), .ref (ad 14), .ref (ad 156), .ref (ad 221), .ref (ad 225), .ref (ad 233), .ref (ad 236), .int (0 : Int32), .ref (ad 237), .int (0 : Int32), .ref (ad 238)]) := (hne78 0 (by decide)).trans (hw_0)
        refine tw_get (r := 0) F hH kf_RX11_24 rfl (by decide) hw79 rfl dX11_set_49 ?_
        refine lv_iconst (v := 0) hx hb dX11_set_52 (by decide) ?_
        have hw80 : w76 14 = .inr (2, [.ref (ad 4), .ref (ad 1), .ref (ad 15), .ref (ad 16), .ref (ad 17), .int (0 : Int32), .int (0 : Int32), .int (0 : Int32)]) := (hne78 14 (by decide)).trans (hw_14)
        refine tw_put (r := 14) F hH kf_RX11_84 kp_X2_7 rfl (by decide) hw80 (Nat.le_of_ble_eq_true rfl) rfl rfl dX11_set_53 (fun H locs w81 hw82 hne83 hH => ?_)
        have hw82 : w81 14 = .inr (2, [.ref (ad 4), .ref (ad 1), .ref (ad 15), .ref (ad 16), .ref (ad 17), .int (0 : Int32), .int (0 : Int32), .int (0 : Int32)]) := hw82
        refine lv_iload_n hx hb dX11_set_56 rfl (lv_at hl 0 rfl) ?_
        exact tw_iret F hH hret hlk rfl (Nat.le_of_ble_eq_true rfl) (Nat.le_of_ble_eq_true rfl) dX11_set_57 (Or.inr (Or.inr (Or.inr (Or.inr (Or.inr (Or.inl (⟨rfl, (by omega)⟩)))))))
    · skip
      obtain rfl : (5 : Int32) = x1 := (Int32.toInt_inj.mp ((e1.trans hz8).trans (by decide : (5 : Int) = (5 : Int32).toInt))).symm
      refine tw_tald (k := 1) (j := 5) (v := (0 : Int32)) F hH (by decide) (by decide) (by decide) (by decide) dX11_set_14 ?_
      refine tw_gets (k := 2) F hH (by decide) (tw_gl kw_585 rfl) dX11_set_15 ?_
      refine lv_iload_n hx hb dX11_set_18 rfl (lv_at hl 1 rfl) ?_
      refine tw_tald (k := 2) (j := 5) (v := (200 : Int32)) F hH (by decide) (by decide) (by decide) (by decide) dX11_set_19 ?_
      refine tw_calli F hH (tw_runS (As := [.int x2, .int (0 : Int32), .int (200 : Int32)]) (rest := []) F hH (c_X11_isWithin l G 244 ad w H.size x2 (z2) e2 (0 : Int32) 0 (by decide : (0 : Int32).toInt = 0) (200 : Int32) 200 (by decide : (200 : Int32).toInt = 200)) (tw_gl kw_565 rfl) km_X11_isWithin (tw_gl kw_566 rfl) rfl rfl ⟨(Nat.le_of_ble_eq_true rfl), (Nat.le_of_ble_eq_true rfl)⟩ rfl hl.1 rfl (Nat.le_of_ble_eq_true rfl) dX11_set_20 ⟨(Nat.le_of_ble_eq_true rfl), (Nat.le_of_ble_eq_true rfl)⟩) (fun r86 w84 H locs hp85 _ hH => ?_)
      rcases hp85 with ⟨rfl, hc87, rfl⟩ | ⟨rfl, hc88, rfl⟩
      · skip
        refine lv_if_ne (tgt := 28) hx hb dX11_set_23 (by decide) (fun c => absurd c (by decide)) (fun _ => ?_)
        refine lv_iconst (v := -1) hx hb dX11_set_26 (by decide) ?_
        exact tw_iret F hH hret hlk rfl (Nat.le_of_ble_eq_true rfl) (Nat.le_of_ble_eq_true rfl) dX11_set_27 (Or.inl (⟨rfl, (Or.inr (Or.inr (Or.inr (Or.inr (Or.inr (Or.inr (Or.inl (by omega))))))))⟩))
      · skip
        refine lv_if_ne (tgt := 28) hx hb dX11_set_23 (by decide) (fun _ => ?_) (fun c => absurd c (by decide))
        refine lv_aload_n hx hb dX11_set_28 rfl (lv_at hl 0 rfl) ?_
        refine tw_get (r := 0) F hH kf_RX11_15 rfl (by decide) hw_0 rfl dX11_set_29 ?_
        refine tw_get (r := 4) F hH kf_RX11_135 rfl (by decide) hw_4 rfl dX11_set_32 ?_
        refine lv_iload_n hx hb dX11_set_35 rfl (lv_at hl 1 rfl) ?_
        refine tw_iald (r := 9) (j := 5) (v := (50 : Int32)) F hH rfl (by decide) hw_9 (by decide) (by decide) rfl dX11_set_36 ?_
        refine lv_istore_n (lv' := [(3, .int (50 : Int32)), (0, .ref (ad 0)), (1, .int (5 : Int32)), (2, .int x2)]) hx hb dX11_set_37 rfl hl (by decide) rfl (fun ls hl => ?_)
        refine lv_aload_n hx hb dX11_set_38 rfl (lv_at hl 1 rfl) ?_
        refine tw_get (r := 0) F hH kf_RX11_15 rfl (by decide) hw_0 rfl dX11_set_39 ?_
        refine tw_get (r := 4) F hH kf_RX11_135 rfl (by decide) hw_4 rfl dX11_set_42 ?_
        refine lv_iload_n hx hb dX11_set_45 rfl (lv_at hl 2 rfl) ?_
        refine lv_iload_n hx hb dX11_set_46 rfl (lv_at hl 3 rfl) ?_
        refine tw_iast (r := 9) (j := 5) F hH rfl (by decide) hw_9 (by decide) (by decide) dX11_set_47 (fun H locs w91 hw92 hne93 hH => ?_)
        refine lv_aload_n hx hb dX11_set_48 rfl (lv_at hl 1 rfl) ?_
        have hw94 : w91 0 = .inr (11, [.ref (ad 4), .ref (ad 14), .ref (ad 156), .ref (ad 221), .ref (ad 225), .ref (ad 233), .ref (ad 236), .int (0 : Int32), .ref (ad 237), .int (0 : Int32), .ref (ad 238)]) := (hne93 0 (by decide)).trans (hw_0)
        refine tw_get (r := 0) F hH kf_RX11_24 rfl (by decide) hw94 rfl dX11_set_49 ?_
        refine lv_iconst (v := 0) hx hb dX11_set_52 (by decide) ?_
        have hw95 : w91 14 = .inr (2, [.ref (ad 4), .ref (ad 1), .ref (ad 15), .ref (ad 16), .ref (ad 17), .int (0 : Int32), .int (0 : Int32), .int (0 : Int32)]) := (hne93 14 (by decide)).trans (hw_14)
        refine tw_put (r := 14) F hH kf_RX11_84 kp_X2_7 rfl (by decide) hw95 (Nat.le_of_ble_eq_true rfl) rfl rfl dX11_set_53 (fun H locs w96 hw97 hne98 hH => ?_)
        have hw97 : w96 14 = .inr (2, [.ref (ad 4), .ref (ad 1), .ref (ad 15), .ref (ad 16), .ref (ad 17), .int (0 : Int32), .int (0 : Int32), .int (0 : Int32)]) := hw97
        refine lv_iload_n hx hb dX11_set_56 rfl (lv_at hl 0 rfl) ?_
        exact tw_iret F hH hret hlk rfl (Nat.le_of_ble_eq_true rfl) (Nat.le_of_ble_eq_true rfl) dX11_set_57 (Or.inr (Or.inr (Or.inr (Or.inr (Or.inr (Or.inr (Or.inl (⟨rfl, (by omega)⟩))))))))
    · skip
      obtain rfl : (6 : Int32) = x1 := (Int32.toInt_inj.mp ((e1.trans hz8).trans (by decide : (6 : Int) = (6 : Int32).toInt))).symm
      refine tw_tald (k := 1) (j := 6) (v := (0 : Int32)) F hH (by decide) (by decide) (by decide) (by decide) dX11_set_14 ?_
      refine tw_gets (k := 2) F hH (by decide) (tw_gl kw_585 rfl) dX11_set_15 ?_
      refine lv_iload_n hx hb dX11_set_18 rfl (lv_at hl 1 rfl) ?_
      refine tw_tald (k := 2) (j := 6) (v := (2000 : Int32)) F hH (by decide) (by decide) (by decide) (by decide) dX11_set_19 ?_
      refine tw_calli F hH (tw_runS (As := [.int x2, .int (0 : Int32), .int (2000 : Int32)]) (rest := []) F hH (c_X11_isWithin l G 244 ad w H.size x2 (z2) e2 (0 : Int32) 0 (by decide : (0 : Int32).toInt = 0) (2000 : Int32) 2000 (by decide : (2000 : Int32).toInt = 2000)) (tw_gl kw_565 rfl) km_X11_isWithin (tw_gl kw_566 rfl) rfl rfl ⟨(Nat.le_of_ble_eq_true rfl), (Nat.le_of_ble_eq_true rfl)⟩ rfl hl.1 rfl (Nat.le_of_ble_eq_true rfl) dX11_set_20 ⟨(Nat.le_of_ble_eq_true rfl), (Nat.le_of_ble_eq_true rfl)⟩) (fun r101 w99 H locs hp100 _ hH => ?_)
      rcases hp100 with ⟨rfl, hc102, rfl⟩ | ⟨rfl, hc103, rfl⟩
      · skip
        refine lv_if_ne (tgt := 28) hx hb dX11_set_23 (by decide) (fun c => absurd c (by decide)) (fun _ => ?_)
        refine lv_iconst (v := -1) hx hb dX11_set_26 (by decide) ?_
        exact tw_iret F hH hret hlk rfl (Nat.le_of_ble_eq_true rfl) (Nat.le_of_ble_eq_true rfl) dX11_set_27 (Or.inl (⟨rfl, (Or.inr (Or.inr (Or.inr (Or.inr (Or.inr (Or.inr (Or.inr (Or.inl (by omega)))))))))⟩))
      · skip
        refine lv_if_ne (tgt := 28) hx hb dX11_set_23 (by decide) (fun _ => ?_) (fun c => absurd c (by decide))
        refine lv_aload_n hx hb dX11_set_28 rfl (lv_at hl 0 rfl) ?_
        refine tw_get (r := 0) F hH kf_RX11_15 rfl (by decide) hw_0 rfl dX11_set_29 ?_
        refine tw_get (r := 4) F hH kf_RX11_135 rfl (by decide) hw_4 rfl dX11_set_32 ?_
        refine lv_iload_n hx hb dX11_set_35 rfl (lv_at hl 1 rfl) ?_
        refine tw_iald (r := 9) (j := 6) (v := (300 : Int32)) F hH rfl (by decide) hw_9 (by decide) (by decide) rfl dX11_set_36 ?_
        refine lv_istore_n (lv' := [(3, .int (300 : Int32)), (0, .ref (ad 0)), (1, .int (6 : Int32)), (2, .int x2)]) hx hb dX11_set_37 rfl hl (by decide) rfl (fun ls hl => ?_)
        refine lv_aload_n hx hb dX11_set_38 rfl (lv_at hl 1 rfl) ?_
        refine tw_get (r := 0) F hH kf_RX11_15 rfl (by decide) hw_0 rfl dX11_set_39 ?_
        refine tw_get (r := 4) F hH kf_RX11_135 rfl (by decide) hw_4 rfl dX11_set_42 ?_
        refine lv_iload_n hx hb dX11_set_45 rfl (lv_at hl 2 rfl) ?_
        refine lv_iload_n hx hb dX11_set_46 rfl (lv_at hl 3 rfl) ?_
        refine tw_iast (r := 9) (j := 6) F hH rfl (by decide) hw_9 (by decide) (by decide) dX11_set_47 (fun H locs w106 hw107 hne108 hH => ?_)
        refine lv_aload_n hx hb dX11_set_48 rfl (lv_at hl 1 rfl) ?_
        have hw109 : w106 0 = .inr (11, [.ref (ad 4), .ref (ad 14), .ref (ad 156), .ref (ad 221), .ref (ad 225), .ref (ad 233), .ref (ad 236), .int (0 : Int32), .ref (ad 237), .int (0 : Int32), .ref (ad 238)]) := (hne108 0 (by decide)).trans (hw_0)
        refine tw_get (r := 0) F hH kf_RX11_24 rfl (by decide) hw109 rfl dX11_set_49 ?_
        refine lv_iconst (v := 0) hx hb dX11_set_52 (by decide) ?_
        have hw110 : w106 14 = .inr (2, [.ref (ad 4), .ref (ad 1), .ref (ad 15), .ref (ad 16), .ref (ad 17), .int (0 : Int32), .int (0 : Int32), .int (0 : Int32)]) := (hne108 14 (by decide)).trans (hw_14)
        refine tw_put (r := 14) F hH kf_RX11_84 kp_X2_7 rfl (by decide) hw110 (Nat.le_of_ble_eq_true rfl) rfl rfl dX11_set_53 (fun H locs w111 hw112 hne113 hH => ?_)
        have hw112 : w111 14 = .inr (2, [.ref (ad 4), .ref (ad 1), .ref (ad 15), .ref (ad 16), .ref (ad 17), .int (0 : Int32), .int (0 : Int32), .int (0 : Int32)]) := hw112
        refine lv_iload_n hx hb dX11_set_56 rfl (lv_at hl 0 rfl) ?_
        exact tw_iret F hH hret hlk rfl (Nat.le_of_ble_eq_true rfl) (Nat.le_of_ble_eq_true rfl) dX11_set_57 (Or.inr (Or.inr (Or.inr (Or.inr (Or.inr (Or.inr (Or.inr (Or.inl (⟨rfl, (by omega)⟩)))))))))
    · skip
      obtain rfl : (7 : Int32) = x1 := (Int32.toInt_inj.mp ((e1.trans hz8).trans (by decide : (7 : Int) = (7 : Int32).toInt))).symm
      refine tw_tald (k := 1) (j := 7) (v := (0 : Int32)) F hH (by decide) (by decide) (by decide) (by decide) dX11_set_14 ?_
      refine tw_gets (k := 2) F hH (by decide) (tw_gl kw_585 rfl) dX11_set_15 ?_
      refine lv_iload_n hx hb dX11_set_18 rfl (lv_at hl 1 rfl) ?_
      refine tw_tald (k := 2) (j := 7) (v := (9 : Int32)) F hH (by decide) (by decide) (by decide) (by decide) dX11_set_19 ?_
      refine tw_calli F hH (tw_runS (As := [.int x2, .int (0 : Int32), .int (9 : Int32)]) (rest := []) F hH (c_X11_isWithin l G 244 ad w H.size x2 (z2) e2 (0 : Int32) 0 (by decide : (0 : Int32).toInt = 0) (9 : Int32) 9 (by decide : (9 : Int32).toInt = 9)) (tw_gl kw_565 rfl) km_X11_isWithin (tw_gl kw_566 rfl) rfl rfl ⟨(Nat.le_of_ble_eq_true rfl), (Nat.le_of_ble_eq_true rfl)⟩ rfl hl.1 rfl (Nat.le_of_ble_eq_true rfl) dX11_set_20 ⟨(Nat.le_of_ble_eq_true rfl), (Nat.le_of_ble_eq_true rfl)⟩) (fun r116 w114 H locs hp115 _ hH => ?_)
      rcases hp115 with ⟨rfl, hc117, rfl⟩ | ⟨rfl, hc118, rfl⟩
      · skip
        refine lv_if_ne (tgt := 28) hx hb dX11_set_23 (by decide) (fun c => absurd c (by decide)) (fun _ => ?_)
        refine lv_iconst (v := -1) hx hb dX11_set_26 (by decide) ?_
        exact tw_iret F hH hret hlk rfl (Nat.le_of_ble_eq_true rfl) (Nat.le_of_ble_eq_true rfl) dX11_set_27 (Or.inl (⟨rfl, (Or.inr (Or.inr (Or.inr (Or.inr (Or.inr (Or.inr (Or.inr (Or.inr (by omega)))))))))⟩))
      · skip
        refine lv_if_ne (tgt := 28) hx hb dX11_set_23 (by decide) (fun _ => ?_) (fun c => absurd c (by decide))
        refine lv_aload_n hx hb dX11_set_28 rfl (lv_at hl 0 rfl) ?_
        refine tw_get (r := 0) F hH kf_RX11_15 rfl (by decide) hw_0 rfl dX11_set_29 ?_
        refine tw_get (r := 4) F hH kf_RX11_135 rfl (by decide) hw_4 rfl dX11_set_32 ?_
        refine lv_iload_n hx hb dX11_set_35 rfl (lv_at hl 1 rfl) ?_
        refine tw_iald (r := 9) (j := 7) (v := (0 : Int32)) F hH rfl (by decide) hw_9 (by decide) (by decide) rfl dX11_set_36 ?_
        refine lv_istore_n (lv' := [(3, .int (0 : Int32)), (0, .ref (ad 0)), (1, .int (7 : Int32)), (2, .int x2)]) hx hb dX11_set_37 rfl hl (by decide) rfl (fun ls hl => ?_)
        refine lv_aload_n hx hb dX11_set_38 rfl (lv_at hl 1 rfl) ?_
        refine tw_get (r := 0) F hH kf_RX11_15 rfl (by decide) hw_0 rfl dX11_set_39 ?_
        refine tw_get (r := 4) F hH kf_RX11_135 rfl (by decide) hw_4 rfl dX11_set_42 ?_
        refine lv_iload_n hx hb dX11_set_45 rfl (lv_at hl 2 rfl) ?_
        refine lv_iload_n hx hb dX11_set_46 rfl (lv_at hl 3 rfl) ?_
        refine tw_iast (r := 9) (j := 7) F hH rfl (by decide) hw_9 (by decide) (by decide) dX11_set_47 (fun H locs w121 hw122 hne123 hH => ?_)
        refine lv_aload_n hx hb dX11_set_48 rfl (lv_at hl 1 rfl) ?_
        have hw124 : w121 0 = .inr (11, [.ref (ad 4), .ref (ad 14), .ref (ad 156), .ref (ad 221), .ref (ad 225), .ref (ad 233), .ref (ad 236), .int (0 : Int32), .ref (ad 237), .int (0 : Int32), .ref (ad 238)]) := (hne123 0 (by decide)).trans (hw_0)
        refine tw_get (r := 0) F hH kf_RX11_24 rfl (by decide) hw124 rfl dX11_set_49 ?_
        refine lv_iconst (v := 0) hx hb dX11_set_52 (by decide) ?_
        have hw125 : w121 14 = .inr (2, [.ref (ad 4), .ref (ad 1), .ref (ad 15), .ref (ad 16), .ref (ad 17), .int (0 : Int32), .int (0 : Int32), .int (0 : Int32)]) := (hne123 14 (by decide)).trans (hw_14)
        refine tw_put (r := 14) F hH kf_RX11_84 kp_X2_7 rfl (by decide) hw125 (Nat.le_of_ble_eq_true rfl) rfl rfl dX11_set_53 (fun H locs w126 hw127 hne128 hH => ?_)
        have hw127 : w126 14 = .inr (2, [.ref (ad 4), .ref (ad 1), .ref (ad 15), .ref (ad 16), .ref (ad 17), .int (0 : Int32), .int (0 : Int32), .int (0 : Int32)]) := hw127
        refine lv_iload_n hx hb dX11_set_56 rfl (lv_at hl 0 rfl) ?_
        exact tw_iret F hH hret hlk rfl (Nat.le_of_ble_eq_true rfl) (Nat.le_of_ble_eq_true rfl) dX11_set_57 (Or.inr (Or.inr (Or.inr (Or.inr (Or.inr (Or.inr (Or.inr (Or.inr (⟨rfl, (by omega)⟩)))))))))
set_option maxHeartbeats 4000000 in
set_option maxRecDepth 100000 in
theorem c_X7_isFull (l : Launch) (G : tw_G) (ad : Nat → Nat) (w : Nat → va_E) (sz : Nat) (hw_10 : w 10 = .inr (7, [.int (30 : Int32), .int (3 : Int32), .ref (ad 11), .int (0 : Int32)])) : Met l yX7_isFull (tw_ws yX7_isFull cX7_isFull 1 (some .boolean)) ({ frames := 0, cells := 0, slots := 0, locals := 0 }) (tw_Pre G 244 ad w sz [.ref (ad 10)]) (tw_Qi G 244 ad (fun r w1 => ((0 : Int32) = r ∧ True ∧ w = w1)) sz) 0 0 (tw_A 244 ad sz) := by
  refine tw_met (by decide) (Nat.le_of_ble_eq_true rfl) ?_
  intro p e s m args below meth c F hret hlk hin hargs hsz hH ls hl
  have hx := F.1.1
  have hb := F.1.2.1
  have hown := F.1.2.2.2.1
  have hts := F.1.2.2.2.2
  have hl : lv_has ls 1 [(0, .ref (ad 10))] := hl
  generalize hH0 : s.heap = H at hH ⊢
  refine lv_aload_n hx hb dX7_isFull_0 rfl (lv_at hl 0 rfl) ?_
  refine tw_get (r := 10) F hH kf_RX7_28 rfl (by decide) hw_10 rfl dX7_isFull_1 ?_
  refine lv_aload_n hx hb dX7_isFull_4 rfl (lv_at hl 0 rfl) ?_
  refine tw_get (r := 10) F hH kf_RX7_9 rfl (by decide) hw_10 rfl dX7_isFull_5 ?_
  refine lv_icmp_lt (tgt := 15) hx hb dX7_isFull_8 (by decide) (fun _ => ?_) (fun c => absurd c (by decide))
  refine lv_iconst (v := 0) hx hb dX7_isFull_15 (by decide) ?_
  exact tw_iret F hH hret hlk rfl (Nat.le_of_ble_eq_true rfl) (Nat.le_of_ble_eq_true rfl) dX7_isFull_16 (⟨rfl, trivial, rfl⟩)
set_option maxHeartbeats 4000000 in
set_option maxRecDepth 100000 in
theorem c_X7_put (l : Launch) (G : tw_G) (ad : Nat → Nat) (w : Nat → va_E) (sz : Nat) (x3 : Int32) (z3 : Int) (e3 : x3.toInt = z3) (hw_10 : w 10 = .inr (7, [.int (30 : Int32), .int (3 : Int32), .ref (ad 11), .int (1 : Int32)])) (hw_11 : w 11 = .inl (G.2.1 0, 90, .inl (fun _ => 0))) : Met l yX7_put (tw_ws yX7_put cX7_put 4 none) ({ frames := 0, cells := 0, slots := 0, locals := 0 }) (tw_Pre G 244 ad w sz [.ref (ad 10), .int (0 : Int32), .int (0 : Int32), .int x3]) (tw_Qv G 244 ad (fun w1 => (True ∧ w1 11 = .inl (G.2.1 0, 90, .inl (upd (fun _ => 0) 0 x3)) ∧ ∀ k, k ≠ 11 → w1 k = w k)) sz) 0 0 (tw_A 244 ad sz) := by
  refine tw_met (by decide) (Nat.le_of_ble_eq_true rfl) ?_
  intro p e s m args below meth c F hret hlk hin hargs hsz hH ls hl
  have hx := F.1.1
  have hb := F.1.2.1
  have hown := F.1.2.2.2.1
  have hts := F.1.2.2.2.2
  have hl : lv_has ls 4 [(0, .ref (ad 10)), (1, .int (0 : Int32)), (2, .int (0 : Int32)), (3, .int x3)] := hl
  generalize hH0 : s.heap = H at hH ⊢
  refine lv_iload_n hx hb dX7_put_0 rfl (lv_at hl 1 rfl) ?_
  refine lv_if_lt (tgt := 38) hx hb dX7_put_1 (by decide) (fun c => absurd c (by decide)) (fun _ => ?_)
  refine lv_iload_n hx hb dX7_put_4 rfl (lv_at hl 1 rfl) ?_
  refine lv_aload_n hx hb dX7_put_5 rfl (lv_at hl 0 rfl) ?_
  refine tw_get (r := 10) F hH kf_RX7_28 rfl (by decide) hw_10 rfl dX7_put_6 ?_
  refine lv_icmp_ge (tgt := 38) hx hb dX7_put_9 (by decide) (fun c => absurd c (by decide)) (fun _ => ?_)
  refine lv_iload_n hx hb dX7_put_12 rfl (lv_at hl 2 rfl) ?_
  refine lv_if_lt (tgt := 38) hx hb dX7_put_13 (by decide) (fun c => absurd c (by decide)) (fun _ => ?_)
  refine lv_iload_n hx hb dX7_put_16 rfl (lv_at hl 2 rfl) ?_
  refine lv_aload_n hx hb dX7_put_17 rfl (lv_at hl 0 rfl) ?_
  refine tw_get (r := 10) F hH kf_RX7_15 rfl (by decide) hw_10 rfl dX7_put_18 ?_
  refine lv_icmp_ge (tgt := 38) hx hb dX7_put_21 (by decide) (fun c => absurd c (by decide)) (fun _ => ?_)
  refine lv_aload_n hx hb dX7_put_24 rfl (lv_at hl 0 rfl) ?_
  refine tw_get (r := 10) F hH kf_RX7_24 rfl (by decide) hw_10 rfl dX7_put_25 ?_
  refine lv_iload_n hx hb dX7_put_28 rfl (lv_at hl 1 rfl) ?_
  refine lv_aload_n hx hb dX7_put_29 rfl (lv_at hl 0 rfl) ?_
  refine tw_get (r := 10) F hH kf_RX7_15 rfl (by decide) hw_10 rfl dX7_put_30 ?_
  refine lv_imul hx hb dX7_put_33 ?_
  refine tw_cv (v := (0 : Int32)) (by decide) ?_
  refine lv_iload_n hx hb dX7_put_34 rfl (lv_at hl 2 rfl) ?_
  refine lv_iadd hx hb dX7_put_35 ?_
  refine tw_cv (v := (0 : Int32)) (by decide) ?_
  refine lv_iload_n hx hb dX7_put_36 rfl (lv_at hl 3 rfl) ?_
  refine tw_iast (r := 11) (j := 0) F hH rfl (by decide) hw_11 (by decide) (by decide) dX7_put_37 (fun H locs w5 hw6 hne7 hH => ?_)
  exact tw_vret F hH hret hlk (Nat.le_of_ble_eq_true rfl) (Nat.le_of_ble_eq_true rfl) dX7_put_38 (⟨trivial, hw6, fun k h0 => (hne7 k (by omega))⟩)
set_option maxHeartbeats 4000000 in
set_option maxRecDepth 100000 in
theorem c_X7_put_v2 (l : Launch) (G : tw_G) (ad : Nat → Nat) (w : Nat → va_E) (sz : Nat) (x3 : Int32) (z3 : Int) (e3 : x3.toInt = z3) {f11 : Nat → Int32} (hw_10 : w 10 = .inr (7, [.int (30 : Int32), .int (3 : Int32), .ref (ad 11), .int (1 : Int32)])) (hw_11 : w 11 = .inl (G.2.1 0, 90, .inl f11)) : Met l yX7_put (tw_ws yX7_put cX7_put 4 none) ({ frames := 0, cells := 0, slots := 0, locals := 0 }) (tw_Pre G 244 ad w sz [.ref (ad 10), .int (0 : Int32), .int (1 : Int32), .int x3]) (tw_Qv G 244 ad (fun w1 => (True ∧ w1 11 = .inl (G.2.1 0, 90, .inl (upd f11 1 x3)) ∧ ∀ k, k ≠ 11 → w1 k = w k)) sz) 0 0 (tw_A 244 ad sz) := by
  refine tw_met (by decide) (Nat.le_of_ble_eq_true rfl) ?_
  intro p e s m args below meth c F hret hlk hin hargs hsz hH ls hl
  have hx := F.1.1
  have hb := F.1.2.1
  have hown := F.1.2.2.2.1
  have hts := F.1.2.2.2.2
  have hl : lv_has ls 4 [(0, .ref (ad 10)), (1, .int (0 : Int32)), (2, .int (1 : Int32)), (3, .int x3)] := hl
  generalize hH0 : s.heap = H at hH ⊢
  refine lv_iload_n hx hb dX7_put_0 rfl (lv_at hl 1 rfl) ?_
  refine lv_if_lt (tgt := 38) hx hb dX7_put_1 (by decide) (fun c => absurd c (by decide)) (fun _ => ?_)
  refine lv_iload_n hx hb dX7_put_4 rfl (lv_at hl 1 rfl) ?_
  refine lv_aload_n hx hb dX7_put_5 rfl (lv_at hl 0 rfl) ?_
  refine tw_get (r := 10) F hH kf_RX7_28 rfl (by decide) hw_10 rfl dX7_put_6 ?_
  refine lv_icmp_ge (tgt := 38) hx hb dX7_put_9 (by decide) (fun c => absurd c (by decide)) (fun _ => ?_)
  refine lv_iload_n hx hb dX7_put_12 rfl (lv_at hl 2 rfl) ?_
  refine lv_if_lt (tgt := 38) hx hb dX7_put_13 (by decide) (fun c => absurd c (by decide)) (fun _ => ?_)
  refine lv_iload_n hx hb dX7_put_16 rfl (lv_at hl 2 rfl) ?_
  refine lv_aload_n hx hb dX7_put_17 rfl (lv_at hl 0 rfl) ?_
  refine tw_get (r := 10) F hH kf_RX7_15 rfl (by decide) hw_10 rfl dX7_put_18 ?_
  refine lv_icmp_ge (tgt := 38) hx hb dX7_put_21 (by decide) (fun c => absurd c (by decide)) (fun _ => ?_)
  refine lv_aload_n hx hb dX7_put_24 rfl (lv_at hl 0 rfl) ?_
  refine tw_get (r := 10) F hH kf_RX7_24 rfl (by decide) hw_10 rfl dX7_put_25 ?_
  refine lv_iload_n hx hb dX7_put_28 rfl (lv_at hl 1 rfl) ?_
  refine lv_aload_n hx hb dX7_put_29 rfl (lv_at hl 0 rfl) ?_
  refine tw_get (r := 10) F hH kf_RX7_15 rfl (by decide) hw_10 rfl dX7_put_30 ?_
  refine lv_imul hx hb dX7_put_33 ?_
  refine tw_cv (v := (0 : Int32)) (by decide) ?_
  refine lv_iload_n hx hb dX7_put_34 rfl (lv_at hl 2 rfl) ?_
  refine lv_iadd hx hb dX7_put_35 ?_
  refine tw_cv (v := (1 : Int32)) (by decide) ?_
  refine lv_iload_n hx hb dX7_put_36 rfl (lv_at hl 3 rfl) ?_
  refine tw_iast (r := 11) (j := 1) F hH rfl (by decide) hw_11 (by decide) (by decide) dX7_put_37 (fun H locs w5 hw6 hne7 hH => ?_)
  exact tw_vret F hH hret hlk (Nat.le_of_ble_eq_true rfl) (Nat.le_of_ble_eq_true rfl) dX7_put_38 (⟨trivial, hw6, fun k h0 => (hne7 k (by omega))⟩)
set_option maxHeartbeats 4000000 in
set_option maxRecDepth 100000 in
theorem c_X7_put_v3 (l : Launch) (G : tw_G) (ad : Nat → Nat) (w : Nat → va_E) (sz : Nat) (x3 : Int32) (z3 : Int) (e3 : x3.toInt = z3) {f11 : Nat → Int32} (hw_10 : w 10 = .inr (7, [.int (30 : Int32), .int (3 : Int32), .ref (ad 11), .int (1 : Int32)])) (hw_11 : w 11 = .inl (G.2.1 0, 90, .inl f11)) : Met l yX7_put (tw_ws yX7_put cX7_put 4 none) ({ frames := 0, cells := 0, slots := 0, locals := 0 }) (tw_Pre G 244 ad w sz [.ref (ad 10), .int (0 : Int32), .int (2 : Int32), .int x3]) (tw_Qv G 244 ad (fun w1 => (True ∧ w1 11 = .inl (G.2.1 0, 90, .inl (upd f11 2 x3)) ∧ ∀ k, k ≠ 11 → w1 k = w k)) sz) 0 0 (tw_A 244 ad sz) := by
  refine tw_met (by decide) (Nat.le_of_ble_eq_true rfl) ?_
  intro p e s m args below meth c F hret hlk hin hargs hsz hH ls hl
  have hx := F.1.1
  have hb := F.1.2.1
  have hown := F.1.2.2.2.1
  have hts := F.1.2.2.2.2
  have hl : lv_has ls 4 [(0, .ref (ad 10)), (1, .int (0 : Int32)), (2, .int (2 : Int32)), (3, .int x3)] := hl
  generalize hH0 : s.heap = H at hH ⊢
  refine lv_iload_n hx hb dX7_put_0 rfl (lv_at hl 1 rfl) ?_
  refine lv_if_lt (tgt := 38) hx hb dX7_put_1 (by decide) (fun c => absurd c (by decide)) (fun _ => ?_)
  refine lv_iload_n hx hb dX7_put_4 rfl (lv_at hl 1 rfl) ?_
  refine lv_aload_n hx hb dX7_put_5 rfl (lv_at hl 0 rfl) ?_
  refine tw_get (r := 10) F hH kf_RX7_28 rfl (by decide) hw_10 rfl dX7_put_6 ?_
  refine lv_icmp_ge (tgt := 38) hx hb dX7_put_9 (by decide) (fun c => absurd c (by decide)) (fun _ => ?_)
  refine lv_iload_n hx hb dX7_put_12 rfl (lv_at hl 2 rfl) ?_
  refine lv_if_lt (tgt := 38) hx hb dX7_put_13 (by decide) (fun c => absurd c (by decide)) (fun _ => ?_)
  refine lv_iload_n hx hb dX7_put_16 rfl (lv_at hl 2 rfl) ?_
  refine lv_aload_n hx hb dX7_put_17 rfl (lv_at hl 0 rfl) ?_
  refine tw_get (r := 10) F hH kf_RX7_15 rfl (by decide) hw_10 rfl dX7_put_18 ?_
  refine lv_icmp_ge (tgt := 38) hx hb dX7_put_21 (by decide) (fun c => absurd c (by decide)) (fun _ => ?_)
  refine lv_aload_n hx hb dX7_put_24 rfl (lv_at hl 0 rfl) ?_
  refine tw_get (r := 10) F hH kf_RX7_24 rfl (by decide) hw_10 rfl dX7_put_25 ?_
  refine lv_iload_n hx hb dX7_put_28 rfl (lv_at hl 1 rfl) ?_
  refine lv_aload_n hx hb dX7_put_29 rfl (lv_at hl 0 rfl) ?_
  refine tw_get (r := 10) F hH kf_RX7_15 rfl (by decide) hw_10 rfl dX7_put_30 ?_
  refine lv_imul hx hb dX7_put_33 ?_
  refine tw_cv (v := (0 : Int32)) (by decide) ?_
  refine lv_iload_n hx hb dX7_put_34 rfl (lv_at hl 2 rfl) ?_
  refine lv_iadd hx hb dX7_put_35 ?_
  refine tw_cv (v := (2 : Int32)) (by decide) ?_
  refine lv_iload_n hx hb dX7_put_36 rfl (lv_at hl 3 rfl) ?_
  refine tw_iast (r := 11) (j := 2) F hH rfl (by decide) hw_11 (by decide) (by decide) dX7_put_37 (fun H locs w5 hw6 hne7 hH => ?_)
  exact tw_vret F hH hret hlk (Nat.le_of_ble_eq_true rfl) (Nat.le_of_ble_eq_true rfl) dX7_put_38 (⟨trivial, hw6, fun k h0 => (hne7 k (by omega))⟩)
set_option maxHeartbeats 4000000 in
set_option maxRecDepth 100000 in
theorem c_X7_put_v4 (l : Launch) (G : tw_G) (ad : Nat → Nat) (w : Nat → va_E) (sz : Nat) (hw_10 : w 10 = .inr (7, [.int (30 : Int32), .int (3 : Int32), .ref (ad 11), .int (1 : Int32)])) : Met l yX7_put (tw_ws yX7_put cX7_put 4 none) ({ frames := 0, cells := 0, slots := 0, locals := 0 }) (tw_Pre G 244 ad w sz [.ref (ad 10), .int (0 : Int32), .int (3 : Int32), .int (0 : Int32)]) (tw_Qv G 244 ad (fun w1 => (True ∧ w = w1)) sz) 0 0 (tw_A 244 ad sz) := by
  refine tw_met (by decide) (Nat.le_of_ble_eq_true rfl) ?_
  intro p e s m args below meth c F hret hlk hin hargs hsz hH ls hl
  have hx := F.1.1
  have hb := F.1.2.1
  have hown := F.1.2.2.2.1
  have hts := F.1.2.2.2.2
  have hl : lv_has ls 4 [(0, .ref (ad 10)), (1, .int (0 : Int32)), (2, .int (3 : Int32)), (3, .int (0 : Int32))] := hl
  generalize hH0 : s.heap = H at hH ⊢
  refine lv_iload_n hx hb dX7_put_0 rfl (lv_at hl 1 rfl) ?_
  refine lv_if_lt (tgt := 38) hx hb dX7_put_1 (by decide) (fun c => absurd c (by decide)) (fun _ => ?_)
  refine lv_iload_n hx hb dX7_put_4 rfl (lv_at hl 1 rfl) ?_
  refine lv_aload_n hx hb dX7_put_5 rfl (lv_at hl 0 rfl) ?_
  refine tw_get (r := 10) F hH kf_RX7_28 rfl (by decide) hw_10 rfl dX7_put_6 ?_
  refine lv_icmp_ge (tgt := 38) hx hb dX7_put_9 (by decide) (fun c => absurd c (by decide)) (fun _ => ?_)
  refine lv_iload_n hx hb dX7_put_12 rfl (lv_at hl 2 rfl) ?_
  refine lv_if_lt (tgt := 38) hx hb dX7_put_13 (by decide) (fun c => absurd c (by decide)) (fun _ => ?_)
  refine lv_iload_n hx hb dX7_put_16 rfl (lv_at hl 2 rfl) ?_
  refine lv_aload_n hx hb dX7_put_17 rfl (lv_at hl 0 rfl) ?_
  refine tw_get (r := 10) F hH kf_RX7_15 rfl (by decide) hw_10 rfl dX7_put_18 ?_
  refine lv_icmp_ge (tgt := 38) hx hb dX7_put_21 (by decide) (fun _ => ?_) (fun c => absurd c (by decide))
  exact tw_vret F hH hret hlk (Nat.le_of_ble_eq_true rfl) (Nat.le_of_ble_eq_true rfl) dX7_put_38 (⟨trivial, rfl⟩)
