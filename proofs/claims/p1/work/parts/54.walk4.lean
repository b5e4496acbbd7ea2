set_option maxHeartbeats 4000000 in
set_option maxRecDepth 100000 in
theorem c_X7_push (l : Launch) (G : tw_G) (ad : Nat → Nat) (w : Nat → va_E) (sz : Nat) (x1 : Int32) (z1 : Int) (e1 : x1.toInt = z1) (x2 : Int32) (z2 : Int) (e2 : x2.toInt = z2) (x3 : Int32) (z3 : Int) (e3 : x3.toInt = z3) (hw_10 : w 10 = .inr (7, [.int (30 : Int32), .int (3 : Int32), .ref (ad 11), .int (0 : Int32)])) (hw_11 : w 11 = .inl (G.2.1 0, 90, .inl (fun _ => 0))) : Met l yX7_push (tw_ws yX7_push cX7_push 5 (some .int)) ({ frames := 1, cells := 0, slots := 0, locals := 23 }) (tw_Pre G 244 ad w sz [.ref (ad 10), .int x1, .int x2, .int x3, .int (0 : Int32)]) (tw_Qi G 244 ad (fun r w1 => ((1 : Int32) = r ∧ True ∧ w1 10 = .inr (7, [.int (30 : Int32), .int (3 : Int32), .ref (ad 11), .int (1 : Int32)]) ∧ w1 11 = .inl (G.2.1 0, 90, .inl (upd (upd (upd (fun _ => 0) 0 x1) 1 x2) 2 x3)) ∧ ∀ k, k ≠ 10 → k ≠ 11 → w1 k = w k)) sz) 0 0 (tw_A 244 ad sz) := by
  refine tw_met (by decide) (Nat.le_of_ble_eq_true rfl) ?_
  intro p e s m args below meth c F hret hlk hin hargs hsz hH ls hl
  have hx := F.1.1
  have hb := F.1.2.1
  have hown := F.1.2.2.2.1
  have hts := F.1.2.2.2.2
  have hl : lv_has ls 5 [(0, .ref (ad 10)), (1, .int x1), (2, .int x2), (3, .int x3), (4, .int (0 : Int32))] := hl
  generalize hH0 : s.heap = H at hH ⊢
  refine lv_aload_n hx hb dX7_push_0 rfl (lv_at hl 0 rfl) ?_
  refine tw_calli F hH (tw_runV (r := 10) (As := []) (rest := []) F hH (c_X7_isFull l G ad w H.size hw_10) (tw_gl kw_595 rfl) km_X7_isFull kv_X7_isFull rfl rfl ⟨(Nat.le_of_ble_eq_true rfl), (Nat.le_of_ble_eq_true rfl)⟩ (by decide) hw_10 rfl rfl hl.1 rfl (Nat.le_of_ble_eq_true rfl) dX7_push_1 ⟨(Nat.le_of_ble_eq_true rfl), (Nat.le_of_ble_eq_true rfl)⟩) (fun r3 w1 H locs hp2 _ hH => ?_)
  obtain ⟨rfl, -, rfl⟩ := hp2
  refine lv_if_eq (tgt := 9) hx hb dX7_push_4 (by decide) (fun _ => ?_) (fun c => absurd c (by decide))
  refine lv_aload_n hx hb dX7_push_9 rfl (lv_at hl 0 rfl) ?_
  refine lv_dup hx hb dX7_push_10 rfl ?_
  refine tw_get (r := 10) F hH kf_RX7_28 rfl (by decide) hw_10 rfl dX7_push_11 ?_
  refine lv_iconst (v := 1) hx hb dX7_push_14 (by decide) ?_
  refine lv_iadd hx hb dX7_push_15 ?_
  refine tw_cv (v := (1 : Int32)) (by decide) ?_
  refine tw_put (r := 10) F hH kf_RX7_28 kp_X7_3 rfl (by decide) hw_10 (Nat.le_of_ble_eq_true rfl) rfl rfl dX7_push_16 (fun H locs w6 hw7 hne8 hH => ?_)
  have hw7 : w6 10 = .inr (7, [.int (30 : Int32), .int (3 : Int32), .ref (ad 11), .int (1 : Int32)]) := hw7
  refine lv_aload_n hx hb dX7_push_19 rfl (lv_at hl 0 rfl) ?_
  refine lv_aload_n hx hb dX7_push_20 rfl (lv_at hl 0 rfl) ?_
  refine tw_get (r := 10) F hH kf_RX7_28 rfl (by decide) hw7 rfl dX7_push_21 ?_
  refine lv_iconst (v := 1) hx hb dX7_push_24 (by decide) ?_
  refine lv_isub hx hb dX7_push_25 ?_
  refine tw_cv (v := (0 : Int32)) (by decide) ?_
  refine lv_iconst (v := 0) hx hb dX7_push_26 (by decide) ?_
  refine lv_iload_n hx hb dX7_push_27 rfl (lv_at hl 1 rfl) ?_
  have hw9 : w6 11 = .inl (G.2.1 0, 90, .inl (fun _ => 0)) := (hne8 11 (by decide)).trans (hw_11)
  refine tw_callv F hH (tw_runV (r := 10) (As := [.int (0 : Int32), .int (0 : Int32), .int x1]) (rest := []) F hH (c_X7_put l G ad w6 H.size x1 (z1) e1 hw7 hw9) (tw_gl kw_599 rfl) km_X7_put kv_X7_put rfl rfl ⟨(Nat.le_of_ble_eq_true rfl), (Nat.le_of_ble_eq_true rfl)⟩ (by decide) hw7 rfl rfl hl.1 rfl (Nat.le_of_ble_eq_true rfl) dX7_push_28 ⟨(Nat.le_of_ble_eq_true rfl), (Nat.le_of_ble_eq_true rfl)⟩) (fun w10 H locs hp11 _ hH => ?_)
  obtain ⟨-, hw13, hfr14⟩ := hp11
  refine lv_aload_n hx hb dX7_push_31 rfl (lv_at hl 0 rfl) ?_
  refine lv_aload_n hx hb dX7_push_32 rfl (lv_at hl 0 rfl) ?_
  have hw15 : w10 10 = .inr (7, [.int (30 : Int32), .int (3 : Int32), .ref (ad 11), .int (1 : Int32)]) := (hfr14 10 (by omega)).trans (hw7)
  refine tw_get (r := 10) F hH kf_RX7_28 rfl (by decide) hw15 rfl dX7_push_33 ?_
  refine lv_iconst (v := 1) hx hb dX7_push_36 (by decide) ?_
  refine lv_isub hx hb dX7_push_37 ?_
  refine tw_cv (v := (0 : Int32)) (by decide) ?_
  refine lv_iconst (v := 1) hx hb dX7_push_38 (by decide) ?_
  refine lv_iload_n hx hb dX7_push_39 rfl (lv_at hl 2 rfl) ?_
  refine tw_callv F hH (tw_runV (r := 10) (As := [.int (0 : Int32), .int (1 : Int32), .int x2]) (rest := []) F hH (c_X7_put_v2 l G ad w10 H.size x2 (z2) e2 hw15 hw13) (tw_gl kw_599 rfl) km_X7_put kv_X7_put rfl rfl ⟨(Nat.le_of_ble_eq_true rfl), (Nat.le_of_ble_eq_true rfl)⟩ (by decide) hw15 rfl rfl hl.1 rfl (Nat.le_of_ble_eq_true rfl) dX7_push_40 ⟨(Nat.le_of_ble_eq_true rfl), (Nat.le_of_ble_eq_true rfl)⟩) (fun w16 H locs hp17 _ hH => ?_)
  obtain ⟨-, hw19, hfr20⟩ := hp17
  refine lv_aload_n hx hb dX7_push_43 rfl (lv_at hl 0 rfl) ?_
  refine lv_aload_n hx hb dX7_push_44 rfl (lv_at hl 0 rfl) ?_
  have hw21 : w16 10 = .inr (7, [.int (30 : Int32), .int (3 : Int32), .ref (ad 11), .int (1 : Int32)]) := (hfr20 10 (by omega)).trans (hw15)
  refine tw_get (r := 10) F hH kf_RX7_28 rfl (by decide) hw21 rfl dX7_push_45 ?_
  refine lv_iconst (v := 1) hx hb dX7_push_48 (by decide) ?_
  refine lv_isub hx hb dX7_push_49 ?_
  refine tw_cv (v := (0 : Int32)) (by decide) ?_
  refine lv_iconst (v := 2) hx hb dX7_push_50 (by decide) ?_
  refine lv_iload_n hx hb dX7_push_51 rfl (lv_at hl 3 rfl) ?_
  refine tw_callv F hH (tw_runV (r := 10) (As := [.int (0 : Int32), .int (2 : Int32), .int x3]) (rest := []) F hH (c_X7_put_v3 l G ad w16 H.size x3 (z3) e3 hw21 hw19) (tw_gl kw_599 rfl) km_X7_put kv_X7_put rfl rfl ⟨(Nat.le_of_ble_eq_true rfl), (Nat.le_of_ble_eq_true rfl)⟩ (by decide) hw21 rfl rfl hl.1 rfl (Nat.le_of_ble_eq_true rfl) dX7_push_52 ⟨(Nat.le_of_ble_eq_true rfl), (Nat.le_of_ble_eq_true rfl)⟩) (fun w22 H locs hp23 _ hH => ?_)
  obtain ⟨-, hw25, hfr26⟩ := hp23
  refine lv_aload_n hx hb dX7_push_55 rfl (lv_at hl 0 rfl) ?_
  refine lv_aload_n hx hb dX7_push_56 rfl (lv_at hl 0 rfl) ?_
  have hw27 : w22 10 = .inr (7, [.int (30 : Int32), .int (3 : Int32), .ref (ad 11), .int (1 : Int32)]) := (hfr26 10 (by omega)).trans (hw21)
  refine tw_get (r := 10) F hH kf_RX7_28 rfl (by decide) hw27 rfl dX7_push_57 ?_
  refine lv_iconst (v := 1) hx hb dX7_push_60 (by decide) ?_
  refine lv_isub hx hb dX7_push_61 ?_
  refine tw_cv (v := (0 : Int32)) (by decide) ?_
  refine lv_iconst (v := 3) hx hb dX7_push_62 (by decide) ?_
  refine lv_iload hx hb dX7_push_63 (lv_at hl 4 rfl) ?_
  refine tw_callv F hH (tw_runV (r := 10) (As := [.int (0 : Int32), .int (3 : Int32), .int (0 : Int32)]) (rest := []) F hH (c_X7_put_v4 l G ad w22 H.size hw27) (tw_gl kw_599 rfl) km_X7_put kv_X7_put rfl rfl ⟨(Nat.le_of_ble_eq_true rfl), (Nat.le_of_ble_eq_true rfl)⟩ (by decide) hw27 rfl rfl hl.1 rfl (Nat.le_of_ble_eq_true rfl) dX7_push_65 ⟨(Nat.le_of_ble_eq_true rfl), (Nat.le_of_ble_eq_true rfl)⟩) (fun w28 H locs hp29 _ hH => ?_)
  obtain ⟨-, rfl⟩ := hp29
  refine lv_aload_n hx hb dX7_push_68 rfl (lv_at hl 0 rfl) ?_
  refine tw_get (r := 10) F hH kf_RX7_28 rfl (by decide) hw27 rfl dX7_push_69 ?_
  exact tw_iret F hH hret hlk rfl (Nat.le_of_ble_eq_true rfl) (Nat.le_of_ble_eq_true rfl) dX7_push_72 (⟨rfl, trivial, hw27, hw25, fun k h0 h1 => ((hfr26 k (by omega)).trans ((hfr20 k (by omega)).trans ((hfr14 k (by omega)).trans (hne8 k (by omega)))))⟩)
set_option maxHeartbeats 4000000 in
set_option maxRecDepth 100000 in
theorem c_X11_rain (l : Launch) (G : tw_G) (ad : Nat → Nat) (w : Nat → va_E) (sz : Nat) (x1 : Int32) (z1 : Int) (e1 : x1.toInt = z1) (x2 : Int32) (z2 : Int) (e2 : x2.toInt = z2) (x3 : Int32) (z3 : Int) (e3 : x3.toInt = z3) (hw_0 : w 0 = .inr (11, [.ref (ad 4), .ref (ad 14), .ref (ad 156), .ref (ad 221), .ref (ad 225), .ref (ad 233), .ref (ad 236), .int (0 : Int32), .ref (ad 237), .int (0 : Int32), .ref (ad 238)])) (hw_4 : w 4 = .inr (9, [.int (2 : Int32), .int (1 : Int32), .ref (ad 5), .ref (ad 6), .ref (ad 7), .ref (ad 8), .ref (ad 9), .ref (ad 10), .ref (ad 12)])) (hw_14 : w 14 = .inr (2, [.ref (ad 4), .ref (ad 1), .ref (ad 15), .ref (ad 16), .ref (ad 17), .int (0 : Int32), .int (0 : Int32), .int (0 : Int32)])) (hw_10 : w 10 = .inr (7, [.int (30 : Int32), .int (3 : Int32), .ref (ad 11), .int (0 : Int32)])) (hw_11 : w 11 = .inl (G.2.1 0, 90, .inl (fun _ => 0))) : Met l yX11_rain (tw_ws yX11_rain cX11_rain 4 (some .int)) ({ frames := 2, cells := 0, slots := 0, locals := 47 }) (tw_Pre G 244 ad w sz [.ref (ad 0), .int x1, .int x2, .int x3]) (tw_Qi G 244 ad (fun r w1 => ((-1 : Int32) = r ∧ ((((((z1 < 0)) ∨ ((¬ (z1 < 0)) ∧ (2 ≤ z1))))) ∨ ((((¬ (z1 < 0)) ∧ (¬ (2 ≤ z1)))) ∧ (z2 < 0)) ∨ ((((¬ (z1 < 0)) ∧ (¬ (2 ≤ z1)))) ∧ (¬ (z2 < 0)) ∧ (((z3 < 0)) ∨ ((¬ (z3 < 0)) ∧ (100 < z3)))))) ∨ ((1 : Int32) = r ∧ ((((¬ (z1 < 0)) ∧ (¬ (2 ≤ z1)))) ∧ (¬ (z2 < 0)) ∧ ((¬ (z3 < 0)) ∧ (¬ (100 < z3)))))) sz) 0 0 (tw_A 244 ad sz) := by
  refine tw_met (by decide) (Nat.le_of_ble_eq_true rfl) ?_
  intro p e s m args below meth c F hret hlk hin hargs hsz hH ls hl
  have hx := F.1.1
  have hb := F.1.2.1
  have hown := F.1.2.2.2.1
  have hts := F.1.2.2.2.2
  have hl : lv_has ls 4 [(0, .ref (ad 0)), (1, .int x1), (2, .int x2), (3, .int x3)] := hl
  generalize hH0 : s.heap = H at hH ⊢
  refine lv_aload_n hx hb dX11_rain_0 rfl (lv_at hl 0 rfl) ?_
  refine tw_get (r := 0) F hH kf_RX11_15 rfl (by decide) hw_0 rfl dX11_rain_1 ?_
  refine lv_iload_n hx hb dX11_rain_4 rfl (lv_at hl 1 rfl) ?_
  refine tw_calli F hH (tw_runV (r := 4) (As := [.int x1]) (rest := []) F hH (c_X9_hasSector l G ad w H.size x1 (z1) e1 hw_4) (tw_gl kw_557 rfl) km_X9_hasSector kv_X9_hasSector rfl rfl ⟨(Nat.le_of_ble_eq_true rfl), (Nat.le_of_ble_eq_true rfl)⟩ (by decide) hw_4 rfl rfl hl.1 rfl (Nat.le_of_ble_eq_true rfl) dX11_rain_5 ⟨(Nat.le_of_ble_eq_true rfl), (Nat.le_of_ble_eq_true rfl)⟩) (fun r3 w1 H locs hp2 _ hH => ?_)
  rcases hp2 with ⟨rfl, hc4, rfl⟩ | ⟨rfl, hc5, rfl⟩
  · skip
    refine lv_if_eq (tgt := 25) hx hb dX11_rain_8 (by decide) (fun _ => ?_) (fun c => absurd c (by decide))
    refine lv_iconst (v := -1) hx hb dX11_rain_25 (by decide) ?_
    exact tw_iret F hH hret hlk rfl (Nat.le_of_ble_eq_true rfl) (Nat.le_of_ble_eq_true rfl) dX11_rain_26 (Or.inl (⟨rfl, (Or.inl (by omega))⟩))
  · skip
    refine lv_if_eq (tgt := 25) hx hb dX11_rain_8 (by decide) (fun c => absurd c (by decide)) (fun _ => ?_)
    refine lv_iload_n hx hb dX11_rain_11 rfl (lv_at hl 2 rfl) ?_
    refine lv_if_lt (tgt := 25) hx hb dX11_rain_12 (by decide) (fun c8 => ?_) (fun c8 => ?_)
    · have c8 := (tw_lt e2 (by decide : (0 : Int32).toInt = 0)).mp c8
      refine lv_iconst (v := -1) hx hb dX11_rain_25 (by decide) ?_
      exact tw_iret F hH hret hlk rfl (Nat.le_of_ble_eq_true rfl) (Nat.le_of_ble_eq_true rfl) dX11_rain_26 (Or.inl (⟨rfl, (Or.inr (Or.inl (by omega)))⟩))
    · have c8 := mt (tw_lt e2 (by decide : (0 : Int32).toInt = 0)).mpr c8
      refine lv_iload_n hx hb dX11_rain_15 rfl (lv_at hl 3 rfl) ?_
      refine lv_iconst (v := 0) hx hb dX11_rain_16 (by decide) ?_
      refine lv_bipush (v := 100) hx hb dX11_rain_17 (by decide) ?_
      refine tw_calli F hH (tw_runS (As := [.int x3, .int (0 : Int32), .int (100 : Int32)]) (rest := []) F hH (c_X11_isWithin l G 244 ad w H.size x3 (z3) e3 (0 : Int32) 0 (by decide : (0 : Int32).toInt = 0) (100 : Int32) 100 (by decide : (100 : Int32).toInt = 100)) (tw_gl kw_565 rfl) km_X11_isWithin (tw_gl kw_566 rfl) rfl rfl ⟨(Nat.le_of_ble_eq_true rfl), (Nat.le_of_ble_eq_true rfl)⟩ rfl hl.1 rfl (Nat.le_of_ble_eq_true rfl) dX11_rain_19 ⟨(Nat.le_of_ble_eq_true rfl), (Nat.le_of_ble_eq_true rfl)⟩) (fun r11 w9 H locs hp10 _ hH => ?_)
      rcases hp10 with ⟨rfl, hc12, rfl⟩ | ⟨rfl, hc13, rfl⟩
      · skip
        refine lv_if_ne (tgt := 27) hx hb dX11_rain_22 (by decide) (fun c => absurd c (by decide)) (fun _ => ?_)
        refine lv_iconst (v := -1) hx hb dX11_rain_25 (by decide) ?_
        exact tw_iret F hH hret hlk rfl (Nat.le_of_ble_eq_true rfl) (Nat.le_of_ble_eq_true rfl) dX11_rain_26 (Or.inl (⟨rfl, (Or.inr (Or.inr (by omega)))⟩))
      · skip
        refine lv_if_ne (tgt := 27) hx hb dX11_rain_22 (by decide) (fun _ => ?_) (fun c => absurd c (by decide))
        refine lv_aload_n hx hb dX11_rain_27 rfl (lv_at hl 0 rfl) ?_
        refine tw_get (r := 0) F hH kf_RX11_24 rfl (by decide) hw_0 rfl dX11_rain_28 ?_
        refine lv_iconst (v := 0) hx hb dX11_rain_31 (by decide) ?_
        refine tw_put (r := 14) F hH kf_RX11_84 kp_X2_7 rfl (by decide) hw_14 (Nat.le_of_ble_eq_true rfl) rfl rfl dX11_rain_32 (fun H locs w16 hw17 hne18 hH => ?_)
        have hw17 : w16 14 = .inr (2, [.ref (ad 4), .ref (ad 1), .ref (ad 15), .ref (ad 16), .ref (ad 17), .int (0 : Int32), .int (0 : Int32), .int (0 : Int32)]) := hw17
        refine lv_aload_n hx hb dX11_rain_35 rfl (lv_at hl 0 rfl) ?_
        have hw19 : w16 0 = .inr (11, [.ref (ad 4), .ref (ad 14), .ref (ad 156), .ref (ad 221), .ref (ad 225), .ref (ad 233), .ref (ad 236), .int (0 : Int32), .ref (ad 237), .int (0 : Int32), .ref (ad 238)]) := (hne18 0 (by decide)).trans (hw_0)
        refine tw_get (r := 0) F hH kf_RX11_15 rfl (by decide) hw19 rfl dX11_rain_36 ?_
        have hw20 : w16 4 = .inr (9, [.int (2 : Int32), .int (1 : Int32), .ref (ad 5), .ref (ad 6), .ref (ad 7), .ref (ad 8), .ref (ad 9), .ref (ad 10), .ref (ad 12)]) := (hne18 4 (by decide)).trans (hw_4)
        refine tw_get (r := 4) F hH kf_RX11_138 rfl (by decide) hw20 rfl dX11_rain_39 ?_
        refine lv_iload_n hx hb dX11_rain_42 rfl (lv_at hl 1 rfl) ?_
        refine lv_iload_n hx hb dX11_rain_43 rfl (lv_at hl 2 rfl) ?_
        refine lv_iload_n hx hb dX11_rain_44 rfl (lv_at hl 3 rfl) ?_
        refine lv_iconst (v := 0) hx hb dX11_rain_45 (by decide) ?_
        have hw21 : w16 10 = .inr (7, [.int (30 : Int32), .int (3 : Int32), .ref (ad 11), .int (0 : Int32)]) := (hne18 10 (by decide)).trans (hw_10)
        have hw22 : w16 11 = .inl (G.2.1 0, 90, .inl (fun _ => 0)) := (hne18 11 (by decide)).trans (hw_11)
        refine tw_calli F hH (tw_runV (r := 10) (As := [.int x1, .int x2, .int x3, .int (0 : Int32)]) (rest := []) F hH (c_X7_push l G ad w16 H.size x1 (z1) e1 x2 (z2) e2 x3 (z3) e3 hw21 hw22) (tw_gl kw_591 rfl) km_X7_push kv_X7_push rfl rfl ⟨(Nat.le_of_ble_eq_true rfl), (Nat.le_of_ble_eq_true rfl)⟩ (by decide) hw21 rfl rfl hl.1 rfl (Nat.le_of_ble_eq_true rfl) dX11_rain_46 ⟨(Nat.le_of_ble_eq_true rfl), (Nat.le_of_ble_eq_true rfl)⟩) (fun r25 w23 H locs hp24 _ hH => ?_)
        obtain ⟨rfl, -, hw27, hw28, hfr29⟩ := hp24
        exact tw_iret F hH hret hlk rfl (Nat.le_of_ble_eq_true rfl) (Nat.le_of_ble_eq_true rfl) dX11_rain_49 (Or.inr (⟨rfl, (by omega)⟩))
set_option maxHeartbeats 4000000 in
set_option maxRecDepth 100000 in
theorem c_X7_isFull_v2 (l : Launch) (G : tw_G) (ad : Nat → Nat) (w : Nat → va_E) (sz : Nat) (hw_12 : w 12 = .inr (7, [.int (20 : Int32), .int (4 : Int32), .ref (ad 13), .int (0 : Int32)])) : Met l yX7_isFull (tw_ws yX7_isFull cX7_isFull 1 (some .boolean)) ({ frames := 0, cells := 0, slots := 0, locals := 0 }) (tw_Pre G 244 ad w sz [.ref (ad 12)]) (tw_Qi G 244 ad (fun r w1 => ((0 : Int32) = r ∧ True ∧ w = w1)) sz) 0 0 (tw_A 244 ad sz) := by
  refine tw_met (by decide) (Nat.le_of_ble_eq_true rfl) ?_
  intro p e s m args below meth c F hret hlk hin hargs hsz hH ls hl
  have hx := F.1.1
  have hb := F.1.2.1
  have hown := F.1.2.2.2.1
  have hts := F.1.2.2.2.2
  have hl : lv_has ls 1 [(0, .ref (ad 12))] := hl
  generalize hH0 : s.heap = H at hH ⊢
  refine lv_aload_n hx hb dX7_isFull_0 rfl (lv_at hl 0 rfl) ?_
  refine tw_get (r := 12) F hH kf_RX7_28 rfl (by decide) hw_12 rfl dX7_isFull_1 ?_
  refine lv_aload_n hx hb dX7_isFull_4 rfl (lv_at hl 0 rfl) ?_
  refine tw_get (r := 12) F hH kf_RX7_9 rfl (by decide) hw_12 rfl dX7_isFull_5 ?_
  refine lv_icmp_lt (tgt := 15) hx hb dX7_isFull_8 (by decide) (fun _ => ?_) (fun c => absurd c (by decide))
  refine lv_iconst (v := 0) hx hb dX7_isFull_15 (by decide) ?_
  exact tw_iret F hH hret hlk rfl (Nat.le_of_ble_eq_true rfl) (Nat.le_of_ble_eq_true rfl) dX7_isFull_16 (⟨rfl, trivial, rfl⟩)
set_option maxHeartbeats 4000000 in
set_option maxRecDepth 100000 in
theorem c_X7_put_v5 (l : Launch) (G : tw_G) (ad : Nat → Nat) (w : Nat → va_E) (sz : Nat) (x3 : Int32) (z3 : Int) (e3 : x3.toInt = z3) (hw_12 : w 12 = .inr (7, [.int (20 : Int32), .int (4 : Int32), .ref (ad 13), .int (1 : Int32)])) (hw_13 : w 13 = .inl (G.2.1 0, 80, .inl (fun _ => 0))) : Met l yX7_put (tw_ws yX7_put cX7_put 4 none) ({ frames := 0, cells := 0, slots := 0, locals := 0 }) (tw_Pre G 244 ad w sz [.ref (ad 12), .int (0 : Int32), .int (0 : Int32), .int x3]) (tw_Qv G 244 ad (fun w1 => (True ∧ w1 13 = .inl (G.2.1 0, 80, .inl (upd (fun _ => 0) 0 x3)) ∧ ∀ k, k ≠ 13 → w1 k = w k)) sz) 0 0 (tw_A 244 ad sz) := by
  refine tw_met (by decide) (Nat.le_of_ble_eq_true rfl) ?_
  intro p e s m args below meth c F hret hlk hin hargs hsz hH ls hl
  have hx := F.1.1
  have hb := F.1.2.1
  have hown := F.1.2.2.2.1
  have hts := F.1.2.2.2.2
  have hl : lv_has ls 4 [(0, .ref (ad 12)), (1, .int (0 : Int32)), (2, .int (0 : Int32)), (3, .int x3)] := hl
  generalize hH0 : s.heap = H at hH ⊢
  refine lv_iload_n hx hb dX7_put_0 rfl (lv_at hl 1 rfl) ?_
  refine lv_if_lt (tgt := 38) hx hb dX7_put_1 (by decide) (fun c => absurd c (by decide)) (fun _ => ?_)
  refine lv_iload_n hx hb dX7_put_4 rfl (lv_at hl 1 rfl) ?_
  refine lv_aload_n hx hb dX7_put_5 rfl (lv_at hl 0 rfl) ?_
  refine tw_get (r := 12) F hH kf_RX7_28 rfl (by decide) hw_12 rfl dX7_put_6 ?_
  refine lv_icmp_ge (tgt := 38) hx hb dX7_put_9 (by decide) (fun c => absurd c (by decide)) (fun _ => ?_)
  refine lv_iload_n hx hb dX7_put_12 rfl (lv_at hl 2 rfl) ?_
  refine lv_if_lt (tgt := 38) hx hb dX7_put_13 (by decide) (fun c => absurd c (by decide)) (fun _ => ?_)
  refine lv_iload_n hx hb dX7_put_16 rfl (lv_at hl 2 rfl) ?_
  refine lv_aload_n hx hb dX7_put_17 rfl (lv_at hl 0 rfl) ?_
  refine tw_get (r := 12) F hH kf_RX7_15 rfl (by decide) hw_12 rfl dX7_put_18 ?_
  refine lv_icmp_ge (tgt := 38) hx hb dX7_put_21 (by decide) (fun c => absurd c (by decide)) (fun _ => ?_)
  refine lv_aload_n hx hb dX7_put_24 rfl (lv_at hl 0 rfl) ?_
  refine tw_get (r := 12) F hH kf_RX7_24 rfl (by decide) hw_12 rfl dX7_put_25 ?_
  refine lv_iload_n hx hb dX7_put_28 rfl (lv_at hl 1 rfl) ?_
  refine lv_aload_n hx hb dX7_put_29 rfl (lv_at hl 0 rfl) ?_
  refine tw_get (r := 12) F hH kf_RX7_15 rfl (by decide) hw_12 rfl dX7_put_30 ?_
  refine lv_imul hx hb dX7_put_33 ?_
  refine tw_cv (v := (0 : Int32)) (by decide) ?_
  refine lv_iload_n hx hb dX7_put_34 rfl (lv_at hl 2 rfl) ?_
  refine lv_iadd hx hb dX7_put_35 ?_
  refine tw_cv (v := (0 : Int32)) (by decide) ?_
  refine lv_iload_n hx hb dX7_put_36 rfl (lv_at hl 3 rfl) ?_
  refine tw_iast (r := 13) (j := 0) F hH rfl (by decide) hw_13 (by decide) (by decide) dX7_put_37 (fun H locs w5 hw6 hne7 hH => ?_)
  exact tw_vret F hH hret hlk (Nat.le_of_ble_eq_true rfl) (Nat.le_of_ble_eq_true rfl) dX7_put_38 (⟨trivial, hw6, fun k h0 => (hne7 k (by omega))⟩)
set_option maxHeartbeats 4000000 in
set_option maxRecDepth 100000 in
theorem c_X7_put_v6 (l : Launch) (G : tw_G) (ad : Nat → Nat) (w : Nat → va_E) (sz : Nat) (x3 : Int32) (z3 : Int) (e3 : x3.toInt = z3) {f13 : Nat → Int32} (hw_12 : w 12 = .inr (7, [.int (20 : Int32), .int (4 : Int32), .ref (ad 13), .int (1 : Int32)])) (hw_13 : w 13 = .inl (G.2.1 0, 80, .inl f13)) : Met l yX7_put (tw_ws yX7_put cX7_put 4 none) ({ frames := 0, cells := 0, slots := 0, locals := 0 }) (tw_Pre G 244 ad w sz [.ref (ad 12), .int (0 : Int32), .int (1 : Int32), .int x3]) (tw_Qv G 244 ad (fun w1 => (True ∧ w1 13 = .inl (G.2.1 0, 80, .inl (upd f13 1 x3)) ∧ ∀ k, k ≠ 13 → w1 k = w k)) sz) 0 0 (tw_A 244 ad sz) := by
  refine tw_met (by decide) (Nat.le_of_ble_eq_true rfl) ?_
  intro p e s m args below meth c F hret hlk hin hargs hsz hH ls hl
  have hx := F.1.1
  have hb := F.1.2.1
  have hown := F.1.2.2.2.1
  have hts := F.1.2.2.2.2
  have hl : lv_has ls 4 [(0, .ref (ad 12)), (1, .int (0 : Int32)), (2, .int (1 : Int32)), (3, .int x3)] := hl
  generalize hH0 : s.heap = H at hH ⊢
  refine lv_iload_n hx hb dX7_put_0 rfl (lv_at hl 1 rfl) ?_
  refine lv_if_lt (tgt := 38) hx hb dX7_put_1 (by decide) (fun c => absurd c (by decide)) (fun _ => ?_)
  refine lv_iload_n hx hb dX7_put_4 rfl (lv_at hl 1 rfl) ?_
  refine lv_aload_n hx hb dX7_put_5 rfl (lv_at hl 0 rfl) ?_
  refine tw_get (r := 12) F hH kf_RX7_28 rfl (by decide) hw_12 rfl dX7_put_6 ?_
  refine lv_icmp_ge (tgt := 38) hx hb dX7_put_9 (by decide) (fun c => absurd c (by decide)) (fun _ => ?_)
  refine lv_iload_n hx hb dX7_put_12 rfl (lv_at hl 2 rfl) ?_
  refine lv_if_lt (tgt := 38) hx hb dX7_put_13 (by decide) (fun c => absurd c (by decide)) (fun _ => ?_)
  refine lv_iload_n hx hb dX7_put_16 rfl (lv_at hl 2 rfl) ?_
  refine lv_aload_n hx hb dX7_put_17 rfl (lv_at hl 0 rfl) ?_
  refine tw_get (r := 12) F hH kf_RX7_15 rfl (by decide) hw_12 rfl dX7_put_18 ?_
  refine lv_icmp_ge (tgt := 38) hx hb dX7_put_21 (by decide) (fun c => absurd c (by decide)) (fun _ => ?_)
  refine lv_aload_n hx hb dX7_put_24 rfl (lv_at hl 0 rfl) ?_
  refine tw_get (r := 12) F hH kf_RX7_24 rfl (by decide) hw_12 rfl dX7_put_25 ?_
  refine lv_iload_n hx hb dX7_put_28 rfl (lv_at hl 1 rfl) ?_
  refine lv_aload_n hx hb dX7_put_29 rfl (lv_at hl 0 rfl) ?_
  refine tw_get (r := 12) F hH kf_RX7_15 rfl (by decide) hw_12 rfl dX7_put_30 ?_
  refine lv_imul hx hb dX7_put_33 ?_
  refine tw_cv (v := (0 : Int32)) (by decide) ?_
  refine lv_iload_n hx hb dX7_put_34 rfl (lv_at hl 2 rfl) ?_
  refine lv_iadd hx hb dX7_put_35 ?_
  refine tw_cv (v := (1 : Int32)) (by decide) ?_
  refine lv_iload_n hx hb dX7_put_36 rfl (lv_at hl 3 rfl) ?_
  refine tw_iast (r := 13) (j := 1) F hH rfl (by decide) hw_13 (by decide) (by decide) dX7_put_37 (fun H locs w5 hw6 hne7 hH => ?_)
  exact tw_vret F hH hret hlk (Nat.le_of_ble_eq_true rfl) (Nat.le_of_ble_eq_true rfl) dX7_put_38 (⟨trivial, hw6, fun k h0 => (hne7 k (by omega))⟩)
set_option maxHeartbeats 4000000 in
set_option maxRecDepth 100000 in
theorem c_X7_put_v7 (l : Launch) (G : tw_G) (ad : Nat → Nat) (w : Nat → va_E) (sz : Nat) (x3 : Int32) (z3 : Int) (e3 : x3.toInt = z3) {f13 : Nat → Int32} (hw_12 : w 12 = .inr (7, [.int (20 : Int32), .int (4 : Int32), .ref (ad 13), .int (1 : Int32)])) (hw_13 : w 13 = .inl (G.2.1 0, 80, .inl f13)) : Met l yX7_put (tw_ws yX7_put cX7_put 4 none) ({ frames := 0, cells := 0, slots := 0, locals := 0 }) (tw_Pre G 244 ad w sz [.ref (ad 12), .int (0 : Int32), .int (2 : Int32), .int x3]) (tw_Qv G 244 ad (fun w1 => (True ∧ w1 13 = .inl (G.2.1 0, 80, .inl (upd f13 2 x3)) ∧ ∀ k, k ≠ 13 → w1 k = w k)) sz) 0 0 (tw_A 244 ad sz) := by
  refine tw_met (by decide) (Nat.le_of_ble_eq_true rfl) ?_
  intro p e s m args below meth c F hret hlk hin hargs hsz hH ls hl
  have hx := F.1.1
  have hb := F.1.2.1
  have hown := F.1.2.2.2.1
  have hts := F.1.2.2.2.2
  have hl : lv_has ls 4 [(0, .ref (ad 12)), (1, .int (0 : Int32)), (2, .int (2 : Int32)), (3, .int x3)] := hl
  generalize hH0 : s.heap = H at hH ⊢
  refine lv_iload_n hx hb dX7_put_0 rfl (lv_at hl 1 rfl) ?_
  refine lv_if_lt (tgt := 38) hx hb dX7_put_1 (by decide) (fun c => absurd c (by decide)) (fun _ => ?_)
  refine lv_iload_n hx hb dX7_put_4 rfl (lv_at hl 1 rfl) ?_
  refine lv_aload_n hx hb dX7_put_5 rfl (lv_at hl 0 rfl) ?_
  refine tw_get (r := 12) F hH kf_RX7_28 rfl (by decide) hw_12 rfl dX7_put_6 ?_
  refine lv_icmp_ge (tgt := 38) hx hb dX7_put_9 (by decide) (fun c => absurd c (by decide)) (fun _ => ?_)
  refine lv_iload_n hx hb dX7_put_12 rfl (lv_at hl 2 rfl) ?_
  refine lv_if_lt (tgt := 38) hx hb dX7_put_13 (by decide) (fun c => absurd c (by decide)) (fun _ => ?_)
  refine lv_iload_n hx hb dX7_put_16 rfl (lv_at hl 2 rfl) ?_
  refine lv_aload_n hx hb dX7_put_17 rfl (lv_at hl 0 rfl) ?_
  refine tw_get (r := 12) F hH kf_RX7_15 rfl (by decide) hw_12 rfl dX7_put_18 ?_
  refine lv_icmp_ge (tgt := 38) hx hb dX7_put_21 (by decide) (fun c => absurd c (by decide)) (fun _ => ?_)
  refine lv_aload_n hx hb dX7_put_24 rfl (lv_at hl 0 rfl) ?_
  refine tw_get (r := 12) F hH kf_RX7_24 rfl (by decide) hw_12 rfl dX7_put_25 ?_
  refine lv_iload_n hx hb dX7_put_28 rfl (lv_at hl 1 rfl) ?_
  refine lv_aload_n hx hb dX7_put_29 rfl (lv_at hl 0 rfl) ?_
  refine tw_get (r := 12) F hH kf_RX7_15 rfl (by decide) hw_12 rfl dX7_put_30 ?_
  refine lv_imul hx hb dX7_put_33 ?_
  refine tw_cv (v := (0 : Int32)) (by decide) ?_
  refine lv_iload_n hx hb dX7_put_34 rfl (lv_at hl 2 rfl) ?_
  refine lv_iadd hx hb dX7_put_35 ?_
  refine tw_cv (v := (2 : Int32)) (by decide) ?_
  refine lv_iload_n hx hb dX7_put_36 rfl (lv_at hl 3 rfl) ?_
  refine tw_iast (r := 13) (j := 2) F hH rfl (by decide) hw_13 (by decide) (by decide) dX7_put_37 (fun H locs w5 hw6 hne7 hH => ?_)
  exact tw_vret F hH hret hlk (Nat.le_of_ble_eq_true rfl) (Nat.le_of_ble_eq_true rfl) dX7_put_38 (⟨trivial, hw6, fun k h0 => (hne7 k (by omega))⟩)
set_option maxHeartbeats 4000000 in
set_option maxRecDepth 100000 in
theorem c_X7_put_v8 (l : Launch) (G : tw_G) (ad : Nat → Nat) (w : Nat → va_E) (sz : Nat) (x3 : Int32) (z3 : Int) (e3 : x3.toInt = z3) {f13 : Nat → Int32} (hw_12 : w 12 = .inr (7, [.int (20 : Int32), .int (4 : Int32), .ref (ad 13), .int (1 : Int32)])) (hw_13 : w 13 = .inl (G.2.1 0, 80, .inl f13)) : Met l yX7_put (tw_ws yX7_put cX7_put 4 none) ({ frames := 0, cells := 0, slots := 0, locals := 0 }) (tw_Pre G 244 ad w sz [.ref (ad 12), .int (0 : Int32), .int (3 : Int32), .int x3]) (tw_Qv G 244 ad (fun w1 => (True ∧ w1 13 = .inl (G.2.1 0, 80, .inl (upd f13 3 x3)) ∧ ∀ k, k ≠ 13 → w1 k = w k)) sz) 0 0 (tw_A 244 ad sz) := by
  refine tw_met (by decide) (Nat.le_of_ble_eq_true rfl) ?_
  intro p e s m args below meth c F hret hlk hin hargs hsz hH ls hl
  have hx := F.1.1
  have hb := F.1.2.1
  have hown := F.1.2.2.2.1
  have hts := F.1.2.2.2.2
  have hl : lv_has ls 4 [(0, .ref (ad 12)), (1, .int (0 : Int32)), (2, .int (3 : Int32)), (3, .int x3)] := hl
  generalize hH0 : s.heap = H at hH ⊢
  refine lv_iload_n hx hb dX7_put_0 rfl (lv_at hl 1 rfl) ?_
  refine lv_if_lt (tgt := 38) hx hb dX7_put_1 (by decide) (fun c => absurd c (by decide)) (fun _ => ?_)
  refine lv_iload_n hx hb dX7_put_4 rfl (lv_at hl 1 rfl) ?_
  refine lv_aload_n hx hb dX7_put_5 rfl (lv_at hl 0 rfl) ?_
  refine tw_get (r := 12) F hH kf_RX7_28 rfl (by decide) hw_12 rfl dX7_put_6 ?_
  refine lv_icmp_ge (tgt := 38) hx hb dX7_put_9 (by decide) (fun c => absurd c (by decide)) (fun _ => ?_)
  refine lv_iload_n hx hb dX7_put_12 rfl (lv_at hl 2 rfl) ?_
  refine lv_if_lt (tgt := 38) hx hb dX7_put_13 (by decide) (fun c => absurd c (by decide)) (fun _ => ?_)
  refine lv_iload_n hx hb dX7_put_16 rfl (lv_at hl 2 rfl) ?_
  refine lv_aload_n hx hb dX7_put_17 rfl (lv_at hl 0 rfl) ?_
  refine tw_get (r := 12) F hH kf_RX7_15 rfl (by decide) hw_12 rfl dX7_put_18 ?_
  refine lv_icmp_ge (tgt := 38) hx hb dX7_put_21 (by decide) (fun c => absurd c (by decide)) (fun _ => ?_)
  refine lv_aload_n hx hb dX7_put_24 rfl (lv_at hl 0 rfl) ?_
  refine tw_get (r := 12) F hH kf_RX7_24 rfl (by decide) hw_12 rfl dX7_put_25 ?_
  refine lv_iload_n hx hb dX7_put_28 rfl (lv_at hl 1 rfl) ?_
  refine lv_aload_n hx hb dX7_put_29 rfl (lv_at hl 0 rfl) ?_
  refine tw_get (r := 12) F hH kf_RX7_15 rfl (by decide) hw_12 rfl dX7_put_30 ?_
  refine lv_imul hx hb dX7_put_33 ?_
  refine tw_cv (v := (0 : Int32)) (by decide) ?_
  refine lv_iload_n hx hb dX7_put_34 rfl (lv_at hl 2 rfl) ?_
  refine lv_iadd hx hb dX7_put_35 ?_
  refine tw_cv (v := (3 : Int32)) (by decide) ?_
  refine lv_iload_n hx hb dX7_put_36 rfl (lv_at hl 3 rfl) ?_
  refine tw_iast (r := 13) (j := 3) F hH rfl (by decide) hw_13 (by decide) (by decide) dX7_put_37 (fun H locs w5 hw6 hne7 hH => ?_)
  exact tw_vret F hH hret hlk (Nat.le_of_ble_eq_true rfl) (Nat.le_of_ble_eq_true rfl) dX7_put_38 (⟨trivial, hw6, fun k h0 => (hne7 k (by omega))⟩)
set_option maxHeartbeats 4000000 in
set_option maxRecDepth 100000 in
theorem c_X7_push_v2 (l : Launch) (G : tw_G) (ad : Nat → Nat) (w : Nat → va_E) (sz : Nat) (x1 : Int32) (z1 : Int) (e1 : x1.toInt = z1) (x2 : Int32) (z2 : Int) (e2 : x2.toInt = z2) (x3 : Int32) (z3 : Int) (e3 : x3.toInt = z3) (x4 : Int32) (z4 : Int) (e4 : x4.toInt = z4) (hw_12 : w 12 = .inr (7, [.int (20 : Int32), .int (4 : Int32), .ref (ad 13), .int (0 : Int32)])) (hw_13 : w 13 = .inl (G.2.1 0, 80, .inl (fun _ => 0))) : Met l yX7_push (tw_ws yX7_push cX7_push 5 (some .int)) ({ frames := 1, cells := 0, slots := 0, locals := 23 }) (tw_Pre G 244 ad w sz [.ref (ad 12), .int x1, .int x2, .int x3, .int x4]) (tw_Qi G 244 ad (fun r w1 => ((1 : Int32) = r ∧ True ∧ w1 12 = .inr (7, [.int (20 : Int32), .int (4 : Int32), .ref (ad 13), .int (1 : Int32)]) ∧ w1 13 = .inl (G.2.1 0, 80, .inl (upd (upd (upd (upd (fun _ => 0) 0 x1) 1 x2) 2 x3) 3 x4)) ∧ ∀ k, k ≠ 12 → k ≠ 13 → w1 k = w k)) sz) 0 0 (tw_A 244 ad sz) := by
  refine tw_met (by decide) (Nat.le_of_ble_eq_true rfl) ?_
  intro p e s m args below meth c F hret hlk hin hargs hsz hH ls hl
  have hx := F.1.1
  have hb := F.1.2.1
  have hown := F.1.2.2.2.1
  have hts := F.1.2.2.2.2
  have hl : lv_has ls 5 [(0, .ref (ad 12)), (1, .int x1), (2, .int x2), (3, .int x3), (4, .int x4)] := hl
  generalize hH0 : s.heap = H at hH ⊢
  refine lv_aload_n hx hb dX7_push_0 rfl (lv_at hl 0 rfl) ?_
  refine tw_calli F hH (tw_runV (r := 12) (As := []) (rest := []) F hH (c_X7_isFull_v2 l G ad w H.size hw_12) (tw_gl kw_595 rfl) km_X7_isFull kv_X7_isFull rfl rfl ⟨(Nat.le_of_ble_eq_true rfl), (Nat.le_of_ble_eq_true rfl)⟩ (by decide) hw_12 rfl rfl hl.1 rfl (Nat.le_of_ble_eq_true rfl) dX7_push_1 ⟨(Nat.le_of_ble_eq_true rfl), (Nat.le_of_ble_eq_true rfl)⟩) (fun r3 w1 H locs hp2 _ hH => ?_)
  obtain ⟨rfl, -, rfl⟩ := hp2
  refine lv_if_eq (tgt := 9) hx hb dX7_push_4 (by decide) (fun _ => ?_) (fun c => absurd c (by decide))
  refine lv_aload_n hx hb dX7_push_9 rfl (lv_at hl 0 rfl) ?_
  refine lv_dup hx hb dX7_push_10 rfl ?_
  refine tw_get (r := 12) F hH kf_RX7_28 rfl (by decide) hw_12 rfl dX7_push_11 ?_
  refine lv_iconst (v := 1) hx hb dX7_push_14 (by decide) ?_
  refine lv_iadd hx hb dX7_push_15 ?_
  refine tw_cv (v := (1 : Int32)) (by decide) ?_
  refine tw_put (r := 12) F hH kf_RX7_28 kp_X7_3 rfl (by decide) hw_12 (Nat.le_of_ble_eq_true rfl) rfl rfl dX7_push_16 (fun H locs w6 hw7 hne8 hH => ?_)
  have hw7 : w6 12 = .inr (7, [.int (20 : Int32), .int (4 : Int32), .ref (ad 13), .int (1 : Int32)]) := hw7
  refine lv_aload_n hx hb dX7_push_19 rfl (lv_at hl 0 rfl) ?_
  refine lv_aload_n hx hb dX7_push_20 rfl (lv_at hl 0 rfl) ?_
  refine tw_get (r := 12) F hH kf_RX7_28 rfl (by decide) hw7 rfl dX7_push_21 ?_
  refine lv_iconst (v := 1) hx hb dX7_push_24 (by decide) ?_
  refine lv_isub hx hb dX7_push_25 ?_
  refine tw_cv (v := (0 : Int32)) (by decide) ?_
  refine lv_iconst (v := 0) hx hb dX7_push_26 (by decide) ?_
  refine lv_iload_n hx hb dX7_push_27 rfl (lv_at hl 1 rfl) ?_
  have hw9 : w6 13 = .inl (G.2.1 0, 80, .inl (fun _ => 0)) := (hne8 13 (by decide)).trans (hw_13)
  refine tw_callv F hH (tw_runV (r := 12) (As := [.int (0 : Int32), .int (0 : Int32), .int x1]) (rest := []) F hH (c_X7_put_v5 l G ad w6 H.size x1 (z1) e1 hw7 hw9) (tw_gl kw_599 rfl) km_X7_put kv_X7_put rfl rfl ⟨(Nat.le_of_ble_eq_true rfl), (Nat.le_of_ble_eq_true rfl)⟩ (by decide) hw7 rfl rfl hl.1 rfl (Nat.le_of_ble_eq_true rfl) dX7_push_28 ⟨(Nat.le_of_ble_eq_true rfl), (Nat.le_of_ble_eq_true rfl)⟩) (fun w10 H locs hp11 _ hH => ?_)
  obtain ⟨-, hw13, hfr14⟩ := hp11
  refine lv_aload_n hx hb dX7_push_31 rfl (lv_at hl 0 rfl) ?_
  refine lv_aload_n hx hb dX7_push_32 rfl (lv_at hl 0 rfl) ?_
  have hw15 : w10 12 = .inr (7, [.int (20 : Int32), .int (4 : Int32), .ref (ad 13), .int (1 : Int32)]) := (hfr14 12 (by omega)).trans (hw7)
  refine tw_get (r := 12) F hH kf_RX7_28 rfl (by decide) hw15 rfl dX7_push_33 ?_
  refine lv_iconst (v := 1) hx hb dX7_push_36 (by decide) ?_
  refine lv_isub hx hb dX7_push_37 ?_
  refine tw_cv (v := (0 : Int32)) (by decide) ?_
  refine lv_iconst (v := 1) hx hb dX7_push_38 (by decide) ?_
  refine lv_iload_n hx hb dX7_push_39 rfl (lv_at hl 2 rfl) ?_
  refine tw_callv F hH (tw_runV (r := 12) (As := [.int (0 : Int32), .int (1 : Int32), .int x2]) (rest := []) F hH (c_X7_put_v6 l G ad w10 H.size x2 (z2) e2 hw15 hw13) (tw_gl kw_599 rfl) km_X7_put kv_X7_put rfl rfl ⟨(Nat.le_of_ble_eq_true rfl), (Nat.le_of_ble_eq_true rfl)⟩ (by decide) hw15 rfl rfl hl.1 rfl (Nat.le_of_ble_eq_true rfl) dX7_push_40 ⟨(Nat.le_of_ble_eq_true rfl), (Nat.le_of_ble_eq_true rfl)⟩) (fun w16 H locs hp17 _ hH => ?_)
  obtain ⟨-, hw19, hfr20⟩ := hp17
  refine lv_aload_n hx hb dX7_push_43 rfl (lv_at hl 0 rfl) ?_
  refine lv_aload_n hx hb dX7_push_44 rfl (lv_at hl 0 rfl) ?_
  have hw21 : w16 12 = .inr (7, [.int (20 : Int32), .int (4 : Int32), .ref (ad 13), .int (1 : Int32)]) := (hfr20 12 (by omega)).trans (hw15)
  refine tw_get (r := 12) F hH kf_RX7_28 rfl (by decide) hw21 rfl dX7_push_45 ?_
  refine lv_iconst (v := 1) hx hb dX7_push_48 (by decide) ?_
  refine lv_isub hx hb dX7_push_49 ?_
  refine tw_cv (v := (0 : Int32)) (by decide) ?_
  refine lv_iconst (v := 2) hx hb dX7_push_50 (by decide) ?_
  refine lv_iload_n hx hb dX7_push_51 rfl (lv_at hl 3 rfl) ?_
  refine tw_callv F hH (tw_runV (r := 12) (As := [.int (0 : Int32), .int (2 : Int32), .int x3]) (rest := []) F hH (c_X7_put_v7 l G ad w16 H.size x3 (z3) e3 hw21 hw19) (tw_gl kw_599 rfl) km_X7_put kv_X7_put rfl rfl ⟨(Nat.le_of_ble_eq_true rfl), (Nat.le_of_ble_eq_true rfl)⟩ (by decide) hw21 rfl rfl hl.1 rfl (Nat.le_of_ble_eq_true rfl) dX7_push_52 ⟨(Nat.le_of_ble_eq_true rfl), (Nat.le_of_ble_eq_true rfl)⟩) (fun w22 H locs hp23 _ hH => ?_)
  obtain ⟨-, hw25, hfr26⟩ := hp23
  refine lv_aload_n hx hb dX7_push_55 rfl (lv_at hl 0 rfl) ?_
  refine lv_aload_n hx hb dX7_push_56 rfl (lv_at hl 0 rfl) ?_
  have hw27 : w22 12 = .inr (7, [.int (20 : Int32), .int (4 : Int32), .ref (ad 13), .int (1 : Int32)]) := (hfr26 12 (by omega)).trans (hw21)
  refine tw_get (r := 12) F hH kf_RX7_28 rfl (by decide) hw27 rfl dX7_push_57 ?_
  refine lv_iconst (v := 1) hx hb dX7_push_60 (by decide) ?_
  refine lv_isub hx hb dX7_push_61 ?_
  refine tw_cv (v := (0 : Int32)) (by decide) ?_
  refine lv_iconst (v := 3) hx hb dX7_push_62 (by decide) ?_
  refine lv_iload hx hb dX7_push_63 (lv_at hl 4 rfl) ?_
  refine tw_callv F hH (tw_runV (r := 12) (As := [.int (0 : Int32), .int (3 : Int32), .int x4]) (rest := []) F hH (c_X7_put_v8 l G ad w22 H.size x4 (z4) e4 hw27 hw25) (tw_gl kw_599 rfl) km_X7_put kv_X7_put rfl rfl ⟨(Nat.le_of_ble_eq_true rfl), (Nat.le_of_ble_eq_true rfl)⟩ (by decide) hw27 rfl rfl hl.1 rfl (Nat.le_of_ble_eq_true rfl) dX7_push_65 ⟨(Nat.le_of_ble_eq_true rfl), (Nat.le_of_ble_eq_true rfl)⟩) (fun w28 H locs hp29 _ hH => ?_)
  obtain ⟨-, hw31, hfr32⟩ := hp29
  refine lv_aload_n hx hb dX7_push_68 rfl (lv_at hl 0 rfl) ?_
  have hw33 : w28 12 = .inr (7, [.int (20 : Int32), .int (4 : Int32), .ref (ad 13), .int (1 : Int32)]) := (hfr32 12 (by omega)).trans (hw27)
  refine tw_get (r := 12) F hH kf_RX7_28 rfl (by decide) hw33 rfl dX7_push_69 ?_
  exact tw_iret F hH hret hlk rfl (Nat.le_of_ble_eq_true rfl) (Nat.le_of_ble_eq_true rfl) dX7_push_72 (⟨rfl, trivial, hw33, hw31, fun k h0 h1 => ((hfr32 k (by omega)).trans ((hfr26 k (by omega)).trans ((hfr20 k (by omega)).trans ((hfr14 k (by omega)).trans (hne8 k (by omega))))))⟩)
set_option maxHeartbeats 4000000 in
set_option maxRecDepth 100000 in
theorem c_X11_flag (l : Launch) (G : tw_G) (ad : Nat → Nat) (w : Nat → va_E) (sz : Nat) (x1 : Int32) (z1 : Int) (e1 : x1.toInt = z1) (x2 : Int32) (z2 : Int) (e2 : x2.toInt = z2) (x3 : Int32) (z3 : Int) (e3 : x3.toInt = z3) (x4 : Int32) (z4 : Int) (e4 : x4.toInt = z4) (hw_0 : w 0 = .inr (11, [.ref (ad 4), .ref (ad 14), .ref (ad 156), .ref (ad 221), .ref (ad 225), .ref (ad 233), .ref (ad 236), .int (0 : Int32), .ref (ad 237), .int (0 : Int32), .ref (ad 238)])) (hw_14 : w 14 = .inr (2, [.ref (ad 4), .ref (ad 1), .ref (ad 15), .ref (ad 16), .ref (ad 17), .int (0 : Int32), .int (0 : Int32), .int (0 : Int32)])) (hw_4 : w 4 = .inr (9, [.int (2 : Int32), .int (1 : Int32), .ref (ad 5), .ref (ad 6), .ref (ad 7), .ref (ad 8), .ref (ad 9), .ref (ad 10), .ref (ad 12)])) (hw_12 : w 12 = .inr (7, [.int (20 : Int32), .int (4 : Int32), .ref (ad 13), .int (0 : Int32)])) (hw_13 : w 13 = .inl (G.2.1 0, 80, .inl (fun _ => 0))) : Met l yX11_flag (tw_ws yX11_flag cX11_flag 5 (some .int)) ({ frames := 2, cells := 0, slots := 0, locals := 47 }) (tw_Pre G 244 ad w sz [.ref (ad 0), .int x1, .int x2, .int x3, .int x4]) (tw_Qi G 244 ad (fun r w1 => ((-1 : Int32) = r ∧ (((z1 = (-1)) ∧ (z2 < 0)) ∨ ((z1 = (-1)) ∧ (¬ (z2 < 0)) ∧ (z3 < z2)) ∨ ((z1 = (-1)) ∧ (¬ (z2 < 0)) ∧ (¬ (z3 < z2)) ∧ (((z4 < 0)) ∨ ((¬ (z4 < 0)) ∧ (1 < z4)))) ∨ ((¬ (z1 = (-1))) ∧ ((((z1 < 0)) ∨ ((¬ (z1 < 0)) ∧ (2 ≤ z1))))) ∨ ((¬ (z1 = (-1))) ∧ (((¬ (z1 < 0)) ∧ (¬ (2 ≤ z1)))) ∧ (z2 < 0)) ∨ ((¬ (z1 = (-1))) ∧ (((¬ (z1 < 0)) ∧ (¬ (2 ≤ z1)))) ∧ (¬ (z2 < 0)) ∧ (z3 < z2)) ∨ ((¬ (z1 = (-1))) ∧ (((¬ (z1 < 0)) ∧ (¬ (2 ≤ z1)))) ∧ (¬ (z2 < 0)) ∧ (¬ (z3 < z2)) ∧ (((z4 < 0)) ∨ ((¬ (z4 < 0)) ∧ (1 < z4)))))) ∨ ((1 : Int32) = r ∧ (((z1 = (-1)) ∧ (¬ (z2 < 0)) ∧ (¬ (z3 < z2)) ∧ ((¬ (z4 < 0)) ∧ (¬ (1 < z4)))) ∨ ((¬ (z1 = (-1))) ∧ (((¬ (z1 < 0)) ∧ (¬ (2 ≤ z1)))) ∧ (¬ (z2 < 0)) ∧ (¬ (z3 < z2)) ∧ ((¬ (z4 < 0)) ∧ (¬ (1 < z4))))))) sz) 0 0 (tw_A 244 ad sz) := by
  refine tw_met (by decide) (Nat.le_of_ble_eq_true rfl) ?_
  intro p e s m args below meth c F hret hlk hin hargs hsz hH ls hl
  have hx := F.1.1
  have hb := F.1.2.1
  have hown := F.1.2.2.2.1
  have hts := F.1.2.2.2.2
  have hl : lv_has ls 5 [(0, .ref (ad 0)), (1, .int x1), (2, .int x2), (3, .int x3), (4, .int x4)] := hl
  generalize hH0 : s.heap = H at hH ⊢
  refine lv_iload_n hx hb dX11_flag_0 rfl (lv_at hl 1 rfl) ?_
  refine lv_iconst (v := -1) hx hb dX11_flag_1 (by decide) ?_
  refine lv_icmp_eq (tgt := 18) hx hb dX11_flag_2 (by decide) (fun c1 => ?_) (fun c1 => ?_)
  · have c1 := (tw_eq e1 (by decide : (-1 : Int32).toInt = -1)).mp c1
    refine lv_iload_n hx hb dX11_flag_18 rfl (lv_at hl 2 rfl) ?_
    refine lv_if_lt (tgt := 37) hx hb dX11_flag_19 (by decide) (fun c2 => ?_) (fun c2 => ?_)
    · have c2 := (tw_lt e2 (by decide : (0 : Int32).toInt = 0)).mp c2
      refine lv_iconst (v := -1) hx hb dX11_flag_37 (by decide) ?_
      exact tw_iret F hH hret hlk rfl (Nat.le_of_ble_eq_true rfl) (Nat.le_of_ble_eq_true rfl) dX11_flag_38 (Or.inl (⟨rfl, (Or.inl (by omega))⟩))
    · have c2 := mt (tw_lt e2 (by decide : (0 : Int32).toInt = 0)).mpr c2
      refine lv_iload_n hx hb dX11_flag_22 rfl (lv_at hl 3 rfl) ?_
      refine lv_iload_n hx hb dX11_flag_23 rfl (lv_at hl 2 rfl) ?_
      refine lv_icmp_lt (tgt := 37) hx hb dX11_flag_24 (by decide) (fun c3 => ?_) (fun c3 => ?_)
      · have c3 := (tw_lt e3 e2).mp c3
        refine lv_iconst (v := -1) hx hb dX11_flag_37 (by decide) ?_
        exact tw_iret F hH hret hlk rfl (Nat.le_of_ble_eq_true rfl) (Nat.le_of_ble_eq_true rfl) dX11_flag_38 (Or.inl (⟨rfl, (Or.inr (Or.inl (by omega)))⟩))
      · have c3 := mt (tw_lt e3 e2).mpr c3
        refine lv_iload hx hb dX11_flag_27 (lv_at hl 4 rfl) ?_
        refine lv_iconst (v := 0) hx hb dX11_flag_29 (by decide) ?_
        refine lv_iconst (v := 1) hx hb dX11_flag_30 (by decide) ?_
        refine tw_calli F hH (tw_runS (As := [.int x4, .int (0 : Int32), .int (1 : Int32)]) (rest := []) F hH (c_X11_isWithin l G 244 ad w H.size x4 (z4) e4 (0 : Int32) 0 (by decide : (0 : Int32).toInt = 0) (1 : Int32) 1 (by decide : (1 : Int32).toInt = 1)) (tw_gl kw_565 rfl) km_X11_isWithin (tw_gl kw_566 rfl) rfl rfl ⟨(Nat.le_of_ble_eq_true rfl), (Nat.le_of_ble_eq_true rfl)⟩ rfl hl.1 rfl (Nat.le_of_ble_eq_true rfl) dX11_flag_31 ⟨(Nat.le_of_ble_eq_true rfl), (Nat.le_of_ble_eq_true rfl)⟩) (fun r6 w4 H locs hp5 _ hH => ?_)
        rcases hp5 with ⟨rfl, hc7, rfl⟩ | ⟨rfl, hc8, rfl⟩
        · skip
          refine lv_if_ne (tgt := 39) hx hb dX11_flag_34 (by decide) (fun c => absurd c (by decide)) (fun _ => ?_)
          refine lv_iconst (v := -1) hx hb dX11_flag_37 (by decide) ?_
          exact tw_iret F hH hret hlk rfl (Nat.le_of_ble_eq_true rfl) (Nat.le_of_ble_eq_true rfl) dX11_flag_38 (Or.inl (⟨rfl, (Or.inr (Or.inr (Or.inl (by omega))))⟩))
        · skip
          refine lv_if_ne (tgt := 39) hx hb dX11_flag_34 (by decide) (fun _ => ?_) (fun c => absurd c (by decide))
          refine lv_aload_n hx hb dX11_flag_39 rfl (lv_at hl 0 rfl) ?_
          refine tw_get (r := 0) F hH kf_RX11_24 rfl (by decide) hw_0 rfl dX11_flag_40 ?_
          refine lv_iconst (v := 0) hx hb dX11_flag_43 (by decide) ?_
          refine tw_put (r := 14) F hH kf_RX11_84 kp_X2_7 rfl (by decide) hw_14 (Nat.le_of_ble_eq_true rfl) rfl rfl dX11_flag_44 (fun H locs w11 hw12 hne13 hH => ?_)
          have hw12 : w11 14 = .inr (2, [.ref (ad 4), .ref (ad 1), .ref (ad 15), .ref (ad 16), .ref (ad 17), .int (0 : Int32), .int (0 : Int32), .int (0 : Int32)]) := hw12
          refine lv_aload_n hx hb dX11_flag_47 rfl (lv_at hl 0 rfl) ?_
          have hw14 : w11 0 = .inr (11, [.ref (ad 4), .ref (ad 14), .ref (ad 156), .ref (ad 221), .ref (ad 225), .ref (ad 233), .ref (ad 236), .int (0 : Int32), .ref (ad 237), .int (0 : Int32), .ref (ad 238)]) := (hne13 0 (by decide)).trans (hw_0)
          refine tw_get (r := 0) F hH kf_RX11_15 rfl (by decide) hw14 rfl dX11_flag_48 ?_
          have hw15 : w11 4 = .inr (9, [.int (2 : Int32), .int (1 : Int32), .ref (ad 5), .ref (ad 6), .ref (ad 7), .ref (ad 8), .ref (ad 9), .ref (ad 10), .ref (ad 12)]) := (hne13 4 (by decide)).trans (hw_4)
          refine tw_get (r := 4) F hH kf_RX11_145 rfl (by decide) hw15 rfl dX11_flag_51 ?_
          refine lv_iload_n hx hb dX11_flag_54 rfl (lv_at hl 1 rfl) ?_
          refine lv_iload_n hx hb dX11_flag_55 rfl (lv_at hl 2 rfl) ?_
          refine lv_iload_n hx hb dX11_flag_56 rfl (lv_at hl 3 rfl) ?_
          refine lv_iload hx hb dX11_flag_57 (lv_at hl 4 rfl) ?_
          have hw16 : w11 12 = .inr (7, [.int (20 : Int32), .int (4 : Int32), .ref (ad 13), .int (0 : Int32)]) := (hne13 12 (by decide)).trans (hw_12)
          have hw17 : w11 13 = .inl (G.2.1 0, 80, .inl (fun _ => 0)) := (hne13 13 (by decide)).trans (hw_13)
          refine tw_calli F hH (tw_runV (r := 12) (As := [.int x1, .int x2, .int x3, .int x4]) (rest := []) F hH (c_X7_push_v2 l G ad w11 H.size x1 (z1) e1 x2 (z2) e2 x3 (z3) e3 x4 (z4) e4 hw16 hw17) (tw_gl kw_591 rfl) km_X7_push kv_X7_push rfl rfl ⟨(Nat.le_of_ble_eq_true rfl), (Nat.le_of_ble_eq_true rfl)⟩ (by decide) hw16 rfl rfl hl.1 rfl (Nat.le_of_ble_eq_true rfl) dX11_flag_59 ⟨(Nat.le_of_ble_eq_true rfl), (Nat.le_of_ble_eq_true rfl)⟩) (fun r20 w18 H locs hp19 _ hH => ?_)
          obtain ⟨rfl, -, hw22, hw23, hfr24⟩ := hp19
          exact tw_iret F hH hret hlk rfl (Nat.le_of_ble_eq_true rfl) (Nat.le_of_ble_eq_true rfl) dX11_flag_62 (Or.inr (⟨rfl, (Or.inl (by omega))⟩))
  · have c1 := mt (tw_eq e1 (by decide : (-1 : Int32).toInt = -1)).mpr c1
    refine lv_aload_n hx hb dX11_flag_5 rfl (lv_at hl 0 rfl) ?_
    refine tw_get (r := 0) F hH kf_RX11_15 rfl (by decide) hw_0 rfl dX11_flag_6 ?_
    refine lv_iload_n hx hb dX11_flag_9 rfl (lv_at hl 1 rfl) ?_
    refine tw_calli F hH (tw_runV (r := 4) (As := [.int x1]) (rest := []) F hH (c_X9_hasSector l G ad w H.size x1 (z1) e1 hw_4) (tw_gl kw_557 rfl) km_X9_hasSector kv_X9_hasSector rfl rfl ⟨(Nat.le_of_ble_eq_true rfl), (Nat.le_of_ble_eq_true rfl)⟩ (by decide) hw_4 rfl rfl hl.1 rfl (Nat.le_of_ble_eq_true rfl) dX11_flag_10 ⟨(Nat.le_of_ble_eq_true rfl), (Nat.le_of_ble_eq_true rfl)⟩) (fun r27 w25 H locs hp26 _ hH => ?_)
    rcases hp26 with ⟨rfl, hc28, rfl⟩ | ⟨rfl, hc29, rfl⟩
    · skip
      refine lv_if_ne (tgt := 18) hx hb dX11_flag_13 (by decide) (fun c => absurd c (by decide)) (fun _ => ?_)
      refine lv_iconst (v := -1) hx hb dX11_flag_16 (by decide) ?_
      exact tw_iret F hH hret hlk rfl (Nat.le_of_ble_eq_true rfl) (Nat.le_of_ble_eq_true rfl) dX11_flag_17 (Or.inl (⟨rfl, (Or.inr (Or.inr (Or.inr (Or.inl (by omega)))))⟩))
    · skip
      refine lv_if_ne (tgt := 18) hx hb dX11_flag_13 (by decide) (fun _ => ?_) (fun c => absurd c (by decide))
      refine lv_iload_n hx hb dX11_flag_18 rfl (lv_at hl 2 rfl) ?_
      refine lv_if_lt (tgt := 37) hx hb dX11_flag_19 (by decide) (fun c32 => ?_) (fun c32 => ?_)
      · have c32 := (tw_lt e2 (by decide : (0 : Int32).toInt = 0)).mp c32
        refine lv_iconst (v := -1) hx hb dX11_flag_37 (by decide) ?_
        exact tw_iret F hH hret hlk rfl (Nat.le_of_ble_eq_true rfl) (Nat.le_of_ble_eq_true rfl) dX11_flag_38 (Or.inl (⟨rfl, (Or.inr (Or.inr (Or.inr (Or.inr (Or.inl (by omega))))))⟩))
      · have c32 := mt (tw_lt e2 (by decide : (0 : Int32).toInt = 0)).mpr c32
        refine lv_iload_n hx hb dX11_flag_22 rfl (lv_at hl 3 rfl) ?_
        refine lv_iload_n hx hb dX11_flag_23 rfl (lv_at hl 2 rfl) ?_
        refine lv_icmp_lt (tgt := 37) hx hb dX11_flag_24 (by decide) (fun c33 => ?_) (fun c33 => ?_)
        · have c33 := (tw_lt e3 e2).mp c33
          refine lv_iconst (v := -1) hx hb dX11_flag_37 (by decide) ?_
          exact tw_iret F hH hret hlk rfl (Nat.le_of_ble_eq_true rfl) (Nat.le_of_ble_eq_true rfl) dX11_flag_38 (Or.inl (⟨rfl, (Or.inr (Or.inr (Or.inr (Or.inr (Or.inr (Or.inl (by omega)))))))⟩))
        · have c33 := mt (tw_lt e3 e2).mpr c33
          refine lv_iload hx hb dX11_flag_27 (lv_at hl 4 rfl) ?_
          refine lv_iconst (v := 0) hx hb dX11_flag_29 (by decide) ?_
          refine lv_iconst (v := 1) hx hb dX11_flag_30 (by decide) ?_
          refine tw_calli F hH (tw_runS (As := [.int x4, .int (0 : Int32), .int (1 : Int32)]) (rest := []) F hH (c_X11_isWithin l G 244 ad w H.size x4 (z4) e4 (0 : Int32) 0 (by decide : (0 : Int32).toInt = 0) (1 : Int32) 1 (by decide : (1 : Int32).toInt = 1)) (tw_gl kw_565 rfl) km_X11_isWithin (tw_gl kw_566 rfl) rfl rfl ⟨(Nat.le_of_ble_eq_true rfl), (Nat.le_of_ble_eq_true rfl)⟩ rfl hl.1 rfl (Nat.le_of_ble_eq_true rfl) dX11_flag_31 ⟨(Nat.le_of_ble_eq_true rfl), (Nat.le_of_ble_eq_true rfl)⟩) (fun r36 w34 H locs hp35 _ hH => ?_)
          rcases hp35 with ⟨rfl, hc37, rfl⟩ | ⟨rfl, hc38, rfl⟩
          · skip
            refine lv_if_ne (tgt := 39) hx hb dX11_flag_34 (by decide) (fun c => absurd c (by decide)) (fun _ => ?_)
            refine lv_iconst (v := -1) hx hb dX11_flag_37 (by decide) ?_
            exact tw_iret F hH hret hlk rfl (Nat.le_of_ble_eq_true rfl) (Nat.le_of_ble_eq_true rfl) dX11_flag_38 (Or.inl (⟨rfl, (Or.inr (Or.inr (Or.inr (Or.inr (Or.inr (Or.inr (by omega)))))))⟩))
          · skip
            refine lv_if_ne (tgt := 39) hx hb dX11_flag_34 (by decide) (fun _ => ?_) (fun c => absurd c (by decide))
            refine lv_aload_n hx hb dX11_flag_39 rfl (lv_at hl 0 rfl) ?_
            refine tw_get (r := 0) F hH kf_RX11_24 rfl (by decide) hw_0 rfl dX11_flag_40 ?_
            refine lv_iconst (v := 0) hx hb dX11_flag_43 (by decide) ?_
            refine tw_put (r := 14) F hH kf_RX11_84 kp_X2_7 rfl (by decide) hw_14 (Nat.le_of_ble_eq_true rfl) rfl rfl dX11_flag_44 (fun H locs w41 hw42 hne43 hH => ?_)
            have hw42 : w41 14 = .inr (2, [.ref (ad 4), .ref (ad 1), .ref (ad 15), .ref (ad 16), .ref (ad 17), .int (0 : Int32), .int (0 : Int32), .int (0 : Int32)]) := hw42
            refine lv_aload_n hx hb dX11_flag_47 rfl (lv_at hl 0 rfl) ?_
            have hw44 : w41 0 = .inr (11, [.ref (ad 4), .ref (ad 14), .ref (ad 156), .ref (ad 221), .ref (ad 225), .ref (ad 233), .ref (ad 236), .int (0 : Int32), .ref (ad 237), .int (0 : Int32), .ref (ad 238)]) := (hne43 0 (by decide)).trans (hw_0)
            refine tw_get (r := 0) F hH kf_RX11_15 rfl (by decide) hw44 rfl dX11_flag_48 ?_
            have hw45 : w41 4 = .inr (9, [.int (2 : Int32), .int (1 : Int32), .ref (ad 5), .ref (ad 6), .ref (ad 7), .ref (ad 8), .ref (ad 9), .ref (ad 10), .ref (ad 12)]) := (hne43 4 (by decide)).trans (hw_4)
            refine tw_get (r := 4) F hH kf_RX11_145 rfl (by decide) hw45 rfl dX11_flag_51 ?_
            refine lv_iload_n hx hb dX11_flag_54 rfl (lv_at hl 1 rfl) ?_
            refine lv_iload_n hx hb dX11_flag_55 rfl (lv_at hl 2 rfl) ?_
            refine lv_iload_n hx hb dX11_flag_56 rfl (lv_at hl 3 rfl) ?_
            refine lv_iload hx hb dX11_flag_57 (lv_at hl 4 rfl) ?_
            have hw46 : w41 12 = .inr (7, [.int (20 : Int32), .int (4 : Int32), .ref (ad 13), .int (0 : Int32)]) := (hne43 12 (by decide)).trans (hw_12)
            have hw47 : w41 13 = .inl (G.2.1 0, 80, .inl (fun _ => 0)) := (hne43 13 (by decide)).trans (hw_13)
            refine tw_calli F hH (tw_runV (r := 12) (As := [.int x1, .int x2, .int x3, .int x4]) (rest := []) F hH (c_X7_push_v2 l G ad w41 H.size x1 (z1) e1 x2 (z2) e2 x3 (z3) e3 x4 (z4) e4 hw46 hw47) (tw_gl kw_591 rfl) km_X7_push kv_X7_push rfl rfl ⟨(Nat.le_of_ble_eq_true rfl), (Nat.le_of_ble_eq_true rfl)⟩ (by decide) hw46 rfl rfl hl.1 rfl (Nat.le_of_ble_eq_true rfl) dX11_flag_59 ⟨(Nat.le_of_ble_eq_true rfl), (Nat.le_of_ble_eq_true rfl)⟩) (fun r50 w48 H locs hp49 _ hH => ?_)
            obtain ⟨rfl, -, hw52, hw53, hfr54⟩ := hp49
            exact tw_iret F hH hret hlk rfl (Nat.le_of_ble_eq_true rfl) (Nat.le_of_ble_eq_true rfl) dX11_flag_62 (Or.inr (⟨rfl, (Or.inr (by omega))⟩))
set_option maxHeartbeats 4000000 in
set_option maxRecDepth 100000 in
theorem c_X1_forget (l : Launch) (G : tw_G) (ad : Nat → Nat) (w : Nat → va_E) (sz : Nat) (hw_18 : w 18 = .inr (1, [.int (0 : Int32), .int (0 : Int32), .int (0 : Int32), .int (0 : Int32), .int (0 : Int32), .int (0 : Int32), .ref (ad 19), .ref (ad 21), .ref (ad 23), .ref (ad 25), .ref (ad 27), .ref (ad 29), .int (0 : Int32), .int (0 : Int32)])) (hw_19 : w 19 = .inr (7, [.int (4 : Int32), .int (2 : Int32), .ref (ad 20), .int (0 : Int32)])) (hw_21 : w 21 = .inr (7, [.int (12 : Int32), .int (3 : Int32), .ref (ad 22), .int (0 : Int32)])) (hw_23 : w 23 = .inr (7, [.int (5 : Int32), .int (3 : Int32), .ref (ad 24), .int (0 : Int32)])) (hw_25 : w 25 = .inr (7, [.int (4 : Int32), .int (2 : Int32), .ref (ad 26), .int (0 : Int32)])) : Met l yX1_forget (tw_ws yX1_forget cX1_forget 1 none) ({ frames := 0, cells := 0, slots := 0, locals := 0 }) (tw_Pre G 244 ad w sz [.ref (ad 18)]) (tw_Qv G 244 ad (fun w1 => (True ∧ w1 19 = .inr (7, [.int (4 : Int32), .int (2 : Int32), .ref (ad 20), .int (0 : Int32)]) ∧ w1 21 = .inr (7, [.int (12 : Int32), .int (3 : Int32), .ref (ad 22), .int (0 : Int32)]) ∧ w1 23 = .inr (7, [.int (5 : Int32), .int (3 : Int32), .ref (ad 24), .int (0 : Int32)]) ∧ w1 25 = .inr (7, [.int (4 : Int32), .int (2 : Int32), .ref (ad 26), .int (0 : Int32)]) ∧ w1 18 = .inr (1, [.int (0 : Int32), .int (0 : Int32), .int (0 : Int32), .int (0 : Int32), .int (0 : Int32), .int (0 : Int32), .ref (ad 19), .ref (ad 21), .ref (ad 23), .ref (ad 25), .ref (ad 27), .ref (ad 29), .int (0 : Int32), .int (0 : Int32)]) ∧ ∀ k, k ≠ 19 → k ≠ 21 → k ≠ 23 → k ≠ 25 → k ≠ 18 → w1 k = w k)) sz) 0 0 (tw_A 244 ad sz) := by
  refine tw_met (by decide) (Nat.le_of_ble_eq_true rfl) ?_
  intro p e s m args below meth c F hret hlk hin hargs hsz hH ls hl
  have hx := F.1.1
  have hb := F.1.2.1
  have hown := F.1.2.2.2.1
  have hts := F.1.2.2.2.2
  have hl : lv_has ls 1 [(0, .ref (ad 18))] := hl
  generalize hH0 : s.heap = H at hH ⊢
  refine lv_aload_n hx hb dX1_forget_0 rfl (lv_at hl 0 rfl) ?_
  refine tw_get (r := 18) F hH kf_RX1_14 rfl (by decide) hw_18 rfl dX1_forget_1 ?_
  refine lv_iconst (v := 0) hx hb dX1_forget_4 (by decide) ?_
  refine tw_put (r := 19) F hH kf_RX1_39 kp_X7_3 rfl (by decide) hw_19 (Nat.le_of_ble_eq_true rfl) rfl rfl dX1_forget_5 (fun H locs w1 hw2 hne3 hH => ?_)
  have hw2 : w1 19 = .inr (7, [.int (4 : Int32), .int (2 : Int32), .ref (ad 20), .int (0 : Int32)]) := hw2
  refine lv_aload_n hx hb dX1_forget_8 rfl (lv_at hl 0 rfl) ?_
  have hw4 : w1 18 = .inr (1, [.int (0 : Int32), .int (0 : Int32), .int (0 : Int32), .int (0 : Int32), .int (0 : Int32), .int (0 : Int32), .ref (ad 19), .ref (ad 21), .ref (ad 23), .ref (ad 25), .ref (ad 27), .ref (ad 29), .int (0 : Int32), .int (0 : Int32)]) := (hne3 18 (by decide)).trans (hw_18)
  refine tw_get (r := 18) F hH kf_RX1_20 rfl (by decide) hw4 rfl dX1_forget_9 ?_
  refine lv_iconst (v := 0) hx hb dX1_forget_12 (by decide) ?_
  have hw5 : w1 21 = .inr (7, [.int (12 : Int32), .int (3 : Int32), .ref (ad 22), .int (0 : Int32)]) := (hne3 21 (by decide)).trans (hw_21)
  refine tw_put (r := 21) F hH kf_RX1_39 kp_X7_3 rfl (by decide) hw5 (Nat.le_of_ble_eq_true rfl) rfl rfl dX1_forget_13 (fun H locs w6 hw7 hne8 hH => ?_)
  have hw7 : w6 21 = .inr (7, [.int (12 : Int32), .int (3 : Int32), .ref (ad 22), .int (0 : Int32)]) := hw7
  refine lv_aload_n hx hb dX1_forget_16 rfl (lv_at hl 0 rfl) ?_
  have hw9 : w6 18 = .inr (1, [.int (0 : Int32), .int (0 : Int32), .int (0 : Int32), .int (0 : Int32), .int (0 : Int32), .int (0 : Int32), .ref (ad 19), .ref (ad 21), .ref (ad 23), .ref (ad 25), .ref (ad 27), .ref (ad 29), .int (0 : Int32), .int (0 : Int32)]) := (hne8 18 (by decide)).trans (hw4)
  refine tw_get (r := 18) F hH kf_RX1_23 rfl (by decide) hw9 rfl dX1_forget_17 ?_
  refine lv_iconst (v := 0) hx hb dX1_forget_20 (by decide) ?_
  have hw10 : w6 23 = .inr (7, [.int (5 : Int32), .int (3 : Int32), .ref (ad 24), .int (0 : Int32)]) := (hne8 23 (by decide)).trans ((hne3 23 (by decide)).trans (hw_23))
  refine tw_put (r := 23) F hH kf_RX1_39 kp_X7_3 rfl (by decide) hw10 (Nat.le_of_ble_eq_true rfl) rfl rfl dX1_forget_21 (fun H locs w11 hw12 hne13 hH => ?_)
  have hw12 : w11 23 = .inr (7, [.int (5 : Int32), .int (3 : Int32), .ref (ad 24), .int (0 : Int32)]) := hw12
  refine lv_aload_n hx hb dX1_forget_24 rfl (lv_at hl 0 rfl) ?_
  have hw14 : w11 18 = .inr (1, [.int (0 : Int32), .int (0 : Int32), .int (0 : Int32), .int (0 : Int32), .int (0 : Int32), .int (0 : Int32), .ref (ad 19), .ref (ad 21), .ref (ad 23), .ref (ad 25), .ref (ad 27), .ref (ad 29), .int (0 : Int32), .int (0 : Int32)]) := (hne13 18 (by decide)).trans (hw9)
  refine tw_get (r := 18) F hH kf_RX1_26 rfl (by decide) hw14 rfl dX1_forget_25 ?_
  refine lv_iconst (v := 0) hx hb dX1_forget_28 (by decide) ?_
  have hw15 : w11 25 = .inr (7, [.int (4 : Int32), .int (2 : Int32), .ref (ad 26), .int (0 : Int32)]) := (hne13 25 (by decide)).trans ((hne8 25 (by decide)).trans ((hne3 25 (by decide)).trans (hw_25)))
  refine tw_put (r := 25) F hH kf_RX1_39 kp_X7_3 rfl (by decide) hw15 (Nat.le_of_ble_eq_true rfl) rfl rfl dX1_forget_29 (fun H locs w16 hw17 hne18 hH => ?_)
  have hw17 : w16 25 = .inr (7, [.int (4 : Int32), .int (2 : Int32), .ref (ad 26), .int (0 : Int32)]) := hw17
  refine lv_aload_n hx hb dX1_forget_32 rfl (lv_at hl 0 rfl) ?_
  refine lv_iconst (v := 0) hx hb dX1_forget_33 (by decide) ?_
  have hw19 : w16 18 = .inr (1, [.int (0 : Int32), .int (0 : Int32), .int (0 : Int32), .int (0 : Int32), .int (0 : Int32), .int (0 : Int32), .ref (ad 19), .ref (ad 21), .ref (ad 23), .ref (ad 25), .ref (ad 27), .ref (ad 29), .int (0 : Int32), .int (0 : Int32)]) := (hne18 18 (by decide)).trans (hw14)
  refine tw_put (r := 18) F hH kf_RX1_43 kp_X1_12 rfl (by decide) hw19 (Nat.le_of_ble_eq_true rfl) rfl rfl dX1_forget_34 (fun H locs w20 hw21 hne22 hH => ?_)
  have hw21 : w20 18 = .inr (1, [.int (0 : Int32), .int (0 : Int32), .int (0 : Int32), .int (0 : Int32), .int (0 : Int32), .int (0 : Int32), .ref (ad 19), .ref (ad 21), .ref (ad 23), .ref (ad 25), .ref (ad 27), .ref (ad 29), .int (0 : Int32), .int (0 : Int32)]) := hw21
  refine lv_aload_n hx hb dX1_forget_37 rfl (lv_at hl 0 rfl) ?_
  refine lv_iconst (v := 0) hx hb dX1_forget_38 (by decide) ?_
  refine tw_put (r := 18) F hH kf_RX1_47 kp_X1_13 rfl (by decide) hw21 (Nat.le_of_ble_eq_true rfl) rfl rfl dX1_forget_39 (fun H locs w23 hw24 hne25 hH => ?_)
  have hw24 : w23 18 = .inr (1, [.int (0 : Int32), .int (0 : Int32), .int (0 : Int32), .int (0 : Int32), .int (0 : Int32), .int (0 : Int32), .ref (ad 19), .ref (ad 21), .ref (ad 23), .ref (ad 25), .ref (ad 27), .ref (ad 29), .int (0 : Int32), .int (0 : Int32)]) := hw24
  have hw26 : w23 19 = .inr (7, [.int (4 : Int32), .int (2 : Int32), .ref (ad 20), .int (0 : Int32)]) := (hne25 19 (by decide)).trans ((hne22 19 (by decide)).trans ((hne18 19 (by decide)).trans ((hne13 19 (by decide)).trans ((hne8 19 (by decide)).trans (hw2)))))
  have hw27 : w23 21 = .inr (7, [.int (12 : Int32), .int (3 : Int32), .ref (ad 22), .int (0 : Int32)]) := (hne25 21 (by decide)).trans ((hne22 21 (by decide)).trans ((hne18 21 (by decide)).trans ((hne13 21 (by decide)).trans (hw7))))
  have hw28 : w23 23 = .inr (7, [.int (5 : Int32), .int (3 : Int32), .ref (ad 24), .int (0 : Int32)]) := (hne25 23 (by decide)).trans ((hne22 23 (by decide)).trans ((hne18 23 (by decide)).trans (hw12)))
  have hw29 : w23 25 = .inr (7, [.int (4 : Int32), .int (2 : Int32), .ref (ad 26), .int (0 : Int32)]) := (hne25 25 (by decide)).trans ((hne22 25 (by decide)).trans (hw17))
  exact tw_vret F hH hret hlk (Nat.le_of_ble_eq_true rfl) (Nat.le_of_ble_eq_true rfl) dX1_forget_42 (⟨trivial, hw26, hw27, hw28, hw29, hw24, fun k h0 h1 h2 h3 h4 => ((hne25 k (by omega)).trans ((hne22 k (by omega)).trans ((hne18 k (by omega)).trans ((hne13 k (by omega)).trans ((hne8 k (by omega)).trans (hne3 k (by omega)))))))⟩)
set_option maxHeartbeats 4000000 in
set_option maxRecDepth 100000 in
theorem c_X11_car (l : Launch) (G : tw_G) (ad : Nat → Nat) (w : Nat → va_E) (sz : Nat) (x1 : Int32) (z1 : Int) (e1 : x1.toInt = z1) (x2 : Int32) (z2 : Int) (e2 : x2.toInt = z2) (x3 : Int32) (z3 : Int) (e3 : x3.toInt = z3) (x4 : Int32) (z4 : Int) (e4 : x4.toInt = z4) (x5 : Int32) (z5 : Int) (e5 : x5.toInt = z5) (x6 : Int32) (z6 : Int) (e6 : x6.toInt = z6) (hw_0 : w 0 = .inr (11, [.ref (ad 4), .ref (ad 14), .ref (ad 156), .ref (ad 221), .ref (ad 225), .ref (ad 233), .ref (ad 236), .int (0 : Int32), .ref (ad 237), .int (0 : Int32), .ref (ad 238)])) (hw_14 : w 14 = .inr (2, [.ref (ad 4), .ref (ad 1), .ref (ad 15), .ref (ad 16), .ref (ad 17), .int (0 : Int32), .int (0 : Int32), .int (0 : Int32)])) (hw_15 : w 15 = .inl (G.2.1 2, 6, .inr (.inr (.inr (.inr (va_up (va_up (va_up (va_up (va_up (va_up (fun _ => none) 0 (some (ad 18))) 1 (some (ad 41))) 2 (some (ad 64))) 3 (some (ad 87))) 4 (some (ad 110))) 5 (some (ad 133)))))))) (hw_18 : w 18 = .inr (1, [.int (0 : Int32), .int (0 : Int32), .int (0 : Int32), .int (0 : Int32), .int (0 : Int32), .int (0 : Int32), .ref (ad 19), .ref (ad 21), .ref (ad 23), .ref (ad 25), .ref (ad 27), .ref (ad 29), .int (0 : Int32), .int (0 : Int32)])) (hw_19 : w 19 = .inr (7, [.int (4 : Int32), .int (2 : Int32), .ref (ad 20), .int (0 : Int32)])) (hw_21 : w 21 = .inr (7, [.int (12 : Int32), .int (3 : Int32), .ref (ad 22), .int (0 : Int32)])) (hw_23 : w 23 = .inr (7, [.int (5 : Int32), .int (3 : Int32), .ref (ad 24), .int (0 : Int32)])) (hw_25 : w 25 = .inr (7, [.int (4 : Int32), .int (2 : Int32), .ref (ad 26), .int (0 : Int32)])) : Met l yX11_car (tw_ws yX11_car cX11_car 8 (some .int)) ({ frames := 1, cells := 0, slots := 0, locals := 22 }) (tw_Pre G 244 ad w sz [.ref (ad 0), .int x1, .int x2, .int x3, .int x4, .int x5, .int x6]) (tw_Qi G 244 ad (fun r w1 => ((-1 : Int32) = r ∧ (((((z1 < (-2000))) ∨ ((¬ (z1 < (-2000))) ∧ (2000 < z1)))) ∨ (((¬ (z1 < (-2000))) ∧ (¬ (2000 < z1))) ∧ (((z2 < 1)) ∨ ((¬ (z2 < 1)) ∧ (200 < z2)))) ∨ (((¬ (z1 < (-2000))) ∧ (¬ (2000 < z1))) ∧ ((¬ (z2 < 1)) ∧ (¬ (200 < z2))) ∧ (((z3 < 1)) ∨ ((¬ (z3 < 1)) ∧ (9 < z3)))) ∨ (((¬ (z1 < (-2000))) ∧ (¬ (2000 < z1))) ∧ ((¬ (z2 < 1)) ∧ (¬ (200 < z2))) ∧ ((¬ (z3 < 1)) ∧ (¬ (9 < z3))) ∧ (((z4 < 0)) ∨ ((¬ (z4 < 0)) ∧ (4 ≤ z4)))) ∨ (((¬ (z1 < (-2000))) ∧ (¬ (2000 < z1))) ∧ ((¬ (z2 < 1)) ∧ (¬ (200 < z2))) ∧ ((¬ (z3 < 1)) ∧ (¬ (9 < z3))) ∧ ((¬ (z4 < 0)) ∧ (¬ (4 ≤ z4))) ∧ (((z5 < 0)) ∨ ((¬ (z5 < 0)) ∧ (2 ≤ z5)))) ∨ (((¬ (z1 < (-2000))) ∧ (¬ (2000 < z1))) ∧ ((¬ (z2 < 1)) ∧ (¬ (200 < z2))) ∧ ((¬ (z3 < 1)) ∧ (¬ (9 < z3))) ∧ ((¬ (z4 < 0)) ∧ (¬ (4 ≤ z4))) ∧ ((¬ (z5 < 0)) ∧ (¬ (2 ≤ z5))) ∧ (((z6 < 0)) ∨ ((¬ (z6 < 0)) ∧ (z2 < z6)))))) ∨ ((0 : Int32) = r ∧ (((¬ (z1 < (-2000))) ∧ (¬ (2000 < z1))) ∧ ((¬ (z2 < 1)) ∧ (¬ (200 < z2))) ∧ ((¬ (z3 < 1)) ∧ (¬ (9 < z3))) ∧ ((¬ (z4 < 0)) ∧ (¬ (4 ≤ z4))) ∧ ((¬ (z5 < 0)) ∧ (¬ (2 ≤ z5))) ∧ ((¬ (z6 < 0)) ∧ (¬ (z2 < z6))) ∧ ((¬ (0 < 0)) ∧ (¬ (6 ≤ 0)))))) sz) 0 0 (tw_A 244 ad sz) := by
  refine tw_met (by decide) (Nat.le_of_ble_eq_true rfl) ?_
  intro p e s m args below meth c F hret hlk hin hargs hsz hH ls hl
  have hx := F.1.1
  have hb := F.1.2.1
  have hown := F.1.2.2.2.1
  have hts := F.1.2.2.2.2
  have hl : lv_has ls 8 [(0, .ref (ad 0)), (1, .int x1), (2, .int x2), (3, .int x3), (4, .int x4), (5, .int x5), (6, .int x6)] := hl
  generalize hH0 : s.heap = H at hH ⊢
  refine lv_iload_n hx hb dX11_car_0 rfl (lv_at hl 1 rfl) ?_
  refine lv_sipush (v := -2000) hx hb dX11_car_1 (by decide) ?_
  refine lv_sipush (v := 2000) hx hb dX11_car_4 (by decide) ?_
  refine tw_calli F hH (tw_runS (As := [.int x1, .int (-2000 : Int32), .int (2000 : Int32)]) (rest := []) F hH (c_X11_isWithin l G 244 ad w H.size x1 (z1) e1 (-2000 : Int32) (-2000) (by decide : (-2000 : Int32).toInt = -2000) (2000 : Int32) 2000 (by decide : (2000 : Int32).toInt = 2000)) (tw_gl kw_565 rfl) km_X11_isWithin (tw_gl kw_566 rfl) rfl rfl ⟨(Nat.le_of_ble_eq_true rfl), (Nat.le_of_ble_eq_true rfl)⟩ rfl hl.1 rfl (Nat.le_of_ble_eq_true rfl) dX11_car_7 ⟨(Nat.le_of_ble_eq_true rfl), (Nat.le_of_ble_eq_true rfl)⟩) (fun r3 w1 H locs hp2 _ hH => ?_)
  rcases hp2 with ⟨rfl, hc4, rfl⟩ | ⟨rfl, hc5, rfl⟩
  · skip
    refine lv_if_eq (tgt := 34) hx hb dX11_car_10 (by decide) (fun _ => ?_) (fun c => absurd c (by decide))
    refine lv_iconst (v := -1) hx hb dX11_car_34 (by decide) ?_
    exact tw_iret F hH hret hlk rfl (Nat.le_of_ble_eq_true rfl) (Nat.le_of_ble_eq_true rfl) dX11_car_35 (Or.inl (⟨rfl, (Or.inl (by omega))⟩))
  · skip
    refine lv_if_eq (tgt := 34) hx hb dX11_car_10 (by decide) (fun c => absurd c (by decide)) (fun _ => ?_)
    refine lv_iload_n hx hb dX11_car_13 rfl (lv_at hl 2 rfl) ?_
    refine lv_iconst (v := 1) hx hb dX11_car_14 (by decide) ?_
    refine lv_sipush (v := 200) hx hb dX11_car_15 (by decide) ?_
    refine tw_calli F hH (tw_runS (As := [.int x2, .int (1 : Int32), .int (200 : Int32)]) (rest := []) F hH (c_X11_isWithin l G 244 ad w H.size x2 (z2) e2 (1 : Int32) 1 (by decide : (1 : Int32).toInt = 1) (200 : Int32) 200 (by decide : (200 : Int32).toInt = 200)) (tw_gl kw_565 rfl) km_X11_isWithin (tw_gl kw_566 rfl) rfl rfl ⟨(Nat.le_of_ble_eq_true rfl), (Nat.le_of_ble_eq_true rfl)⟩ rfl hl.1 rfl (Nat.le_of_ble_eq_true rfl) dX11_car_18 ⟨(Nat.le_of_ble_eq_true rfl), (Nat.le_of_ble_eq_true rfl)⟩) (fun r10 w8 H locs hp9 _ hH => ?_)
    rcases hp9 with ⟨rfl, hc11, rfl⟩ | ⟨rfl, hc12, rfl⟩
    · skip
      refine lv_if_eq (tgt := 34) hx hb dX11_car_21 (by decide) (fun _ => ?_) (fun c => absurd c (by decide))
      refine lv_iconst (v := -1) hx hb dX11_car_34 (by decide) ?_
      exact tw_iret F hH hret hlk rfl (Nat.le_of_ble_eq_true rfl) (Nat.le_of_ble_eq_true rfl) dX11_car_35 (Or.inl (⟨rfl, (Or.inr (Or.inl (by omega)))⟩))
    · skip
      refine lv_if_eq (tgt := 34) hx hb dX11_car_21 (by decide) (fun c => absurd c (by decide)) (fun _ => ?_)
      refine lv_iload_n hx hb dX11_car_24 rfl (lv_at hl 3 rfl) ?_
      refine lv_iconst (v := 1) hx hb dX11_car_25 (by decide) ?_
      refine lv_bipush (v := 9) hx hb dX11_car_26 (by decide) ?_
      refine tw_calli F hH (tw_runS (As := [.int x3, .int (1 : Int32), .int (9 : Int32)]) (rest := []) F hH (c_X11_isWithin l G 244 ad w H.size x3 (z3) e3 (1 : Int32) 1 (by decide : (1 : Int32).toInt = 1) (9 : Int32) 9 (by decide : (9 : Int32).toInt = 9)) (tw_gl kw_565 rfl) km_X11_isWithin (tw_gl kw_566 rfl) rfl rfl ⟨(Nat.le_of_ble_eq_true rfl), (Nat.le_of_ble_eq_true rfl)⟩ rfl hl.1 rfl (Nat.le_of_ble_eq_true rfl) dX11_car_28 ⟨(Nat.le_of_ble_eq_true rfl), (Nat.le_of_ble_eq_true rfl)⟩) (fun r17 w15 H locs hp16 _ hH => ?_)
      rcases hp16 with ⟨rfl, hc18, rfl⟩ | ⟨rfl, hc19, rfl⟩
      · skip
        refine lv_if_ne (tgt := 36) hx hb dX11_car_31 (by decide) (fun c => absurd c (by decide)) (fun _ => ?_)
        refine lv_iconst (v := -1) hx hb dX11_car_34 (by decide) ?_
        exact tw_iret F hH hret hlk rfl (Nat.le_of_ble_eq_true rfl) (Nat.le_of_ble_eq_true rfl) dX11_car_35 (Or.inl (⟨rfl, (Or.inr (Or.inr (Or.inl (by omega))))⟩))
      · skip
        refine lv_if_ne (tgt := 36) hx hb dX11_car_31 (by decide) (fun _ => ?_) (fun c => absurd c (by decide))
        refine lv_iload hx hb dX11_car_36 (lv_at hl 4 rfl) ?_
        refine lv_iconst (v := 4) hx hb dX11_car_38 (by decide) ?_
        refine tw_calli F hH (tw_runS (As := [.int x4, .int (4 : Int32)]) (rest := []) F hH (c_X11_isIndex l G 244 ad w H.size x4 (z4) e4 (4 : Int32) 4 (by decide : (4 : Int32).toInt = 4)) (tw_gl kw_572 rfl) km_X11_isIndex (tw_gl kw_562 rfl) rfl rfl ⟨(Nat.le_of_ble_eq_true rfl), (Nat.le_of_ble_eq_true rfl)⟩ rfl hl.1 rfl (Nat.le_of_ble_eq_true rfl) dX11_car_39 ⟨(Nat.le_of_ble_eq_true rfl), (Nat.le_of_ble_eq_true rfl)⟩) (fun r24 w22 H locs hp23 _ hH => ?_)
        rcases hp23 with ⟨rfl, hc25, rfl⟩ | ⟨rfl, hc26, rfl⟩
        · skip
          refine lv_if_eq (tgt := 64) hx hb dX11_car_42 (by decide) (fun _ => ?_) (fun c => absurd c (by decide))
          refine lv_iconst (v := -1) hx hb dX11_car_64 (by decide) ?_
          exact tw_iret F hH hret hlk rfl (Nat.le_of_ble_eq_true rfl) (Nat.le_of_ble_eq_true rfl) dX11_car_65 (Or.inl (⟨rfl, (Or.inr (Or.inr (Or.inr (Or.inl (by omega)))))⟩))
        · skip
          refine lv_if_eq (tgt := 64) hx hb dX11_car_42 (by decide) (fun c => absurd c (by decide)) (fun _ => ?_)
          refine lv_iload hx hb dX11_car_45 (lv_at hl 5 rfl) ?_
          refine lv_iconst (v := 2) hx hb dX11_car_47 (by decide) ?_
          refine tw_calli F hH (tw_runS (As := [.int x5, .int (2 : Int32)]) (rest := []) F hH (c_X11_isIndex l G 244 ad w H.size x5 (z5) e5 (2 : Int32) 2 (by decide : (2 : Int32).toInt = 2)) (tw_gl kw_572 rfl) km_X11_isIndex (tw_gl kw_562 rfl) rfl rfl ⟨(Nat.le_of_ble_eq_true rfl), (Nat.le_of_ble_eq_true rfl)⟩ rfl hl.1 rfl (Nat.le_of_ble_eq_true rfl) dX11_car_48 ⟨(Nat.le_of_ble_eq_true rfl), (Nat.le_of_ble_eq_true rfl)⟩) (fun r31 w29 H locs hp30 _ hH => ?_)
          rcases hp30 with ⟨rfl, hc32, rfl⟩ | ⟨rfl, hc33, rfl⟩
          · skip
            refine lv_if_eq (tgt := 64) hx hb dX11_car_51 (by decide) (fun _ => ?_) (fun c => absurd c (by decide))
            refine lv_iconst (v := -1) hx hb dX11_car_64 (by decide) ?_
            exact tw_iret F hH hret hlk rfl (Nat.le_of_ble_eq_true rfl) (Nat.le_of_ble_eq_true rfl) dX11_car_65 (Or.inl (⟨rfl, (Or.inr (Or.inr (Or.inr (Or.inr (Or.inl (by omega))))))⟩))
          · skip
            refine lv_if_eq (tgt := 64) hx hb dX11_car_51 (by decide) (fun c => absurd c (by decide)) (fun _ => ?_)
            refine lv_iload hx hb dX11_car_54 (lv_at hl 6 rfl) ?_
            refine lv_iconst (v := 0) hx hb dX11_car_56 (by decide) ?_
            refine lv_iload_n hx hb dX11_car_57 rfl (lv_at hl 2 rfl) ?_
            refine tw_calli F hH (tw_runS (As := [.int x6, .int (0 : Int32), .int x2]) (rest := []) F hH (c_X11_isWithin l G 244 ad w H.size x6 (z6) e6 (0 : Int32) 0 (by decide : (0 : Int32).toInt = 0) x2 (z2) e2) (tw_gl kw_565 rfl) km_X11_isWithin (tw_gl kw_566 rfl) rfl rfl ⟨(Nat.le_of_ble_eq_true rfl), (Nat.le_of_ble_eq_true rfl)⟩ rfl hl.1 rfl (Nat.le_of_ble_eq_true rfl) dX11_car_58 ⟨(Nat.le_of_ble_eq_true rfl), (Nat.le_of_ble_eq_true rfl)⟩) (fun r38 w36 H locs hp37 _ hH => ?_)
            rcases hp37 with ⟨rfl, hc39, rfl⟩ | ⟨rfl, hc40, rfl⟩
            · skip
              refine lv_if_ne (tgt := 66) hx hb dX11_car_61 (by decide) (fun c => absurd c (by decide)) (fun _ => ?_)
              refine lv_iconst (v := -1) hx hb dX11_car_64 (by decide) ?_
              exact tw_iret F hH hret hlk rfl (Nat.le_of_ble_eq_true rfl) (Nat.le_of_ble_eq_true rfl) dX11_car_65 (Or.inl (⟨rfl, (Or.inr (Or.inr (Or.inr (Or.inr (Or.inr (by omega))))))⟩))
            · skip
              refine lv_if_ne (tgt := 66) hx hb dX11_car_61 (by decide) (fun _ => ?_) (fun c => absurd c (by decide))
              refine lv_aload_n hx hb dX11_car_66 rfl (lv_at hl 0 rfl) ?_
              refine tw_get (r := 0) F hH kf_RX11_24 rfl (by decide) hw_0 rfl dX11_car_67 ?_
              refine tw_get (r := 14) F hH kf_RX11_80 rfl (by decide) hw_14 rfl dX11_car_70 ?_
              refine lv_bipush (v := 6) hx hb dX11_car_73 (by decide) ?_
              refine tw_calli F hH (tw_runS (As := [.int (0 : Int32), .int (6 : Int32)]) (rest := []) F hH (c_X11_isIndex l G 244 ad w H.size (0 : Int32) 0 (by decide : (0 : Int32).toInt = 0) (6 : Int32) 6 (by decide : (6 : Int32).toInt = 6)) (tw_gl kw_572 rfl) km_X11_isIndex (tw_gl kw_562 rfl) rfl rfl ⟨(Nat.le_of_ble_eq_true rfl), (Nat.le_of_ble_eq_true rfl)⟩ rfl hl.1 rfl (Nat.le_of_ble_eq_true rfl) dX11_car_75 ⟨(Nat.le_of_ble_eq_true rfl), (Nat.le_of_ble_eq_true rfl)⟩) (fun r45 w43 H locs hp44 _ hH => ?_)
              rcases hp44 with ⟨rfl, hc46, rfl⟩ | ⟨rfl, hc47, rfl⟩
              · exfalso; omega
              · skip
                refine lv_if_ne (tgt := 83) hx hb dX11_car_78 (by decide) (fun _ => ?_) (fun c => absurd c (by decide))
                refine lv_aload_n hx hb dX11_car_83 rfl (lv_at hl 0 rfl) ?_
                refine tw_get (r := 0) F hH kf_RX11_24 rfl (by decide) hw_0 rfl dX11_car_84 ?_
                refine tw_get (r := 14) F hH kf_RX11_148 rfl (by decide) hw_14 rfl dX11_car_87 ?_
                refine lv_aload_n hx hb dX11_car_90 rfl (lv_at hl 0 rfl) ?_
                refine tw_get (r := 0) F hH kf_RX11_24 rfl (by decide) hw_0 rfl dX11_car_91 ?_
                refine tw_get (r := 14) F hH kf_RX11_80 rfl (by decide) hw_14 rfl dX11_car_94 ?_
                refine tw_aald (r := 15) (t := 2) (j := 0) (v := .ref (ad 18)) F hH rfl rfl (by decide) hw_15 (by decide) (by decide) rfl dX11_car_97 ?_
                refine lv_astore (lv' := [(7, .ref (ad 18)), (0, .ref (ad 0)), (1, .int x1), (2, .int x2), (3, .int x3), (4, .int x4), (5, .int x5), (6, .int x6)]) hx hb dX11_car_98 hl (by decide) rfl (fun ls hl => ?_)
                refine lv_aload hx hb dX11_car_100 (lv_at hl 0 rfl) ?_
                refine tw_callv F hH (tw_runV (r := 18) (As := []) (rest := []) F hH (c_X1_forget l G ad w H.size hw_18 hw_19 hw_21 hw_23 hw_25) (tw_gl kw_611 rfl) km_X1_forget kv_X1_forget rfl rfl ⟨(Nat.le_of_ble_eq_true rfl), (Nat.le_of_ble_eq_true rfl)⟩ (by decide) hw_18 rfl rfl hl.1 rfl (Nat.le_of_ble_eq_true rfl) dX11_car_102 ⟨(Nat.le_of_ble_eq_true rfl), (Nat.le_of_ble_eq_true rfl)⟩) (fun w49 H locs hp50 _ hH => ?_)
                obtain ⟨-, hw52, hw53, hw54, hw55, hw56, hfr57⟩ := hp50
                refine lv_aload hx hb dX11_car_105 (lv_at hl 0 rfl) ?_
                refine lv_iload_n hx hb dX11_car_107 rfl (lv_at hl 2 rfl) ?_
                refine tw_put (r := 18) F hH kf_RX11_157 kp_X1_0 rfl (by decide) hw56 (Nat.le_of_ble_eq_true rfl) rfl rfl dX11_car_108 (fun H locs w58 hw59 hne60 hH => ?_)
                have hw59 : w58 18 = .inr (1, [.int x1, .int (0 : Int32), .int (0 : Int32), .int (0 : Int32), .int (0 : Int32), .int (0 : Int32), .ref (ad 19), .ref (ad 21), .ref (ad 23), .ref (ad 25), .ref (ad 27), .ref (ad 29), .int (0 : Int32), .int (0 : Int32)]) := hw59
                refine lv_aload hx hb dX11_car_111 (lv_at hl 0 rfl) ?_
                refine lv_iload_n hx hb dX11_car_113 rfl (lv_at hl 3 rfl) ?_
                refine tw_put (r := 18) F hH kf_RX11_160 kp_X1_1 rfl (by decide) hw59 (Nat.le_of_ble_eq_true rfl) rfl rfl dX11_car_114 (fun H locs w61 hw62 hne63 hH => ?_)
                have hw62 : w61 18 = .inr (1, [.int x1, .int x2, .int (0 : Int32), .int (0 : Int32), .int (0 : Int32), .int (0 : Int32), .ref (ad 19), .ref (ad 21), .ref (ad 23), .ref (ad 25), .ref (ad 27), .ref (ad 29), .int (0 : Int32), .int (0 : Int32)]) := hw62
                refine lv_aload hx hb dX11_car_117 (lv_at hl 0 rfl) ?_
                refine lv_iload_n hx hb dX11_car_119 rfl (lv_at hl 4 rfl) ?_
                refine tw_put (r := 18) F hH kf_RX11_163 kp_X1_2 rfl (by decide) hw62 (Nat.le_of_ble_eq_true rfl) rfl rfl dX11_car_120 (fun H locs w64 hw65 hne66 hH => ?_)
                have hw65 : w64 18 = .inr (1, [.int x1, .int x2, .int x3, .int (0 : Int32), .int (0 : Int32), .int (0 : Int32), .ref (ad 19), .ref (ad 21), .ref (ad 23), .ref (ad 25), .ref (ad 27), .ref (ad 29), .int (0 : Int32), .int (0 : Int32)]) := hw65
                refine lv_aload hx hb dX11_car_123 (lv_at hl 0 rfl) ?_
                refine lv_iload hx hb dX11_car_125 (lv_at hl 5 rfl) ?_
                refine tw_put (r := 18) F hH kf_RX11_166 kp_X1_3 rfl (by decide) hw65 (Nat.le_of_ble_eq_true rfl) rfl rfl dX11_car_127 (fun H locs w67 hw68 hne69 hH => ?_)
                have hw68 : w67 18 = .inr (1, [.int x1, .int x2, .int x3, .int x4, .int (0 : Int32), .int (0 : Int32), .ref (ad 19), .ref (ad 21), .ref (ad 23), .ref (ad 25), .ref (ad 27), .ref (ad 29), .int (0 : Int32), .int (0 : Int32)]) := hw68
                refine lv_aload hx hb dX11_car_130 (lv_at hl 0 rfl) ?_
                refine lv_iload hx hb dX11_car_132 (lv_at hl 6 rfl) ?_
                refine tw_put (r := 18) F hH kf_RX11_169 kp_X1_4 rfl (by decide) hw68 (Nat.le_of_ble_eq_true rfl) rfl rfl dX11_car_134 (fun H locs w70 hw71 hne72 hH => ?_)
                have hw71 : w70 18 = .inr (1, [.int x1, .int x2, .int x3, .int x4, .int x5, .int (0 : Int32), .ref (ad 19), .ref (ad 21), .ref (ad 23), .ref (ad 25), .ref (ad 27), .ref (ad 29), .int (0 : Int32), .int (0 : Int32)]) := hw71
                refine lv_aload hx hb dX11_car_137 (lv_at hl 0 rfl) ?_
                refine lv_iload hx hb dX11_car_139 (lv_at hl 7 rfl) ?_
                refine tw_put (r := 18) F hH kf_RX11_172 kp_X1_5 rfl (by decide) hw71 (Nat.le_of_ble_eq_true rfl) rfl rfl dX11_car_141 (fun H locs w73 hw74 hne75 hH => ?_)
                have hw74 : w73 18 = .inr (1, [.int x1, .int x2, .int x3, .int x4, .int x5, .int x6, .ref (ad 19), .ref (ad 21), .ref (ad 23), .ref (ad 25), .ref (ad 27), .ref (ad 29), .int (0 : Int32), .int (0 : Int32)]) := hw74
                refine lv_aload_n hx hb dX11_car_144 rfl (lv_at hl 1 rfl) ?_
                have hw76 : w73 0 = .inr (11, [.ref (ad 4), .ref (ad 14), .ref (ad 156), .ref (ad 221), .ref (ad 225), .ref (ad 233), .ref (ad 236), .int (0 : Int32), .ref (ad 237), .int (0 : Int32), .ref (ad 238)]) := (hne75 0 (by decide)).trans ((hne72 0 (by decide)).trans ((hne69 0 (by decide)).trans ((hne66 0 (by decide)).trans ((hne63 0 (by decide)).trans ((hne60 0 (by decide)).trans ((hfr57 0 (by omega) (by omega) (by omega) (by omega) (by omega)).trans (hw_0)))))))
                refine tw_get (r := 0) F hH kf_RX11_24 rfl (by decide) hw76 rfl dX11_car_145 ?_
                refine lv_dup hx hb dX11_car_148 rfl ?_
                have hw77 : w73 14 = .inr (2, [.ref (ad 4), .ref (ad 1), .ref (ad 15), .ref (ad 16), .ref (ad 17), .int (0 : Int32), .int (0 : Int32), .int (0 : Int32)]) := (hne75 14 (by decide)).trans ((hne72 14 (by decide)).trans ((hne69 14 (by decide)).trans ((hne66 14 (by decide)).trans ((hne63 14 (by decide)).trans ((hne60 14 (by decide)).trans ((hfr57 14 (by omega) (by omega) (by omega) (by omega) (by omega)).trans (hw_14)))))))
                refine tw_get (r := 14) F hH kf_RX11_80 rfl (by decide) hw77 rfl dX11_car_149 ?_
                refine lv_iconst (v := 1) hx hb dX11_car_152 (by decide) ?_
                refine lv_iadd hx hb dX11_car_153 ?_
                refine tw_cv (v := (1 : Int32)) (by decide) ?_
                refine tw_put (r := 14) F hH kf_RX11_80 kp_X2_5 rfl (by decide) hw77 (Nat.le_of_ble_eq_true rfl) rfl rfl dX11_car_154 (fun H locs w78 hw79 hne80 hH => ?_)
                have hw79 : w78 14 = .inr (2, [.ref (ad 4), .ref (ad 1), .ref (ad 15), .ref (ad 16), .ref (ad 17), .int (1 : Int32), .int (0 : Int32), .int (0 : Int32)]) := hw79
                refine lv_aload_n hx hb dX11_car_157 rfl (lv_at hl 1 rfl) ?_
                have hw81 : w78 0 = .inr (11, [.ref (ad 4), .ref (ad 14), .ref (ad 156), .ref (ad 221), .ref (ad 225), .ref (ad 233), .ref (ad 236), .int (0 : Int32), .ref (ad 237), .int (0 : Int32), .ref (ad 238)]) := (hne80 0 (by decide)).trans (hw76)
                refine tw_get (r := 0) F hH kf_RX11_24 rfl (by decide) hw81 rfl dX11_car_158 ?_
                refine lv_iconst (v := 0) hx hb dX11_car_161 (by decide) ?_
                refine tw_put (r := 14) F hH kf_RX11_84 kp_X2_7 rfl (by decide) hw79 (Nat.le_of_ble_eq_true rfl) rfl rfl dX11_car_162 (fun H locs w82 hw83 hne84 hH => ?_)
                have hw83 : w82 14 = .inr (2, [.ref (ad 4), .ref (ad 1), .ref (ad 15), .ref (ad 16), .ref (ad 17), .int (1 : Int32), .int (0 : Int32), .int (0 : Int32)]) := hw83
                refine lv_aload_n hx hb dX11_car_165 rfl (lv_at hl 1 rfl) ?_
                have hw85 : w82 0 = .inr (11, [.ref (ad 4), .ref (ad 14), .ref (ad 156), .ref (ad 221), .ref (ad 225), .ref (ad 233), .ref (ad 236), .int (0 : Int32), .ref (ad 237), .int (0 : Int32), .ref (ad 238)]) := (hne84 0 (by decide)).trans (hw81)
                refine tw_get (r := 0) F hH kf_RX11_24 rfl (by decide) hw85 rfl dX11_car_166 ?_
                refine tw_get (r := 14) F hH kf_RX11_80 rfl (by decide) hw83 rfl dX11_car_169 ?_
                refine lv_iconst (v := 1) hx hb dX11_car_172 (by decide) ?_
                refine lv_isub hx hb dX11_car_173 ?_
                refine tw_cv (v := (0 : Int32)) (by decide) ?_
                exact tw_iret F hH hret hlk rfl (Nat.le_of_ble_eq_true rfl) (Nat.le_of_ble_eq_true rfl) dX11_car_174 (Or.inr (⟨rfl, (by omega)⟩))
set_option maxHeartbeats 4000000 in
set_option maxRecDepth 100000 in
theorem c_X2_has (l : Launch) (G : tw_G) (ad : Nat → Nat) (w : Nat → va_E) (sz : Nat) (x1 : Int32) (z1 : Int) (e1 : x1.toInt = z1) (hw_14 : w 14 = .inr (2, [.ref (ad 4), .ref (ad 1), .ref (ad 15), .ref (ad 16), .ref (ad 17), .int (0 : Int32), .int (0 : Int32), .int (0 : Int32)])) : Met l yX2_has (tw_ws yX2_has cX2_has 2 (some .boolean)) ({ frames := 1, cells := 0, slots := 0, locals := 21 }) (tw_Pre G 244 ad w sz [.ref (ad 14), .int x1]) (tw_Qi G 244 ad (fun r w1 => ((0 : Int32) = r ∧ (((z1 < 0)) ∨ ((¬ (z1 < 0)) ∧ (0 ≤ z1))) ∧ w = w1)) sz) 0 0 (tw_A 244 ad sz) := by
  refine tw_met (by decide) (Nat.le_of_ble_eq_true rfl) ?_
  intro p e s m args below meth c F hret hlk hin hargs hsz hH ls hl
  have hx := F.1.1
  have hb := F.1.2.1
  have hown := F.1.2.2.2.1
  have hts := F.1.2.2.2.2
  have hl : lv_has ls 2 [(0, .ref (ad 14)), (1, .int x1)] := hl
  generalize hH0 : s.heap = H at hH ⊢
  refine lv_iload_n hx hb dX2_has_0 rfl (lv_at hl 1 rfl) ?_
  refine lv_aload_n hx hb dX2_has_1 rfl (lv_at hl 0 rfl) ?_
  refine tw_get (r := 14) F hH kf_RX2_37 rfl (by decide) hw_14 rfl dX2_has_2 ?_
  refine tw_calli F hH (tw_runSN (host := "RaceByLaps") (As := [.int x1, .int (0 : Int32)]) (rest := []) F hH (c_X11_isIndex l G 244 ad w H.size x1 (z1) e1 (0 : Int32) 0 (by decide : (0 : Int32).toInt = 0)) (by decide) km_X11_isIndex (tw_gl kw_562 rfl) rfl rfl ⟨(Nat.le_of_ble_eq_true rfl), (Nat.le_of_ble_eq_true rfl)⟩ rfl hl.1 rfl (Nat.le_of_ble_eq_true rfl) dX2_has_5 ⟨(Nat.le_of_ble_eq_true rfl), (Nat.le_of_ble_eq_true rfl)⟩) (fun r3 w1 H locs hp2 _ hH => ?_)
  rcases hp2 with ⟨rfl, hc4, rfl⟩ | ⟨rfl, hc5, rfl⟩
  · skip
    refine lv_if_eq (tgt := 21) hx hb dX2_has_8 (by decide) (fun _ => ?_) (fun c => absurd c (by decide))
    refine lv_iconst (v := 0) hx hb dX2_has_21 (by decide) ?_
    exact tw_iret F hH hret hlk rfl (Nat.le_of_ble_eq_true rfl) (Nat.le_of_ble_eq_true rfl) dX2_has_22 (⟨rfl, (by omega), rfl⟩)
  · exfalso; omega
set_option maxHeartbeats 4000000 in
set_option maxRecDepth 100000 in
theorem c_X11_tyre (l : Launch) (G : tw_G) (ad : Nat → Nat) (w : Nat → va_E) (sz : Nat) (x1 : Int32) (z1 : Int) (e1 : x1.toInt = z1) (x2 : Int32) (z2 : Int) (e2 : x2.toInt = z2) (x3 : Int32) (z3 : Int) (e3 : x3.toInt = z3) (hw_0 : w 0 = .inr (11, [.ref (ad 4), .ref (ad 14), .ref (ad 156), .ref (ad 221), .ref (ad 225), .ref (ad 233), .ref (ad 236), .int (0 : Int32), .ref (ad 237), .int (0 : Int32), .ref (ad 238)])) (hw_14 : w 14 = .inr (2, [.ref (ad 4), .ref (ad 1), .ref (ad 15), .ref (ad 16), .ref (ad 17), .int (0 : Int32), .int (0 : Int32), .int (0 : Int32)])) : Met l yX11_tyre (tw_ws yX11_tyre cX11_tyre 5 (some .int)) ({ frames := 2, cells := 0, slots := 0, locals := 42 }) (tw_Pre G 244 ad w sz [.ref (ad 0), .int x1, .int x2, .int x3]) (tw_Qi G 244 ad (fun r w1 => ((-1 : Int32) = r ∧ ((((z1 < 0)) ∨ ((¬ (z1 < 0)) ∧ (0 ≤ z1)))))) sz) 0 0 (tw_A 244 ad sz) := by
  refine tw_met (by decide) (Nat.le_of_ble_eq_true rfl) ?_
  intro p e s m args below meth c F hret hlk hin hargs hsz hH ls hl
  have hx := F.1.1
  have hb := F.1.2.1
  have hown := F.1.2.2.2.1
  have hts := F.1.2.2.2.2
  have hl : lv_has ls 5 [(0, .ref (ad 0)), (1, .int x1), (2, .int x2), (3, .int x3)] := hl
  generalize hH0 : s.heap = H at hH ⊢
  refine lv_aload_n hx hb dX11_tyre_0 rfl (lv_at hl 0 rfl) ?_
  refine tw_get (r := 0) F hH kf_RX11_24 rfl (by decide) hw_0 rfl dX11_tyre_1 ?_
  refine lv_iload_n hx hb dX11_tyre_4 rfl (lv_at hl 1 rfl) ?_
  refine tw_calli F hH (tw_runV (r := 14) (As := [.int x1]) (rest := []) F hH (c_X2_has l G ad w H.size x1 (z1) e1 hw_14) (tw_gl kw_619 rfl) km_X2_has kv_X2_has rfl rfl ⟨(Nat.le_of_ble_eq_true rfl), (Nat.le_of_ble_eq_true rfl)⟩ (by decide) hw_14 rfl rfl hl.1 rfl (Nat.le_of_ble_eq_true rfl) dX11_tyre_5 ⟨(Nat.le_of_ble_eq_true rfl), (Nat.le_of_ble_eq_true rfl)⟩) (fun r3 w1 H locs hp2 _ hH => ?_)
  obtain ⟨rfl, hc4, rfl⟩ := hp2
  refine lv_if_eq (tgt := 29) hx hb dX11_tyre_8 (by decide) (fun _ => ?_) (fun c => absurd c (by decide))
  refine lv_iconst (v := -1) hx hb dX11_tyre_29 (by decide) ?_
  exact tw_iret F hH hret hlk rfl (Nat.le_of_ble_eq_true rfl) (Nat.le_of_ble_eq_true rfl) dX11_tyre_30 (⟨rfl, (by omega)⟩)
set_option maxHeartbeats 4000000 in
set_option maxRecDepth 100000 in
theorem c_X11_order (l : Launch) (G : tw_G) (ad : Nat → Nat) (w : Nat → va_E) (sz : Nat) (x1 : Int32) (z1 : Int) (e1 : x1.toInt = z1) (x2 : Int32) (z2 : Int) (e2 : x2.toInt = z2) (x3 : Int32) (z3 : Int) (e3 : x3.toInt = z3) (x4 : Int32) (z4 : Int) (e4 : x4.toInt = z4) (hw_0 : w 0 = .inr (11, [.ref (ad 4), .ref (ad 14), .ref (ad 156), .ref (ad 221), .ref (ad 225), .ref (ad 233), .ref (ad 236), .int (0 : Int32), .ref (ad 237), .int (0 : Int32), .ref (ad 238)])) (hw_14 : w 14 = .inr (2, [.ref (ad 4), .ref (ad 1), .ref (ad 15), .ref (ad 16), .ref (ad 17), .int (0 : Int32), .int (0 : Int32), .int (0 : Int32)])) : Met l yX11_order (tw_ws yX11_order cX11_order 5 (some .int)) ({ frames := 2, cells := 0, slots := 0, locals := 42 }) (tw_Pre G 244 ad w sz [.ref (ad 0), .int x1, .int x2, .int x3, .int x4]) (tw_Qi G 244 ad (fun r w1 => ((-1 : Int32) = r ∧ ((((z1 < 0)) ∨ ((¬ (z1 < 0)) ∧ (0 ≤ z1)))))) sz) 0 0 (tw_A 244 ad sz) := by
  refine tw_met (by decide) (Nat.le_of_ble_eq_true rfl) ?_
  intro p e s m args below meth c F hret hlk hin hargs hsz hH ls hl
  have hx := F.1.1
  have hb := F.1.2.1
  have hown := F.1.2.2.2.1
  have hts := F.1.2.2.2.2
  have hl : lv_has ls 5 [(0, .ref (ad 0)), (1, .int x1), (2, .int x2), (3, .int x3), (4, .int x4)] := hl
  generalize hH0 : s.heap = H at hH ⊢
  refine lv_aload_n hx hb dX11_order_0 rfl (lv_at hl 0 rfl) ?_
  refine tw_get (r := 0) F hH kf_RX11_24 rfl (by decide) hw_0 rfl dX11_order_1 ?_
  refine lv_iload_n hx hb dX11_order_4 rfl (lv_at hl 1 rfl) ?_
  refine tw_calli F hH (tw_runV (r := 14) (As := [.int x1]) (rest := []) F hH (c_X2_has l G ad w H.size x1 (z1) e1 hw_14) (tw_gl kw_619 rfl) km_X2_has kv_X2_has rfl rfl ⟨(Nat.le_of_ble_eq_true rfl), (Nat.le_of_ble_eq_true rfl)⟩ (by decide) hw_14 rfl rfl hl.1 rfl (Nat.le_of_ble_eq_true rfl) dX11_order_5 ⟨(Nat.le_of_ble_eq_true rfl), (Nat.le_of_ble_eq_true rfl)⟩) (fun r3 w1 H locs hp2 _ hH => ?_)
  obtain ⟨rfl, hc4, rfl⟩ := hp2
  refine lv_if_eq (tgt := 34) hx hb dX11_order_8 (by decide) (fun _ => ?_) (fun c => absurd c (by decide))
  refine lv_iconst (v := -1) hx hb dX11_order_34 (by decide) ?_
  exact tw_iret F hH hret hlk rfl (Nat.le_of_ble_eq_true rfl) (Nat.le_of_ble_eq_true rfl) dX11_order_35 (⟨rfl, (by omega)⟩)
set_option maxHeartbeats 4000000 in
set_option maxRecDepth 100000 in
theorem c_X11_stop (l : Launch) (G : tw_G) (ad : Nat → Nat) (w : Nat → va_E) (sz : Nat) (x1 : Int32) (z1 : Int) (e1 : x1.toInt = z1) (x2 : Int32) (z2 : Int) (e2 : x2.toInt = z2) (x3 : Int32) (z3 : Int) (e3 : x3.toInt = z3) (x4 : Int32) (z4 : Int) (e4 : x4.toInt = z4) (hw_0 : w 0 = .inr (11, [.ref (ad 4), .ref (ad 14), .ref (ad 156), .ref (ad 221), .ref (ad 225), .ref (ad 233), .ref (ad 236), .int (0 : Int32), .ref (ad 237), .int (0 : Int32), .ref (ad 238)])) (hw_14 : w 14 = .inr (2, [.ref (ad 4), .ref (ad 1), .ref (ad 15), .ref (ad 16), .ref (ad 17), .int (0 : Int32), .int (0 : Int32), .int (0 : Int32)])) : Met l yX11_stop (tw_ws yX11_stop cX11_stop 5 (some .int)) ({ frames := 2, cells := 0, slots := 0, locals := 42 }) (tw_Pre G 244 ad w sz [.ref (ad 0), .int x1, .int x2, .int x3, .int x4]) (tw_Qi G 244 ad (fun r w1 => ((-1 : Int32) = r ∧ ((((z1 < 0)) ∨ ((¬ (z1 < 0)) ∧ (0 ≤ z1)))))) sz) 0 0 (tw_A 244 ad sz) := by
  refine tw_met (by decide) (Nat.le_of_ble_eq_true rfl) ?_
  intro p e s m args below meth c F hret hlk hin hargs hsz hH ls hl
  have hx := F.1.1
  have hb := F.1.2.1
  have hown := F.1.2.2.2.1
  have hts := F.1.2.2.2.2
  have hl : lv_has ls 5 [(0, .ref (ad 0)), (1, .int x1), (2, .int x2), (3, .int x3), (4, .int x4)] := hl
  generalize hH0 : s.heap = H at hH ⊢
  refine lv_aload_n hx hb dX11_stop_0 rfl (lv_at hl 0 rfl) ?_
  refine tw_get (r := 0) F hH kf_RX11_24 rfl (by decide) hw_0 rfl dX11_stop_1 ?_
  refine lv_iload_n hx hb dX11_stop_4 rfl (lv_at hl 1 rfl) ?_
  refine tw_calli F hH (tw_runV (r := 14) (As := [.int x1]) (rest := []) F hH (c_X2_has l G ad w H.size x1 (z1) e1 hw_14) (tw_gl kw_619 rfl) km_X2_has kv_X2_has rfl rfl ⟨(Nat.le_of_ble_eq_true rfl), (Nat.le_of_ble_eq_true rfl)⟩ (by decide) hw_14 rfl rfl hl.1 rfl (Nat.le_of_ble_eq_true rfl) dX11_stop_5 ⟨(Nat.le_of_ble_eq_true rfl), (Nat.le_of_ble_eq_true rfl)⟩) (fun r3 w1 H locs hp2 _ hH => ?_)
  obtain ⟨rfl, hc4, rfl⟩ := hp2
  refine lv_if_eq (tgt := 28) hx hb dX11_stop_8 (by decide) (fun _ => ?_) (fun c => absurd c (by decide))
  refine lv_iconst (v := -1) hx hb dX11_stop_28 (by decide) ?_
  exact tw_iret F hH hret hlk rfl (Nat.le_of_ble_eq_true rfl) (Nat.le_of_ble_eq_true rfl) dX11_stop_29 (⟨rfl, (by omega)⟩)
set_option maxHeartbeats 4000000 in
set_option maxRecDepth 100000 in
theorem c_X11_drop (l : Launch) (G : tw_G) (ad : Nat → Nat) (w : Nat → va_E) (sz : Nat) (x1 : Int32) (z1 : Int) (e1 : x1.toInt = z1) (x2 : Int32) (z2 : Int) (e2 : x2.toInt = z2) (hw_0 : w 0 = .inr (11, [.ref (ad 4), .ref (ad 14), .ref (ad 156), .ref (ad 221), .ref (ad 225), .ref (ad 233), .ref (ad 236), .int (0 : Int32), .ref (ad 237), .int (0 : Int32), .ref (ad 238)])) (hw_14 : w 14 = .inr (2, [.ref (ad 4), .ref (ad 1), .ref (ad 15), .ref (ad 16), .ref (ad 17), .int (0 : Int32), .int (0 : Int32), .int (0 : Int32)])) : Met l yX11_drop (tw_ws yX11_drop cX11_drop 3 (some .int)) ({ frames := 2, cells := 0, slots := 0, locals := 42 }) (tw_Pre G 244 ad w sz [.ref (ad 0), .int x1, .int x2]) (tw_Qi G 244 ad (fun r w1 => ((-1 : Int32) = r ∧ ((((z1 < 0)) ∨ ((¬ (z1 < 0)) ∧ (0 ≤ z1)))))) sz) 0 0 (tw_A 244 ad sz) := by
  refine tw_met (by decide) (Nat.le_of_ble_eq_true rfl) ?_
  intro p e s m args below meth c F hret hlk hin hargs hsz hH ls hl
  have hx := F.1.1
  have hb := F.1.2.1
  have hown := F.1.2.2.2.1
  have hts := F.1.2.2.2.2
  have hl : lv_has ls 3 [(0, .ref (ad 0)), (1, .int x1), (2, .int x2)] := hl
  generalize hH0 : s.heap = H at hH ⊢
  refine lv_aload_n hx hb dX11_drop_0 rfl (lv_at hl 0 rfl) ?_
  refine tw_get (r := 0) F hH kf_RX11_24 rfl (by decide) hw_0 rfl dX11_drop_1 ?_
  refine lv_iload_n hx hb dX11_drop_4 rfl (lv_at hl 1 rfl) ?_
  refine tw_calli F hH (tw_runV (r := 14) (As := [.int x1]) (rest := []) F hH (c_X2_has l G ad w H.size x1 (z1) e1 hw_14) (tw_gl kw_619 rfl) km_X2_has kv_X2_has rfl rfl ⟨(Nat.le_of_ble_eq_true rfl), (Nat.le_of_ble_eq_true rfl)⟩ (by decide) hw_14 rfl rfl hl.1 rfl (Nat.le_of_ble_eq_true rfl) dX11_drop_5 ⟨(Nat.le_of_ble_eq_true rfl), (Nat.le_of_ble_eq_true rfl)⟩) (fun r3 w1 H locs hp2 _ hH => ?_)
  obtain ⟨rfl, hc4, rfl⟩ := hp2
  refine lv_if_eq (tgt := 33) hx hb dX11_drop_8 (by decide) (fun _ => ?_) (fun c => absurd c (by decide))
  refine lv_iconst (v := -1) hx hb dX11_drop_33 (by decide) ?_
  exact tw_iret F hH hret hlk rfl (Nat.le_of_ble_eq_true rfl) (Nat.le_of_ble_eq_true rfl) dX11_drop_34 (⟨rfl, (by omega)⟩)
set_option maxHeartbeats 4000000 in
set_option maxRecDepth 100000 in
theorem c_X11_takeTape (l : Launch) (G : tw_G) (ad : Nat → Nat) (w : Nat → va_E) (sz : Nat) (hw_0 : w 0 = .inr (11, [.ref (ad 4), .ref (ad 14), .ref (ad 156), .ref (ad 221), .ref (ad 225), .ref (ad 233), .ref (ad 236), .int (0 : Int32), .ref (ad 237), .int (0 : Int32), .ref (ad 238)])) : Met l yX11_takeTape (tw_ws yX11_takeTape cX11_takeTape 2 (some .int)) ({ frames := 0, cells := 0, slots := 0, locals := 0 }) (tw_Pre G 244 ad w sz [.ref (ad 0)]) (tw_Qi G 244 ad (fun r w1 => ((0 : Int32) = r ∧ True ∧ w1 0 = .inr (11, [.ref (ad 4), .ref (ad 14), .ref (ad 156), .ref (ad 221), .ref (ad 225), .ref (ad 233), .ref (ad 236), .int (0 : Int32), .ref (ad 237), .int (0 : Int32), .ref (ad 238)]) ∧ ∀ k, k ≠ 0 → w1 k = w k)) sz) 0 0 (tw_A 244 ad sz) := by
  refine tw_met (by decide) (Nat.le_of_ble_eq_true rfl) ?_
  intro p e s m args below meth c F hret hlk hin hargs hsz hH ls hl
  have hx := F.1.1
  have hb := F.1.2.1
  have hown := F.1.2.2.2.1
  have hts := F.1.2.2.2.2
  have hl : lv_has ls 2 [(0, .ref (ad 0))] := hl
  generalize hH0 : s.heap = H at hH ⊢
  refine lv_aload_n hx hb dX11_takeTape_0 rfl (lv_at hl 0 rfl) ?_
  refine tw_get (r := 0) F hH kf_RX11_218 rfl (by decide) hw_0 rfl dX11_takeTape_1 ?_
  refine lv_istore_n (lv' := [(1, .int (0 : Int32)), (0, .ref (ad 0))]) hx hb dX11_takeTape_4 rfl hl (by decide) rfl (fun ls hl => ?_)
  refine lv_aload_n hx hb dX11_takeTape_5 rfl (lv_at hl 1 rfl) ?_
  refine lv_iconst (v := 0) hx hb dX11_takeTape_6 (by decide) ?_
  refine tw_put (r := 0) F hH kf_RX11_218 kp_X11_7 rfl (by decide) hw_0 (Nat.le_of_ble_eq_true rfl) rfl rfl dX11_takeTape_7 (fun H locs w1 hw2 hne3 hH => ?_)
  have hw2 : w1 0 = .inr (11, [.ref (ad 4), .ref (ad 14), .ref (ad 156), .ref (ad 221), .ref (ad 225), .ref (ad 233), .ref (ad 236), .int (0 : Int32), .ref (ad 237), .int (0 : Int32), .ref (ad 238)]) := hw2
  refine lv_iload_n hx hb dX11_takeTape_10 rfl (lv_at hl 0 rfl) ?_
  exact tw_iret F hH hret hlk rfl (Nat.le_of_ble_eq_true rfl) (Nat.le_of_ble_eq_true rfl) dX11_takeTape_11 (⟨rfl, trivial, hw2, fun k h0 => (hne3 k (by omega))⟩)
set_option maxHeartbeats 4000000 in
set_option maxRecDepth 100000 in
theorem c_X11_plan (l : Launch) (G : tw_G) (ad : Nat → Nat) (w : Nat → va_E) (sz : Nat) (x1 : Int32) (z1 : Int) (e1 : x1.toInt = z1) (hw_0 : w 0 = .inr (11, [.ref (ad 4), .ref (ad 14), .ref (ad 156), .ref (ad 221), .ref (ad 225), .ref (ad 233), .ref (ad 236), .int (0 : Int32), .ref (ad 237), .int (0 : Int32), .ref (ad 238)])) (hw_14 : w 14 = .inr (2, [.ref (ad 4), .ref (ad 1), .ref (ad 15), .ref (ad 16), .ref (ad 17), .int (0 : Int32), .int (0 : Int32), .int (0 : Int32)])) : Met l yX11_plan (tw_ws yX11_plan cX11_plan 5 (some .int)) ({ frames := 2, cells := 0, slots := 0, locals := 42 }) (tw_Pre G 244 ad w sz [.ref (ad 0), .int x1]) (tw_Qi G 244 ad (fun r w1 => ((-100 : Int32) = r ∧ ((((z1 < 0)) ∨ ((¬ (z1 < 0)) ∧ (0 ≤ z1)))))) sz) 0 0 (tw_A 244 ad sz) := by
  refine tw_met (by decide) (Nat.le_of_ble_eq_true rfl) ?_
  intro p e s m args below meth c F hret hlk hin hargs hsz hH ls hl
  have hx := F.1.1
  have hb := F.1.2.1
  have hown := F.1.2.2.2.1
  have hts := F.1.2.2.2.2
  have hl : lv_has ls 5 [(0, .ref (ad 0)), (1, .int x1)] := hl
  generalize hH0 : s.heap = H at hH ⊢
  refine lv_aload_n hx hb dX11_plan_0 rfl (lv_at hl 0 rfl) ?_
  refine tw_calli F hH (tw_runV (r := 0) (As := []) (rest := []) F hH (c_X11_takeTape l G ad w H.size hw_0) (tw_gl kw_649 rfl) km_X11_takeTape kv_X11_takeTape rfl rfl ⟨(Nat.le_of_ble_eq_true rfl), (Nat.le_of_ble_eq_true rfl)⟩ (by decide) hw_0 rfl rfl hl.1 rfl (Nat.le_of_ble_eq_true rfl) dX11_plan_1 ⟨(Nat.le_of_ble_eq_true rfl), (Nat.le_of_ble_eq_true rfl)⟩) (fun r3 w1 H locs hp2 _ hH => ?_)
  obtain ⟨rfl, -, hw5, hfr6⟩ := hp2
  refine lv_istore_n (lv' := [(2, .int (0 : Int32)), (0, .ref (ad 0)), (1, .int x1)]) hx hb dX11_plan_4 rfl hl (by decide) rfl (fun ls hl => ?_)
  refine lv_aload_n hx hb dX11_plan_5 rfl (lv_at hl 1 rfl) ?_
  refine tw_get (r := 0) F hH kf_RX11_24 rfl (by decide) hw5 rfl dX11_plan_6 ?_
  refine lv_iload_n hx hb dX11_plan_9 rfl (lv_at hl 2 rfl) ?_
  have hw7 : w1 14 = .inr (2, [.ref (ad 4), .ref (ad 1), .ref (ad 15), .ref (ad 16), .ref (ad 17), .int (0 : Int32), .int (0 : Int32), .int (0 : Int32)]) := (hfr6 14 (by omega)).trans (hw_14)
  refine tw_calli F hH (tw_runV (r := 14) (As := [.int x1]) (rest := []) F hH (c_X2_has l G ad w1 H.size x1 (z1) e1 hw7) (tw_gl kw_619 rfl) km_X2_has kv_X2_has rfl rfl ⟨(Nat.le_of_ble_eq_true rfl), (Nat.le_of_ble_eq_true rfl)⟩ (by decide) hw7 rfl rfl hl.1 rfl (Nat.le_of_ble_eq_true rfl) dX11_plan_10 ⟨(Nat.le_of_ble_eq_true rfl), (Nat.le_of_ble_eq_true rfl)⟩) (fun r10 w8 H locs hp9 _ hH => ?_)
  obtain ⟨rfl, hc11, rfl⟩ := hp9
  refine lv_if_ne (tgt := 19) hx hb dX11_plan_13 (by decide) (fun c => absurd c (by decide)) (fun _ => ?_)
  refine lv_bipush (v := -100) hx hb dX11_plan_16 (by decide) ?_
  exact tw_iret F hH hret hlk rfl (Nat.le_of_ble_eq_true rfl) (Nat.le_of_ble_eq_true rfl) dX11_plan_18 (⟨rfl, (by omega)⟩)
set_option maxHeartbeats 4000000 in
set_option maxRecDepth 100000 in
theorem c_X11_unplan (l : Launch) (G : tw_G) (ad : Nat → Nat) (w : Nat → va_E) (sz : Nat) (x1 : Int32) (z1 : Int) (e1 : x1.toInt = z1) (hw_0 : w 0 = .inr (11, [.ref (ad 4), .ref (ad 14), .ref (ad 156), .ref (ad 221), .ref (ad 225), .ref (ad 233), .ref (ad 236), .int (0 : Int32), .ref (ad 237), .int (0 : Int32), .ref (ad 238)])) (hw_14 : w 14 = .inr (2, [.ref (ad 4), .ref (ad 1), .ref (ad 15), .ref (ad 16), .ref (ad 17), .int (0 : Int32), .int (0 : Int32), .int (0 : Int32)])) : Met l yX11_unplan (tw_ws yX11_unplan cX11_unplan 2 (some .boolean)) ({ frames := 2, cells := 0, slots := 0, locals := 42 }) (tw_Pre G 244 ad w sz [.ref (ad 0), .int x1]) (tw_Qi G 244 ad (fun r w1 => ((0 : Int32) = r ∧ ((((z1 < 0)) ∨ ((¬ (z1 < 0)) ∧ (0 ≤ z1)))))) sz) 0 0 (tw_A 244 ad sz) := by
  refine tw_met (by decide) (Nat.le_of_ble_eq_true rfl) ?_
  intro p e s m args below meth c F hret hlk hin hargs hsz hH ls hl
  have hx := F.1.1
  have hb := F.1.2.1
  have hown := F.1.2.2.2.1
  have hts := F.1.2.2.2.2
  have hl : lv_has ls 2 [(0, .ref (ad 0)), (1, .int x1)] := hl
  generalize hH0 : s.heap = H at hH ⊢
  refine lv_aload_n hx hb dX11_unplan_0 rfl (lv_at hl 0 rfl) ?_
  refine tw_get (r := 0) F hH kf_RX11_24 rfl (by decide) hw_0 rfl dX11_unplan_1 ?_
  refine lv_iload_n hx hb dX11_unplan_4 rfl (lv_at hl 1 rfl) ?_
  refine tw_calli F hH (tw_runV (r := 14) (As := [.int x1]) (rest := []) F hH (c_X2_has l G ad w H.size x1 (z1) e1 hw_14) (tw_gl kw_619 rfl) km_X2_has kv_X2_has rfl rfl ⟨(Nat.le_of_ble_eq_true rfl), (Nat.le_of_ble_eq_true rfl)⟩ (by decide) hw_14 rfl rfl hl.1 rfl (Nat.le_of_ble_eq_true rfl) dX11_unplan_5 ⟨(Nat.le_of_ble_eq_true rfl), (Nat.le_of_ble_eq_true rfl)⟩) (fun r3 w1 H locs hp2 _ hH => ?_)
  obtain ⟨rfl, hc4, rfl⟩ := hp2
  refine lv_if_eq (tgt := 26) hx hb dX11_unplan_8 (by decide) (fun _ => ?_) (fun c => absurd c (by decide))
  refine lv_iconst (v := 0) hx hb dX11_unplan_26 (by decide) ?_
  exact tw_iret F hH hret hlk rfl (Nat.le_of_ble_eq_true rfl) (Nat.le_of_ble_eq_true rfl) dX11_unplan_27 (⟨rfl, (by omega)⟩)
set_option maxHeartbeats 4000000 in
set_option maxRecDepth 100000 in
theorem c_X2_optionCount (l : Launch) (G : tw_G) (ad : Nat → Nat) (w : Nat → va_E) (sz : Nat) (hw_14 : w 14 = .inr (2, [.ref (ad 4), .ref (ad 1), .ref (ad 15), .ref (ad 16), .ref (ad 17), .int (0 : Int32), .int (0 : Int32), .int (0 : Int32)])) : Met l yX2_optionCount (tw_ws yX2_optionCount cX2_optionCount 3 (some .int)) ({ frames := 0, cells := 0, slots := 0, locals := 0 }) (tw_Pre G 244 ad w sz [.ref (ad 14)]) (tw_Qi G 244 ad (fun r w1 => ((0 : Int32) = r ∧ True ∧ w = w1)) sz) 0 0 (tw_A 244 ad sz) := by
  refine tw_met (by decide) (Nat.le_of_ble_eq_true rfl) ?_
  intro p e s m args below meth c F hret hlk hin hargs hsz hH ls hl
  have hx := F.1.1
  have hb := F.1.2.1
  have hown := F.1.2.2.2.1
  have hts := F.1.2.2.2.2
  have hl : lv_has ls 3 [(0, .ref (ad 14))] := hl
  generalize hH0 : s.heap = H at hH ⊢
  refine lv_iconst (v := 0) hx hb dX2_optionCount_0 (by decide) ?_
  refine lv_istore_n (lv' := [(1, .int (0 : Int32)), (0, .ref (ad 14))]) hx hb dX2_optionCount_1 rfl hl (by decide) rfl (fun ls hl => ?_)
  refine lv_iconst (v := 0) hx hb dX2_optionCount_2 (by decide) ?_
  refine lv_istore_n (lv' := [(2, .int (0 : Int32)), (1, .int (0 : Int32)), (0, .ref (ad 14))]) hx hb dX2_optionCount_3 rfl hl (by decide) rfl (fun ls hl => ?_)
  refine lv_iload_n hx hb dX2_optionCount_4 rfl (lv_at hl 0 rfl) ?_
  refine lv_aload_n hx hb dX2_optionCount_5 rfl (lv_at hl 2 rfl) ?_
  refine tw_get (r := 14) F hH kf_RX2_37 rfl (by decide) hw_14 rfl dX2_optionCount_6 ?_
  refine lv_icmp_ge (tgt := 39) hx hb dX2_optionCount_9 (by decide) (fun _ => ?_) (fun c => absurd c (by decide))
  refine lv_iload_n hx hb dX2_optionCount_39 rfl (lv_at hl 1 rfl) ?_
  exact tw_iret F hH hret hlk rfl (Nat.le_of_ble_eq_true rfl) (Nat.le_of_ble_eq_true rfl) dX2_optionCount_40 (⟨rfl, trivial, rfl⟩)
set_option maxHeartbeats 4000000 in
set_option maxRecDepth 100000 in
theorem c_X11_count (l : Launch) (G : tw_G) (ad : Nat → Nat) (w : Nat → va_E) (sz : Nat) (x1 : Int32) (z1 : Int) (e1 : x1.toInt = z1) (hw_0 : w 0 = .inr (11, [.ref (ad 4), .ref (ad 14), .ref (ad 156), .ref (ad 221), .ref (ad 225), .ref (ad 233), .ref (ad 236), .int (0 : Int32), .ref (ad 237), .int (0 : Int32), .ref (ad 238)])) (hw_4 : w 4 = .inr (9, [.int (2 : Int32), .int (1 : Int32), .ref (ad 5), .ref (ad 6), .ref (ad 7), .ref (ad 8), .ref (ad 9), .ref (ad 10), .ref (ad 12)])) (hw_14 : w 14 = .inr (2, [.ref (ad 4), .ref (ad 1), .ref (ad 15), .ref (ad 16), .ref (ad 17), .int (0 : Int32), .int (0 : Int32), .int (0 : Int32)])) (hw_10 : w 10 = .inr (7, [.int (30 : Int32), .int (3 : Int32), .ref (ad 11), .int (0 : Int32)])) (hw_12 : w 12 = .inr (7, [.int (20 : Int32), .int (4 : Int32), .ref (ad 13), .int (0 : Int32)])) (hw_156 : w 156 = .inr (0, [.ref (ad 1), .ref (ad 157), .ref (ad 158), .int (0 : Int32), .ref (ad 159)])) (hw_159 : w 159 = .inr (7, [.int (20 : Int32), .int (4 : Int32), .ref (ad 160), .int (0 : Int32)])) : Met l yX11_count (tw_ws yX11_count cX11_count 2 (some .int)) ({ frames := 1, cells := 0, slots := 0, locals := 22 }) (tw_Pre G 244 ad w sz [.ref (ad 0), .int x1]) (tw_Qi G 244 ad (fun r w1 => ((2 : Int32) = r ∧ (z1 = 0)) ∨ ((1 : Int32) = r ∧ (z1 = 1)) ∨ ((0 : Int32) = r ∧ (((z1 = 2)) ∨ ((z1 = 3)) ∨ ((z1 = 4)) ∨ ((z1 = 5)) ∨ ((z1 = 6)) ∨ ((z1 = 7)) ∨ ((z1 = 8)) ∨ ((z1 = 9)))) ∨ ((-1 : Int32) = r ∧ ((z1 < 0) ∨ (9 < z1)))) sz) 0 0 (tw_A 244 ad sz) := by
  refine tw_met (by decide) (Nat.le_of_ble_eq_true rfl) ?_
  intro p e s m args below meth c F hret hlk hin hargs hsz hH ls hl
  have hx := F.1.1
  have hb := F.1.2.1
  have hown := F.1.2.2.2.1
  have hts := F.1.2.2.2.2
  have hl : lv_has ls 2 [(0, .ref (ad 0)), (1, .int x1)] := hl
  generalize hH0 : s.heap = H at hH ⊢
  refine lv_iload_n hx hb dX11_count_0 rfl (lv_at hl 1 rfl) ?_
  have c1 : x1.toInt = z1 := e1
  rcases (by omega : (z1 = 0) ∨ (z1 = 1) ∨ (z1 = 2) ∨ (z1 = 3) ∨ (z1 = 4) ∨ (z1 = 5) ∨ (z1 = 6) ∨ (z1 = 7) ∨ (z1 = 8) ∨ (z1 = 9) ∨ ((z1 < 0) ∨ (9 < z1))) with c1x | c1x | c1x | c1x | c1x | c1x | c1x | c1x | c1x | c1x | c1x
  · have c1y : x1.toInt = 0 := by omega
    refine lv_tableIn (off := 55) (tgt := 56) hx hb dX11_count_1 (by omega) (by omega) (by rw [c1y]; decide) (by decide) ?_
    refine lv_aload_n hx hb dX11_count_56 rfl (lv_at hl 0 rfl) ?_
    refine tw_get (r := 0) F hH kf_RX11_15 rfl (by decide) hw_0 rfl dX11_count_57 ?_
    refine tw_get (r := 4) F hH kf_RX11_212 rfl (by decide) hw_4 rfl dX11_count_60 ?_
    exact tw_iret F hH hret hlk rfl (Nat.le_of_ble_eq_true rfl) (Nat.le_of_ble_eq_true rfl) dX11_count_63 (Or.inl (⟨rfl, (by omega)⟩))
  · have c1y : x1.toInt = 1 := by omega
    refine lv_tableIn (off := 63) (tgt := 64) hx hb dX11_count_1 (by omega) (by omega) (by rw [c1y]; decide) (by decide) ?_
    refine lv_aload_n hx hb dX11_count_64 rfl (lv_at hl 0 rfl) ?_
    refine tw_get (r := 0) F hH kf_RX11_15 rfl (by decide) hw_0 rfl dX11_count_65 ?_
    refine tw_get (r := 4) F hH kf_RX11_185 rfl (by decide) hw_4 rfl dX11_count_68 ?_
    exact tw_iret F hH hret hlk rfl (Nat.le_of_ble_eq_true rfl) (Nat.le_of_ble_eq_true rfl) dX11_count_71 (Or.inr (Or.inl (⟨rfl, (by omega)⟩)))
  · have c1y : x1.toInt = 2 := by omega
    refine lv_tableIn (off := 71) (tgt := 72) hx hb dX11_count_1 (by omega) (by omega) (by rw [c1y]; decide) (by decide) ?_
    refine lv_aload_n hx hb dX11_count_72 rfl (lv_at hl 0 rfl) ?_
    refine tw_get (r := 0) F hH kf_RX11_24 rfl (by decide) hw_0 rfl dX11_count_73 ?_
    refine tw_get (r := 14) F hH kf_RX11_80 rfl (by decide) hw_14 rfl dX11_count_76 ?_
    exact tw_iret F hH hret hlk rfl (Nat.le_of_ble_eq_true rfl) (Nat.le_of_ble_eq_true rfl) dX11_count_79 (Or.inr (Or.inr (Or.inl (⟨rfl, (Or.inl (by omega))⟩))))
  · have c1y : x1.toInt = 3 := by omega
    refine lv_tableIn (off := 79) (tgt := 80) hx hb dX11_count_1 (by omega) (by omega) (by rw [c1y]; decide) (by decide) ?_
    refine lv_aload_n hx hb dX11_count_80 rfl (lv_at hl 0 rfl) ?_
    refine tw_get (r := 0) F hH kf_RX11_15 rfl (by decide) hw_0 rfl dX11_count_81 ?_
    refine tw_get (r := 4) F hH kf_RX11_138 rfl (by decide) hw_4 rfl dX11_count_84 ?_
    refine tw_get (r := 10) F hH kf_RX11_95 rfl (by decide) hw_10 rfl dX11_count_87 ?_
    exact tw_iret F hH hret hlk rfl (Nat.le_of_ble_eq_true rfl) (Nat.le_of_ble_eq_true rfl) dX11_count_90 (Or.inr (Or.inr (Or.inl (⟨rfl, (Or.inr (Or.inl (by omega)))⟩))))
  · have c1y : x1.toInt = 4 := by omega
    refine lv_tableIn (off := 90) (tgt := 91) hx hb dX11_count_1 (by omega) (by omega) (by rw [c1y]; decide) (by decide) ?_
    refine lv_aload_n hx hb dX11_count_91 rfl (lv_at hl 0 rfl) ?_
    refine tw_get (r := 0) F hH kf_RX11_15 rfl (by decide) hw_0 rfl dX11_count_92 ?_
    refine tw_get (r := 4) F hH kf_RX11_145 rfl (by decide) hw_4 rfl dX11_count_95 ?_
    refine tw_get (r := 12) F hH kf_RX11_95 rfl (by decide) hw_12 rfl dX11_count_98 ?_
    exact tw_iret F hH hret hlk rfl (Nat.le_of_ble_eq_true rfl) (Nat.le_of_ble_eq_true rfl) dX11_count_101 (Or.inr (Or.inr (Or.inl (⟨rfl, (Or.inr (Or.inr (Or.inl (by omega))))⟩))))
  · have c1y : x1.toInt = 5 := by omega
    refine lv_tableIn (off := 101) (tgt := 102) hx hb dX11_count_1 (by omega) (by omega) (by rw [c1y]; decide) (by decide) ?_
    refine lv_aload_n hx hb dX11_count_102 rfl (lv_at hl 0 rfl) ?_
    refine tw_get (r := 0) F hH kf_RX11_33 rfl (by decide) hw_0 rfl dX11_count_103 ?_
    refine tw_get (r := 156) F hH kf_RX11_88 rfl (by decide) hw_156 rfl dX11_count_106 ?_
    exact tw_iret F hH hret hlk rfl (Nat.le_of_ble_eq_true rfl) (Nat.le_of_ble_eq_true rfl) dX11_count_109 (Or.inr (Or.inr (Or.inl (⟨rfl, (Or.inr (Or.inr (Or.inr (Or.inl (by omega)))))⟩))))
  · have c1y : x1.toInt = 6 := by omega
    refine lv_tableIn (off := 109) (tgt := 110) hx hb dX11_count_1 (by omega) (by omega) (by rw [c1y]; decide) (by decide) ?_
    refine lv_aload_n hx hb dX11_count_110 rfl (lv_at hl 0 rfl) ?_
    refine tw_get (r := 0) F hH kf_RX11_33 rfl (by decide) hw_0 rfl dX11_count_111 ?_
    refine tw_get (r := 156) F hH kf_RX11_91 rfl (by decide) hw_156 rfl dX11_count_114 ?_
    refine tw_get (r := 159) F hH kf_RX11_95 rfl (by decide) hw_159 rfl dX11_count_117 ?_
    exact tw_iret F hH hret hlk rfl (Nat.le_of_ble_eq_true rfl) (Nat.le_of_ble_eq_true rfl) dX11_count_120 (Or.inr (Or.inr (Or.inl (⟨rfl, (Or.inr (Or.inr (Or.inr (Or.inr (Or.inl (by omega))))))⟩))))
  · have c1y : x1.toInt = 7 := by omega
    refine lv_tableIn (off := 120) (tgt := 121) hx hb dX11_count_1 (by omega) (by omega) (by rw [c1y]; decide) (by decide) ?_
    refine lv_aload_n hx hb dX11_count_121 rfl (lv_at hl 0 rfl) ?_
    refine tw_get (r := 0) F hH kf_RX11_215 rfl (by decide) hw_0 rfl dX11_count_122 ?_
    exact tw_iret F hH hret hlk rfl (Nat.le_of_ble_eq_true rfl) (Nat.le_of_ble_eq_true rfl) dX11_count_125 (Or.inr (Or.inr (Or.inl (⟨rfl, (Or.inr (Or.inr (Or.inr (Or.inr (Or.inr (Or.inl (by omega)))))))⟩))))
  · have c1y : x1.toInt = 8 := by omega
    refine lv_tableIn (off := 125) (tgt := 126) hx hb dX11_count_1 (by omega) (by omega) (by rw [c1y]; decide) (by decide) ?_
    refine lv_aload_n hx hb dX11_count_126 rfl (lv_at hl 0 rfl) ?_
    refine tw_get (r := 0) F hH kf_RX11_218 rfl (by decide) hw_0 rfl dX11_count_127 ?_
    exact tw_iret F hH hret hlk rfl (Nat.le_of_ble_eq_true rfl) (Nat.le_of_ble_eq_true rfl) dX11_count_130 (Or.inr (Or.inr (Or.inl (⟨rfl, (Or.inr (Or.inr (Or.inr (Or.inr (Or.inr (Or.inr (Or.inl (by omega))))))))⟩))))
  · have c1y : x1.toInt = 9 := by omega
    refine lv_tableIn (off := 130) (tgt := 131) hx hb dX11_count_1 (by omega) (by omega) (by rw [c1y]; decide) (by decide) ?_
    refine lv_aload_n hx hb dX11_count_131 rfl (lv_at hl 0 rfl) ?_
    refine tw_get (r := 0) F hH kf_RX11_24 rfl (by decide) hw_0 rfl dX11_count_132 ?_
    refine tw_calli F hH (tw_runV (r := 14) (As := []) (rest := []) F hH (c_X2_optionCount l G ad w H.size hw_14) (tw_gl kw_844 rfl) km_X2_optionCount kv_X2_optionCount rfl rfl ⟨(Nat.le_of_ble_eq_true rfl), (Nat.le_of_ble_eq_true rfl)⟩ (by decide) hw_14 rfl rfl hl.1 rfl (Nat.le_of_ble_eq_true rfl) dX11_count_135 ⟨(Nat.le_of_ble_eq_true rfl), (Nat.le_of_ble_eq_true rfl)⟩) (fun r4 w2 H locs hp3 _ hH => ?_)
    obtain ⟨rfl, -, rfl⟩ := hp3
    exact tw_iret F hH hret hlk rfl (Nat.le_of_ble_eq_true rfl) (Nat.le_of_ble_eq_true rfl) dX11_count_138 (Or.inr (Or.inr (Or.inl (⟨rfl, (Or.inr (Or.inr (Or.inr (Or.inr (Or.inr (Or.inr (Or.inr (by omega))))))))⟩))))
  · refine lv_tableOut (tgt := 139) hx hb dX11_count_1 (by omega) (by decide) ?_
    refine lv_iconst (v := -1) hx hb dX11_count_139 (by decide) ?_
    exact tw_iret F hH hret hlk rfl (Nat.le_of_ble_eq_true rfl) (Nat.le_of_ble_eq_true rfl) dX11_count_140 (Or.inr (Or.inr (Or.inr (⟨rfl, (by omega)⟩))))
set_option maxHeartbeats 4000000 in
set_option maxRecDepth 100000 in
theorem c_X11_of (l : Launch) (G : tw_G) (hst : l.stackTraces = false) (ad : Nat → Nat) (w : Nat → va_E) (sz : Nat) (x1 : Int32) (z1 : Int) (e1 : x1.toInt = z1) (x2 : Int32) (z2 : Int) (e2 : x2.toInt = z2) (hw_0 : w 0 = .inr (11, [.ref (ad 4), .ref (ad 14), .ref (ad 156), .ref (ad 221), .ref (ad 225), .ref (ad 233), .ref (ad 236), .int (0 : Int32), .ref (ad 237), .int (0 : Int32), .ref (ad 238)])) (hw_14 : w 14 = .inr (2, [.ref (ad 4), .ref (ad 1), .ref (ad 15), .ref (ad 16), .ref (ad 17), .int (0 : Int32), .int (0 : Int32), .int (0 : Int32)])) : vx_Met l yX11_of (tw_ws yX11_of cX11_of 3 (some .int)) ({ frames := 6, cells := 1, slots := 6, locals := 81 }) (tw_Pre G 244 ad w sz [.ref (ad 0), .int x1, .int x2]) (tw_Qi G 244 ad (fun _ _ => False) sz) (tw_X G 244 ad (fun w1 => w = w1) sz) 1 6 (tw_A 244 ad sz) := by
  refine tw_metX (by decide) (Nat.le_of_ble_eq_true rfl) ?_
  intro p e s m args below meth c F hret hlk hex hargs hsz hH ls hl
  have hx := F.1.1
  have hb := F.1.2.1
  have hown := F.1.2.2.2.1
  have hts := F.1.2.2.2.2
  have hl : lv_has ls 3 [(0, .ref (ad 0)), (1, .int x1), (2, .int x2)] := hl
  generalize hH0 : s.heap = H at hH ⊢
  refine lv_aload_n hx hb dX11_of_0 rfl (lv_at hl 0 rfl) ?_
  refine tw_get (r := 0) F hH kf_RX11_24 rfl (by decide) hw_0 rfl dX11_of_1 ?_
  refine lv_iload_n hx hb dX11_of_4 rfl (lv_at hl 1 rfl) ?_
  refine tw_calli F hH (tw_runV (r := 14) (As := [.int x1]) (rest := []) F hH (c_X2_has l G ad w H.size x1 (z1) e1 hw_14) (tw_gl kw_619 rfl) km_X2_has kv_X2_has rfl rfl ⟨(Nat.le_of_ble_eq_true rfl), (Nat.le_of_ble_eq_true rfl)⟩ (by decide) hw_14 rfl rfl hl.1 rfl (Nat.le_of_ble_eq_true rfl) dX11_of_5 ⟨(Nat.le_of_ble_eq_true rfl), (Nat.le_of_ble_eq_true rfl)⟩) (fun r3 w1 H locs hp2 _ hH => ?_)
  obtain ⟨rfl, hc4, rfl⟩ := hp2
  refine lv_if_eq (tgt := 21) hx hb dX11_of_8 (by decide) (fun _ => ?_) (fun c => absurd c (by decide))
  exact tw_throw0 F hH hst hl.1 hex hlk ⟨(Nat.le_of_ble_eq_true rfl), (Nat.le_of_ble_eq_true rfl), (Nat.le_of_ble_eq_true rfl), (Nat.le_of_ble_eq_true rfl)⟩ (Nat.le_of_ble_eq_true rfl) (Nat.le_of_ble_eq_true rfl) dX11_of_21 dX11_of_24 dX11_of_25 dX11_of_28 rfl
set_option maxHeartbeats 4000000 in
set_option maxRecDepth 100000 in
theorem c_L_of (l : Launch) (G : tw_G) (hst : l.stackTraces = false) (ad : Nat → Nat) (w : Nat → va_E) (sz : Nat) (x1 : Int32) (z1 : Int) (e1 : x1.toInt = z1) (x2 : Int32) (z2 : Int) (e2 : x2.toInt = z2) (a3 : Nat) (hw_0 : w 0 = .inr (11, [.ref (ad 4), .ref (ad 14), .ref (ad 156), .ref (ad 221), .ref (ad 225), .ref (ad 233), .ref (ad 236), .int (0 : Int32), .ref (ad 237), .int (0 : Int32), .ref (ad 238)])) (hw_14 : w 14 = .inr (2, [.ref (ad 4), .ref (ad 1), .ref (ad 15), .ref (ad 16), .ref (ad 17), .int (0 : Int32), .int (0 : Int32), .int (0 : Int32)])) : Met l yL_of (tw_wsW yL_of cL_of 5 (some .int) [(0, 10, 13, 13)]) ({ frames := 7, cells := 1, slots := 6, locals := 103 }) (tw_Pre G 244 ad w sz [.ref (ad 0), .int x1, .int x2, .ref a3]) (tw_Qi G 244 ad (fun r w1 => (1 : Int32) = r ∧ True ∧ w = w1) sz) 1 6 (tw_A 244 ad sz) := by
  refine tw_metW (by decide) (Nat.le_of_ble_eq_true rfl) ?_
  intro p e s m args below meth c F hret hlk htab hargs hsz hH ls hl
  have hx := F.1.1
  have hb := F.1.2.1
  have hown := F.1.2.2.2.1
  have hts := F.1.2.2.2.2
  have hl : lv_has ls 5 [(0, .ref (ad 0)), (1, .int x1), (2, .int x2), (3, .ref a3)] := hl
  generalize hH0 : s.heap = H at hH ⊢
  refine lv_aload_n hx hb dL_of_0 rfl (lv_at hl 3 rfl) ?_
  refine lv_iconst (v := 0) hx hb dL_of_1 (by decide) ?_
  refine lv_aload_n hx hb dL_of_2 rfl (lv_at hl 0 rfl) ?_
  refine lv_iload_n hx hb dL_of_3 rfl (lv_at hl 1 rfl) ?_
  refine lv_iload_n hx hb dL_of_4 rfl (lv_at hl 2 rfl) ?_
  refine tw_callX F hH (tw_runVX (r := 0) (As := [.int x1, .int x2]) (rest := [.int (0 : Int32), .ref a3]) F hH (c_X11_of l G hst ad w H.size x1 z1 e1 x2 z2 e2 hw_0 hw_14) (tw_gl kw_1256 rfl) km_X11_of kv_X11_of rfl rfl ⟨(Nat.le_of_ble_eq_true rfl), (Nat.le_of_ble_eq_true rfl)⟩ (by decide) hw_0 rfl rfl hl.1 rfl (Nat.le_of_ble_eq_true rfl) dL_of_5 ⟨(Nat.le_of_ble_eq_true rfl), (Nat.le_of_ble_eq_true rfl)⟩) (fun ce q9 w1 H locs hp hH hc1 hc2 hc3 => ?_) (fun r w1 H locs hp hH => hp.elim)
  subst hp
  refine vx_catch (E := tw_nse) (name := "java/util/NoSuchElementException") hown [] _ [] htab (fun z h => nomatch h) (by decide) (by decide) (hts _ (tw_gl kw_1255 rfl)) (va_Nw.use rfl F.2.1.2.1.2.2.1) hc1 hc2 hc3 ?_
  refine lv_astore (lv' := [(4, .ref q9), (0, .ref (ad 0)), (1, .int x1), (2, .int x2), (3, .ref a3)]) hx hb dL_of_13 hl (by decide) rfl (fun ls hl => ?_)
  refine lv_iconst (v := 1) hx hb dL_of_15 (by decide) ?_
  exact tw_iret F hH hret hlk rfl (Nat.le_of_ble_eq_true rfl) (Nat.le_of_ble_eq_true rfl) dL_of_16 ⟨rfl, trivial, rfl⟩
set_option maxHeartbeats 4000000 in
set_option maxRecDepth 100000 in
theorem c_X11_at (l : Launch) (G : tw_G) (ad : Nat → Nat) (w : Nat → va_E) (sz : Nat) (x1 : Int32) (z1 : Int) (e1 : x1.toInt = z1) (x2 : Int32) (z2 : Int) (e2 : x2.toInt = z2) (x3 : Int32) (z3 : Int) (e3 : x3.toInt = z3) (hw_0 : w 0 = .inr (11, [.ref (ad 4), .ref (ad 14), .ref (ad 156), .ref (ad 221), .ref (ad 225), .ref (ad 233), .ref (ad 236), .int (0 : Int32), .ref (ad 237), .int (0 : Int32), .ref (ad 238)])) (hw_14 : w 14 = .inr (2, [.ref (ad 4), .ref (ad 1), .ref (ad 15), .ref (ad 16), .ref (ad 17), .int (0 : Int32), .int (0 : Int32), .int (0 : Int32)])) : Met l yX11_at (tw_ws yX11_at cX11_at 4 (some .int)) ({ frames := 2, cells := 0, slots := 0, locals := 42 }) (tw_Pre G 244 ad w sz [.ref (ad 0), .int x1, .int x2, .int x3]) (tw_Qi G 244 ad (fun r w1 => ((-1 : Int32) = r ∧ ((((z1 < 0)) ∨ ((¬ (z1 < 0)) ∧ (0 ≤ z1)))))) sz) 0 0 (tw_A 244 ad sz) := by
  refine tw_met (by decide) (Nat.le_of_ble_eq_true rfl) ?_
  intro p e s m args below meth c F hret hlk hin hargs hsz hH ls hl
  have hx := F.1.1
  have hb := F.1.2.1
  have hown := F.1.2.2.2.1
  have hts := F.1.2.2.2.2
  have hl : lv_has ls 4 [(0, .ref (ad 0)), (1, .int x1), (2, .int x2), (3, .int x3)] := hl
  generalize hH0 : s.heap = H at hH ⊢
  refine lv_aload_n hx hb dX11_at_0 rfl (lv_at hl 0 rfl) ?_
  refine tw_get (r := 0) F hH kf_RX11_24 rfl (by decide) hw_0 rfl dX11_at_1 ?_
  refine lv_iload_n hx hb dX11_at_4 rfl (lv_at hl 1 rfl) ?_
  refine tw_calli F hH (tw_runV (r := 14) (As := [.int x1]) (rest := []) F hH (c_X2_has l G ad w H.size x1 (z1) e1 hw_14) (tw_gl kw_619 rfl) km_X2_has kv_X2_has rfl rfl ⟨(Nat.le_of_ble_eq_true rfl), (Nat.le_of_ble_eq_true rfl)⟩ (by decide) hw_14 rfl rfl hl.1 rfl (Nat.le_of_ble_eq_true rfl) dX11_at_5 ⟨(Nat.le_of_ble_eq_true rfl), (Nat.le_of_ble_eq_true rfl)⟩) (fun r3 w1 H locs hp2 _ hH => ?_)
  obtain ⟨rfl, hc4, rfl⟩ := hp2
  refine lv_if_eq (tgt := 23) hx hb dX11_at_8 (by decide) (fun _ => ?_) (fun c => absurd c (by decide))
  refine lv_iconst (v := -1) hx hb dX11_at_23 (by decide) ?_
  exact tw_iret F hH hret hlk rfl (Nat.le_of_ble_eq_true rfl) (Nat.le_of_ble_eq_true rfl) dX11_at_24 (⟨rfl, (by omega)⟩)
set_option maxHeartbeats 4000000 in
set_option maxRecDepth 100000 in
theorem c_X11_led (l : Launch) (G : tw_G) (ad : Nat → Nat) (w : Nat → va_E) (sz : Nat) (x1 : Int32) (z1 : Int) (e1 : x1.toInt = z1) (x2 : Int32) (z2 : Int) (e2 : x2.toInt = z2) (hw_0 : w 0 = .inr (11, [.ref (ad 4), .ref (ad 14), .ref (ad 156), .ref (ad 221), .ref (ad 225), .ref (ad 233), .ref (ad 236), .int (0 : Int32), .ref (ad 237), .int (0 : Int32), .ref (ad 238)])) (hw_4 : w 4 = .inr (9, [.int (2 : Int32), .int (1 : Int32), .ref (ad 5), .ref (ad 6), .ref (ad 7), .ref (ad 8), .ref (ad 9), .ref (ad 10), .ref (ad 12)])) (hw_14 : w 14 = .inr (2, [.ref (ad 4), .ref (ad 1), .ref (ad 15), .ref (ad 16), .ref (ad 17), .int (0 : Int32), .int (0 : Int32), .int (0 : Int32)])) : Met l yX11_led (tw_ws yX11_led cX11_led 3 (some .int)) ({ frames := 1, cells := 0, slots := 0, locals := 21 }) (tw_Pre G 244 ad w sz [.ref (ad 0), .int x1, .int x2]) (tw_Qi G 244 ad (fun r w1 => ((-1 : Int32) = r ∧ (((((z1 < 0)) ∨ ((¬ (z1 < 0)) ∧ (1 ≤ z1)))) ∨ (((¬ (z1 < 0)) ∧ (¬ (1 ≤ z1))) ∧ (((z2 < 0)) ∨ ((¬ (z2 < 0)) ∧ (0 ≤ z2))))))) sz) 0 0 (tw_A 244 ad sz) := by
  refine tw_met (by decide) (Nat.le_of_ble_eq_true rfl) ?_
  intro p e s m args below meth c F hret hlk hin hargs hsz hH ls hl
  have hx := F.1.1
  have hb := F.1.2.1
  have hown := F.1.2.2.2.1
  have hts := F.1.2.2.2.2
  have hl : lv_has ls 3 [(0, .ref (ad 0)), (1, .int x1), (2, .int x2)] := hl
  generalize hH0 : s.heap = H at hH ⊢
  refine lv_iload_n hx hb dX11_led_0 rfl (lv_at hl 1 rfl) ?_
  refine lv_aload_n hx hb dX11_led_1 rfl (lv_at hl 0 rfl) ?_
  refine tw_get (r := 0) F hH kf_RX11_15 rfl (by decide) hw_0 rfl dX11_led_2 ?_
  refine tw_get (r := 4) F hH kf_RX11_185 rfl (by decide) hw_4 rfl dX11_led_5 ?_
  refine tw_calli F hH (tw_runS (As := [.int x1, .int (1 : Int32)]) (rest := []) F hH (c_X11_isIndex l G 244 ad w H.size x1 (z1) e1 (1 : Int32) 1 (by decide : (1 : Int32).toInt = 1)) (tw_gl kw_572 rfl) km_X11_isIndex (tw_gl kw_562 rfl) rfl rfl ⟨(Nat.le_of_ble_eq_true rfl), (Nat.le_of_ble_eq_true rfl)⟩ rfl hl.1 rfl (Nat.le_of_ble_eq_true rfl) dX11_led_8 ⟨(Nat.le_of_ble_eq_true rfl), (Nat.le_of_ble_eq_true rfl)⟩) (fun r3 w1 H locs hp2 _ hH => ?_)
  rcases hp2 with ⟨rfl, hc4, rfl⟩ | ⟨rfl, hc5, rfl⟩
  · skip
    refine lv_if_eq (tgt := 28) hx hb dX11_led_11 (by decide) (fun _ => ?_) (fun c => absurd c (by decide))
    refine lv_iconst (v := -1) hx hb dX11_led_28 (by decide) ?_
    exact tw_iret F hH hret hlk rfl (Nat.le_of_ble_eq_true rfl) (Nat.le_of_ble_eq_true rfl) dX11_led_29 (⟨rfl, (Or.inl (by omega))⟩)
  · skip
    refine lv_if_eq (tgt := 28) hx hb dX11_led_11 (by decide) (fun c => absurd c (by decide)) (fun _ => ?_)
    refine lv_iload_n hx hb dX11_led_14 rfl (lv_at hl 2 rfl) ?_
    refine lv_aload_n hx hb dX11_led_15 rfl (lv_at hl 0 rfl) ?_
    refine tw_get (r := 0) F hH kf_RX11_24 rfl (by decide) hw_0 rfl dX11_led_16 ?_
    refine tw_get (r := 14) F hH kf_RX11_80 rfl (by decide) hw_14 rfl dX11_led_19 ?_
    refine tw_calli F hH (tw_runS (As := [.int x2, .int (0 : Int32)]) (rest := []) F hH (c_X11_isIndex l G 244 ad w H.size x2 (z2) e2 (0 : Int32) 0 (by decide : (0 : Int32).toInt = 0)) (tw_gl kw_572 rfl) km_X11_isIndex (tw_gl kw_562 rfl) rfl rfl ⟨(Nat.le_of_ble_eq_true rfl), (Nat.le_of_ble_eq_true rfl)⟩ rfl hl.1 rfl (Nat.le_of_ble_eq_true rfl) dX11_led_22 ⟨(Nat.le_of_ble_eq_true rfl), (Nat.le_of_ble_eq_true rfl)⟩) (fun r10 w8 H locs hp9 _ hH => ?_)
    rcases hp9 with ⟨rfl, hc11, rfl⟩ | ⟨rfl, hc12, rfl⟩
    · skip
      refine lv_if_ne (tgt := 30) hx hb dX11_led_25 (by decide) (fun c => absurd c (by decide)) (fun _ => ?_)
      refine lv_iconst (v := -1) hx hb dX11_led_28 (by decide) ?_
      exact tw_iret F hH hret hlk rfl (Nat.le_of_ble_eq_true rfl) (Nat.le_of_ble_eq_true rfl) dX11_led_29 (⟨rfl, (Or.inr (by omega))⟩)
    · exfalso; omega
set_option maxHeartbeats 4000000 in
set_option maxRecDepth 100000 in
theorem c_X11_waited (l : Launch) (G : tw_G) (ad : Nat → Nat) (w : Nat → va_E) (sz : Nat) (x1 : Int32) (z1 : Int) (e1 : x1.toInt = z1) (hw_0 : w 0 = .inr (11, [.ref (ad 4), .ref (ad 14), .ref (ad 156), .ref (ad 221), .ref (ad 225), .ref (ad 233), .ref (ad 236), .int (0 : Int32), .ref (ad 237), .int (0 : Int32), .ref (ad 238)])) (hw_14 : w 14 = .inr (2, [.ref (ad 4), .ref (ad 1), .ref (ad 15), .ref (ad 16), .ref (ad 17), .int (0 : Int32), .int (0 : Int32), .int (0 : Int32)])) : Met l yX11_waited (tw_ws yX11_waited cX11_waited 2 (some .int)) ({ frames := 2, cells := 0, slots := 0, locals := 42 }) (tw_Pre G 244 ad w sz [.ref (ad 0), .int x1]) (tw_Qi G 244 ad (fun r w1 => ((-1 : Int32) = r ∧ ((((z1 < 0)) ∨ ((¬ (z1 < 0)) ∧ (0 ≤ z1)))))) sz) 0 0 (tw_A 244 ad sz) := by
  refine tw_met (by decide) (Nat.le_of_ble_eq_true rfl) ?_
  intro p e s m args below meth c F hret hlk hin hargs hsz hH ls hl
  have hx := F.1.1
  have hb := F.1.2.1
  have hown := F.1.2.2.2.1
  have hts := F.1.2.2.2.2
  have hl : lv_has ls 2 [(0, .ref (ad 0)), (1, .int x1)] := hl
  generalize hH0 : s.heap = H at hH ⊢
  refine lv_aload_n hx hb dX11_waited_0 rfl (lv_at hl 0 rfl) ?_
  refine tw_get (r := 0) F hH kf_RX11_24 rfl (by decide) hw_0 rfl dX11_waited_1 ?_
  refine lv_iload_n hx hb dX11_waited_4 rfl (lv_at hl 1 rfl) ?_
  refine tw_calli F hH (tw_runV (r := 14) (As := [.int x1]) (rest := []) F hH (c_X2_has l G ad w H.size x1 (z1) e1 hw_14) (tw_gl kw_619 rfl) km_X2_has kv_X2_has rfl rfl ⟨(Nat.le_of_ble_eq_true rfl), (Nat.le_of_ble_eq_true rfl)⟩ (by decide) hw_14 rfl rfl hl.1 rfl (Nat.le_of_ble_eq_true rfl) dX11_waited_5 ⟨(Nat.le_of_ble_eq_true rfl), (Nat.le_of_ble_eq_true rfl)⟩) (fun r3 w1 H locs hp2 _ hH => ?_)
  obtain ⟨rfl, hc4, rfl⟩ := hp2
  refine lv_if_ne (tgt := 13) hx hb dX11_waited_8 (by decide) (fun c => absurd c (by decide)) (fun _ => ?_)
  refine lv_iconst (v := -1) hx hb dX11_waited_11 (by decide) ?_
  exact tw_iret F hH hret hlk rfl (Nat.le_of_ble_eq_true rfl) (Nat.le_of_ble_eq_true rfl) dX11_waited_12 (⟨rfl, (by omega)⟩)
set_option maxHeartbeats 4000000 in
set_option maxRecDepth 100000 in
theorem c_J7_fill_53178 (l : Launch) (G : tw_G) (ad : Nat → Nat) (w : Nat → va_E) (sz : Nat) (hw_17 : w 17 = .inl (G.2.1 0, 4, .inl (fun _ => 0))) : Met l yJ7_fill_53178 (tw_ws yJ7_fill_53178 cJ7_fill_53178 4 none) ({ frames := 0, cells := 0, slots := 0, locals := 0 }) (tw_Pre G 244 ad w sz [.ref (ad 17), .int (0 : Int32)]) (tw_Qv G 244 ad (fun w1 => (True ∧ w1 17 = .inl (G.2.1 0, 4, .inl (upd (upd (upd (upd (fun _ => 0) 0 (0 : Int32)) 1 (0 : Int32)) 2 (0 : Int32)) 3 (0 : Int32))) ∧ ∀ k, k ≠ 17 → w1 k = w k)) sz) 0 0 (tw_A 244 ad sz) := by
  refine tw_met (by decide) (Nat.le_of_ble_eq_true rfl) ?_
  intro p e s m args below meth c F hret hlk hin hargs hsz hH ls hl
  have hx := F.1.1
  have hb := F.1.2.1
  have hown := F.1.2.2.2.1
  have hts := F.1.2.2.2.2
  have hl : lv_has ls 4 [(0, .ref (ad 17)), (1, .int (0 : Int32))] := hl
  generalize hH0 : s.heap = H at hH ⊢
  refine lv_iconst (v := 0) hx hb dJ7_fill_53178_0 (by decide) ?_
  refine lv_istore_n (lv' := [(2, .int (0 : Int32)), (0, .ref (ad 17)), (1, .int (0 : Int32))]) hx hb dJ7_fill_53178_1 rfl hl (by decide) rfl (fun ls hl => ?_)
  refine lv_aload_n hx hb dJ7_fill_53178_2 rfl (lv_at hl 1 rfl) ?_
  refine tw_alen (r := 17) (t := 0) (v := 4) F hH rfl rfl (by decide) hw_17 (by decide) dJ7_fill_53178_3 ?_
  refine lv_istore_n (lv' := [(3, .int (4 : Int32)), (2, .int (0 : Int32)), (0, .ref (ad 17)), (1, .int (0 : Int32))]) hx hb dJ7_fill_53178_4 rfl hl (by decide) rfl (fun ls hl => ?_)
  refine lv_iload_n hx hb dJ7_fill_53178_5 rfl (lv_at hl 1 rfl) ?_
  refine lv_iload_n hx hb dJ7_fill_53178_6 rfl (lv_at hl 0 rfl) ?_
  refine lv_icmp_ge (tgt := 20) hx hb dJ7_fill_53178_7 (by decide) (fun c => absurd c (by decide)) (fun _ => ?_)
  refine lv_aload_n hx hb dJ7_fill_53178_10 rfl (lv_at hl 2 rfl) ?_
  refine lv_iload_n hx hb dJ7_fill_53178_11 rfl (lv_at hl 1 rfl) ?_
  refine lv_iload_n hx hb dJ7_fill_53178_12 rfl (lv_at hl 3 rfl) ?_
  refine tw_iast (r := 17) (j := 0) F hH rfl (by decide) hw_17 (by decide) (by decide) dJ7_fill_53178_13 (fun H locs w2 hw3 hne4 hH => ?_)
  refine lv_iinc (v := (1 : Int32)) (lv' := [(2, .int (1 : Int32)), (3, .int (4 : Int32)), (0, .ref (ad 17)), (1, .int (0 : Int32))]) hx hb dJ7_fill_53178_14 hl (k := 1) rfl (by decide) (by decide) rfl (fun ls hl => ?_)
  refine lv_goto (tgt := 5) hx hb dJ7_fill_53178_17 (by decide) ?_
  refine lv_iload_n hx hb dJ7_fill_53178_5 rfl (lv_at hl 0 rfl) ?_
  refine lv_iload_n hx hb dJ7_fill_53178_6 rfl (lv_at hl 1 rfl) ?_
  refine lv_icmp_ge (tgt := 20) hx hb dJ7_fill_53178_7 (by decide) (fun c => absurd c (by decide)) (fun _ => ?_)
  refine lv_aload_n hx hb dJ7_fill_53178_10 rfl (lv_at hl 2 rfl) ?_
  refine lv_iload_n hx hb dJ7_fill_53178_11 rfl (lv_at hl 0 rfl) ?_
  refine lv_iload_n hx hb dJ7_fill_53178_12 rfl (lv_at hl 3 rfl) ?_
  refine tw_iast (r := 17) (j := 1) F hH rfl (by decide) hw3 (by decide) (by decide) dJ7_fill_53178_13 (fun H locs w6 hw7 hne8 hH => ?_)
  refine lv_iinc (v := (2 : Int32)) (lv' := [(2, .int (2 : Int32)), (3, .int (4 : Int32)), (0, .ref (ad 17)), (1, .int (0 : Int32))]) hx hb dJ7_fill_53178_14 hl (k := 0) rfl (by decide) (by decide) rfl (fun ls hl => ?_)
  refine lv_goto (tgt := 5) hx hb dJ7_fill_53178_17 (by decide) ?_
  refine lv_iload_n hx hb dJ7_fill_53178_5 rfl (lv_at hl 0 rfl) ?_
  refine lv_iload_n hx hb dJ7_fill_53178_6 rfl (lv_at hl 1 rfl) ?_
  refine lv_icmp_ge (tgt := 20) hx hb dJ7_fill_53178_7 (by decide) (fun c => absurd c (by decide)) (fun _ => ?_)
  refine lv_aload_n hx hb dJ7_fill_53178_10 rfl (lv_at hl 2 rfl) ?_
  refine lv_iload_n hx hb dJ7_fill_53178_11 rfl (lv_at hl 0 rfl) ?_
  refine lv_iload_n hx hb dJ7_fill_53178_12 rfl (lv_at hl 3 rfl) ?_
  refine tw_iast (r := 17) (j := 2) F hH rfl (by decide) hw7 (by decide) (by decide) dJ7_fill_53178_13 (fun H locs w10 hw11 hne12 hH => ?_)
  refine lv_iinc (v := (3 : Int32)) (lv' := [(2, .int (3 : Int32)), (3, .int (4 : Int32)), (0, .ref (ad 17)), (1, .int (0 : Int32))]) hx hb dJ7_fill_53178_14 hl (k := 0) rfl (by decide) (by decide) rfl (fun ls hl => ?_)
  refine lv_goto (tgt := 5) hx hb dJ7_fill_53178_17 (by decide) ?_
  refine lv_iload_n hx hb dJ7_fill_53178_5 rfl (lv_at hl 0 rfl) ?_
  refine lv_iload_n hx hb dJ7_fill_53178_6 rfl (lv_at hl 1 rfl) ?_
  refine lv_icmp_ge (tgt := 20) hx hb dJ7_fill_53178_7 (by decide) (fun c => absurd c (by decide)) (fun _ => ?_)
  refine lv_aload_n hx hb dJ7_fill_53178_10 rfl (lv_at hl 2 rfl) ?_
  refine lv_iload_n hx hb dJ7_fill_53178_11 rfl (lv_at hl 0 rfl) ?_
  refine lv_iload_n hx hb dJ7_fill_53178_12 rfl (lv_at hl 3 rfl) ?_
  refine tw_iast (r := 17) (j := 3) F hH rfl (by decide) hw11 (by decide) (by decide) dJ7_fill_53178_13 (fun H locs w14 hw15 hne16 hH => ?_)
  refine lv_iinc (v := (4 : Int32)) (lv' := [(2, .int (4 : Int32)), (3, .int (4 : Int32)), (0, .ref (ad 17)), (1, .int (0 : Int32))]) hx hb dJ7_fill_53178_14 hl (k := 0) rfl (by decide) (by decide) rfl (fun ls hl => ?_)
  refine lv_goto (tgt := 5) hx hb dJ7_fill_53178_17 (by decide) ?_
  refine lv_iload_n hx hb dJ7_fill_53178_5 rfl (lv_at hl 0 rfl) ?_
  refine lv_iload_n hx hb dJ7_fill_53178_6 rfl (lv_at hl 1 rfl) ?_
  refine lv_icmp_ge (tgt := 20) hx hb dJ7_fill_53178_7 (by decide) (fun _ => ?_) (fun c => absurd c (by decide))
  exact tw_vret F hH hret hlk (Nat.le_of_ble_eq_true rfl) (Nat.le_of_ble_eq_true rfl) dJ7_fill_53178_20 (⟨trivial, hw15, fun k h0 => ((hne16 k (by omega)).trans ((hne12 k (by omega)).trans ((hne8 k (by omega)).trans (hne4 k (by omega)))))⟩)
set_option maxHeartbeats 4000000 in
set_option maxRecDepth 100000 in
theorem c_X2_nextToGo (l : Launch) (G : tw_G) (ad : Nat → Nat) (w : Nat → va_E) (sz : Nat) (hw_14 : w 14 = .inr (2, [.ref (ad 4), .ref (ad 1), .ref (ad 15), .ref (ad 16), .ref (ad 17), .int (0 : Int32), .int (0 : Int32), .int (0 : Int32)])) : Met l yX2_nextToGo (tw_ws yX2_nextToGo cX2_nextToGo 3 (some .int)) ({ frames := 0, cells := 0, slots := 0, locals := 0 }) (tw_Pre G 244 ad w sz [.ref (ad 14)]) (tw_Qi G 244 ad (fun r w1 => ((-1 : Int32) = r ∧ True ∧ w = w1)) sz) 0 0 (tw_A 244 ad sz) := by
  refine tw_met (by decide) (Nat.le_of_ble_eq_true rfl) ?_
  intro p e s m args below meth c F hret hlk hin hargs hsz hH ls hl
  have hx := F.1.1
  have hb := F.1.2.1
  have hown := F.1.2.2.2.1
  have hts := F.1.2.2.2.2
  have hl : lv_has ls 3 [(0, .ref (ad 14))] := hl
  generalize hH0 : s.heap = H at hH ⊢
  refine lv_iconst (v := -1) hx hb dX2_nextToGo_0 (by decide) ?_
  refine lv_istore_n (lv' := [(1, .int (-1 : Int32)), (0, .ref (ad 14))]) hx hb dX2_nextToGo_1 rfl hl (by decide) rfl (fun ls hl => ?_)
  refine lv_iconst (v := 0) hx hb dX2_nextToGo_2 (by decide) ?_
  refine lv_istore_n (lv' := [(2, .int (0 : Int32)), (1, .int (-1 : Int32)), (0, .ref (ad 14))]) hx hb dX2_nextToGo_3 rfl hl (by decide) rfl (fun ls hl => ?_)
  refine lv_iload_n hx hb dX2_nextToGo_4 rfl (lv_at hl 0 rfl) ?_
  refine lv_aload_n hx hb dX2_nextToGo_5 rfl (lv_at hl 2 rfl) ?_
  refine tw_get (r := 14) F hH kf_RX2_37 rfl (by decide) hw_14 rfl dX2_nextToGo_6 ?_
  refine lv_icmp_ge (tgt := 61) hx hb dX2_nextToGo_9 (by decide) (fun _ => ?_) (fun c => absurd c (by decide))
  refine lv_iload_n hx hb dX2_nextToGo_61 rfl (lv_at hl 1 rfl) ?_
  exact tw_iret F hH hret hlk rfl (Nat.le_of_ble_eq_true rfl) (Nat.le_of_ble_eq_true rfl) dX2_nextToGo_62 (⟨rfl, trivial, rfl⟩)
set_option maxHeartbeats 4000000 in
set_option maxRecDepth 100000 in
theorem c_X2_has_v2 (l : Launch) (G : tw_G) (ad : Nat → Nat) (w : Nat → va_E) (sz : Nat) (hw_14 : w 14 = .inr (2, [.ref (ad 4), .ref (ad 1), .ref (ad 15), .ref (ad 16), .ref (ad 17), .int (0 : Int32), .int (0 : Int32), .int (0 : Int32)])) : Met l yX2_has (tw_ws yX2_has cX2_has 2 (some .boolean)) ({ frames := 1, cells := 0, slots := 0, locals := 21 }) (tw_Pre G 244 ad w sz [.ref (ad 14), .int (-1 : Int32)]) (tw_Qi G 244 ad (fun r w1 => ((0 : Int32) = r ∧ ((((-1) < 0)) ∨ ((¬ ((-1) < 0)) ∧ (0 ≤ (-1)))) ∧ w = w1)) sz) 0 0 (tw_A 244 ad sz) := by
  refine tw_met (by decide) (Nat.le_of_ble_eq_true rfl) ?_
  intro p e s m args below meth c F hret hlk hin hargs hsz hH ls hl
  have hx := F.1.1
  have hb := F.1.2.1
  have hown := F.1.2.2.2.1
  have hts := F.1.2.2.2.2
  have hl : lv_has ls 2 [(0, .ref (ad 14)), (1, .int (-1 : Int32))] := hl
  generalize hH0 : s.heap = H at hH ⊢
  refine lv_iload_n hx hb dX2_has_0 rfl (lv_at hl 1 rfl) ?_
  refine lv_aload_n hx hb dX2_has_1 rfl (lv_at hl 0 rfl) ?_
  refine tw_get (r := 14) F hH kf_RX2_37 rfl (by decide) hw_14 rfl dX2_has_2 ?_
  refine tw_calli F hH (tw_runSN (host := "RaceByLaps") (As := [.int (-1 : Int32), .int (0 : Int32)]) (rest := []) F hH (c_X11_isIndex l G 244 ad w H.size (-1 : Int32) (-1) (by decide : (-1 : Int32).toInt = -1) (0 : Int32) 0 (by decide : (0 : Int32).toInt = 0)) (by decide) km_X11_isIndex (tw_gl kw_562 rfl) rfl rfl ⟨(Nat.le_of_ble_eq_true rfl), (Nat.le_of_ble_eq_true rfl)⟩ rfl hl.1 rfl (Nat.le_of_ble_eq_true rfl) dX2_has_5 ⟨(Nat.le_of_ble_eq_true rfl), (Nat.le_of_ble_eq_true rfl)⟩) (fun r3 w1 H locs hp2 _ hH => ?_)
  rcases hp2 with ⟨rfl, hc4, rfl⟩ | ⟨rfl, hc5, rfl⟩
  · skip
    refine lv_if_eq (tgt := 21) hx hb dX2_has_8 (by decide) (fun _ => ?_) (fun c => absurd c (by decide))
    refine lv_iconst (v := 0) hx hb dX2_has_21 (by decide) ?_
    exact tw_iret F hH hret hlk rfl (Nat.le_of_ble_eq_true rfl) (Nat.le_of_ble_eq_true rfl) dX2_has_22 (⟨rfl, (by omega), rfl⟩)
  · exfalso; omega
set_option maxHeartbeats 4000000 in
set_option maxRecDepth 100000 in
theorem c_X2_run (l : Launch) (G : tw_G) (ad : Nat → Nat) (w : Nat → va_E) (sz : Nat) (hw_14 : w 14 = .inr (2, [.ref (ad 4), .ref (ad 1), .ref (ad 15), .ref (ad 16), .ref (ad 17), .int (0 : Int32), .int (0 : Int32), .int (0 : Int32)])) (hw_17 : w 17 = .inl (G.2.1 0, 4, .inl (fun _ => 0))) : Met l yX2_run (tw_ws yX2_run cX2_run 3 none) ({ frames := 2, cells := 0, slots := 0, locals := 42 }) (tw_Pre G 244 ad w sz [.ref (ad 14)]) (tw_Qv G 244 ad (fun w1 => ((((((-1) < 0)) ∨ ((¬ ((-1) < 0)) ∧ (0 ≤ (-1))))) ∧ w1 14 = .inr (2, [.ref (ad 4), .ref (ad 1), .ref (ad 15), .ref (ad 16), .ref (ad 17), .int (0 : Int32), .int (0 : Int32), .int (0 : Int32)]) ∧ w1 17 = .inl (G.2.1 0, 4, .inl (upd (upd (upd (upd (fun _ => 0) 0 (0 : Int32)) 1 (0 : Int32)) 2 (0 : Int32)) 3 (0 : Int32))) ∧ ∀ k, k ≠ 14 → k ≠ 17 → w1 k = w k)) sz) 0 0 (tw_A 244 ad sz) := by
  refine tw_met (by decide) (Nat.le_of_ble_eq_true rfl) ?_
  intro p e s m args below meth c F hret hlk hin hargs hsz hH ls hl
  have hx := F.1.1
  have hb := F.1.2.1
  have hown := F.1.2.2.2.1
  have hts := F.1.2.2.2.2
  have hl : lv_has ls 3 [(0, .ref (ad 14))] := hl
  generalize hH0 : s.heap = H at hH ⊢
  refine lv_aload_n hx hb dX2_run_0 rfl (lv_at hl 0 rfl) ?_
  refine lv_iconst (v := 0) hx hb dX2_run_1 (by decide) ?_
  refine tw_put (r := 14) F hH kf_RX2_54 kp_X2_7 rfl (by decide) hw_14 (Nat.le_of_ble_eq_true rfl) rfl rfl dX2_run_2 (fun H locs w1 hw2 hne3 hH => ?_)
  have hw2 : w1 14 = .inr (2, [.ref (ad 4), .ref (ad 1), .ref (ad 15), .ref (ad 16), .ref (ad 17), .int (0 : Int32), .int (0 : Int32), .int (0 : Int32)]) := hw2
  refine lv_aload_n hx hb dX2_run_5 rfl (lv_at hl 0 rfl) ?_
  refine lv_iconst (v := 0) hx hb dX2_run_6 (by decide) ?_
  refine tw_put (r := 14) F hH kf_RX2_61 kp_X2_6 rfl (by decide) hw2 (Nat.le_of_ble_eq_true rfl) rfl rfl dX2_run_7 (fun H locs w4 hw5 hne6 hH => ?_)
  have hw5 : w4 14 = .inr (2, [.ref (ad 4), .ref (ad 1), .ref (ad 15), .ref (ad 16), .ref (ad 17), .int (0 : Int32), .int (0 : Int32), .int (0 : Int32)]) := hw5
  refine lv_aload_n hx hb dX2_run_10 rfl (lv_at hl 0 rfl) ?_
  refine tw_get (r := 14) F hH kf_RX2_31 rfl (by decide) hw5 rfl dX2_run_11 ?_
  refine lv_iconst (v := 0) hx hb dX2_run_14 (by decide) ?_
  have hw7 : w4 17 = .inl (G.2.1 0, 4, .inl (fun _ => 0)) := (hne6 17 (by decide)).trans ((hne3 17 (by decide)).trans (hw_17))
  refine tw_callv F hH (tw_runS (As := [.ref (ad 17), .int (0 : Int32)]) (rest := []) F hH (c_J7_fill_53178 l G ad w4 H.size hw7) (tw_gl kw_865 rfl) km_J7_fill_53178 (tw_gl kw_866 rfl) rfl rfl ⟨(Nat.le_of_ble_eq_true rfl), (Nat.le_of_ble_eq_true rfl)⟩ rfl hl.1 rfl (Nat.le_of_ble_eq_true rfl) dX2_run_15 ⟨(Nat.le_of_ble_eq_true rfl), (Nat.le_of_ble_eq_true rfl)⟩) (fun w8 H locs hp9 _ hH => ?_)
  obtain ⟨-, hw11, hfr12⟩ := hp9
  refine lv_iconst (v := 0) hx hb dX2_run_18 (by decide) ?_
  refine lv_istore_n (lv' := [(1, .int (0 : Int32)), (0, .ref (ad 14))]) hx hb dX2_run_19 rfl hl (by decide) rfl (fun ls hl => ?_)
  refine lv_iload_n hx hb dX2_run_20 rfl (lv_at hl 0 rfl) ?_
  refine lv_aload_n hx hb dX2_run_21 rfl (lv_at hl 1 rfl) ?_
  have hw13 : w8 14 = .inr (2, [.ref (ad 4), .ref (ad 1), .ref (ad 15), .ref (ad 16), .ref (ad 17), .int (0 : Int32), .int (0 : Int32), .int (0 : Int32)]) := (hfr12 14 (by omega)).trans (hw5)
  refine tw_get (r := 14) F hH kf_RX2_37 rfl (by decide) hw13 rfl dX2_run_22 ?_
  refine lv_icmp_ge (tgt := 67) hx hb dX2_run_25 (by decide) (fun _ => ?_) (fun c => absurd c (by decide))
  refine lv_iconst (v := 0) hx hb dX2_run_67 (by decide) ?_
  refine lv_istore_n (lv' := [(1, .int (0 : Int32)), (0, .ref (ad 14))]) hx hb dX2_run_68 rfl hl (by decide) rfl (fun ls hl => ?_)
  refine lv_iload_n hx hb dX2_run_69 rfl (lv_at hl 0 rfl) ?_
  refine lv_sipush (v := 361) hx hb dX2_run_70 (by decide) ?_
  refine lv_icmp_ge (tgt := 113) hx hb dX2_run_73 (by decide) (fun c => absurd c (by decide)) (fun _ => ?_)
  refine lv_aload_n hx hb dX2_run_76 rfl (lv_at hl 1 rfl) ?_
  refine tw_calli F hH (tw_runV (r := 14) (As := []) (rest := []) F hH (c_X2_nextToGo l G ad w8 H.size hw13) (tw_gl kw_874 rfl) km_X2_nextToGo kv_X2_nextToGo rfl rfl ⟨(Nat.le_of_ble_eq_true rfl), (Nat.le_of_ble_eq_true rfl)⟩ (by decide) hw13 rfl rfl hl.1 rfl (Nat.le_of_ble_eq_true rfl) dX2_run_77 ⟨(Nat.le_of_ble_eq_true rfl), (Nat.le_of_ble_eq_true rfl)⟩) (fun r18 w16 H locs hp17 _ hH => ?_)
  obtain ⟨rfl, -, rfl⟩ := hp17
  refine lv_istore_n (lv' := [(2, .int (-1 : Int32)), (1, .int (0 : Int32)), (0, .ref (ad 14))]) hx hb dX2_run_80 rfl hl (by decide) rfl (fun ls hl => ?_)
  refine lv_aload_n hx hb dX2_run_81 rfl (lv_at hl 2 rfl) ?_
  refine lv_iload_n hx hb dX2_run_82 rfl (lv_at hl 0 rfl) ?_
  refine tw_calli F hH (tw_runV (r := 14) (As := [.int (-1 : Int32)]) (rest := []) F hH (c_X2_has_v2 l G ad w8 H.size hw13) (tw_gl kw_881 rfl) km_X2_has kv_X2_has rfl rfl ⟨(Nat.le_of_ble_eq_true rfl), (Nat.le_of_ble_eq_true rfl)⟩ (by decide) hw13 rfl rfl hl.1 rfl (Nat.le_of_ble_eq_true rfl) dX2_run_83 ⟨(Nat.le_of_ble_eq_true rfl), (Nat.le_of_ble_eq_true rfl)⟩) (fun r22 w20 H locs hp21 _ hH => ?_)
  obtain ⟨rfl, hc23, rfl⟩ := hp21
  refine lv_if_ne (tgt := 90) hx hb dX2_run_86 (by decide) (fun c => absurd c (by decide)) (fun _ => ?_)
  exact tw_vret F hH hret hlk (Nat.le_of_ble_eq_true rfl) (Nat.le_of_ble_eq_true rfl) dX2_run_89 (⟨(by omega), hw13, hw11, fun k h0 h1 => ((hfr12 k (by omega)).trans ((hne6 k (by omega)).trans (hne3 k (by omega))))⟩)
set_option maxHeartbeats 4000000 in
set_option maxRecDepth 100000 in
theorem c_X2_reckon (l : Launch) (G : tw_G) (ad : Nat → Nat) (w : Nat → va_E) (sz : Nat) (hw_14 : w 14 = .inr (2, [.ref (ad 4), .ref (ad 1), .ref (ad 15), .ref (ad 16), .ref (ad 17), .int (0 : Int32), .int (0 : Int32), .int (0 : Int32)])) (hw_17 : w 17 = .inl (G.2.1 0, 4, .inl (fun _ => 0))) : Met l yX2_reckon (tw_ws yX2_reckon cX2_reckon 1 none) ({ frames := 3, cells := 0, slots := 0, locals := 64 }) (tw_Pre G 244 ad w sz [.ref (ad 14)]) (tw_Qv G 244 ad (fun w1 => (((((((-1) < 0)) ∨ ((¬ ((-1) < 0)) ∧ (0 ≤ (-1)))))) ∧ w1 14 = .inr (2, [.ref (ad 4), .ref (ad 1), .ref (ad 15), .ref (ad 16), .ref (ad 17), .int (0 : Int32), .int (0 : Int32), .int (1 : Int32)]) ∧ w1 17 = .inl (G.2.1 0, 4, .inl (upd (upd (upd (upd (fun _ => 0) 0 (0 : Int32)) 1 (0 : Int32)) 2 (0 : Int32)) 3 (0 : Int32))) ∧ ∀ k, k ≠ 14 → k ≠ 17 → w1 k = w k)) sz) 0 0 (tw_A 244 ad sz) := by
  refine tw_met (by decide) (Nat.le_of_ble_eq_true rfl) ?_
  intro p e s m args below meth c F hret hlk hin hargs hsz hH ls hl
  have hx := F.1.1
  have hb := F.1.2.1
  have hown := F.1.2.2.2.1
  have hts := F.1.2.2.2.2
  have hl : lv_has ls 1 [(0, .ref (ad 14))] := hl
  generalize hH0 : s.heap = H at hH ⊢
  refine lv_aload_n hx hb dX2_reckon_0 rfl (lv_at hl 0 rfl) ?_
  refine tw_get (r := 14) F hH kf_RX2_54 rfl (by decide) hw_14 rfl dX2_reckon_1 ?_
  refine lv_if_ne (tgt := 16) hx hb dX2_reckon_4 (by decide) (fun c => absurd c (by decide)) (fun _ => ?_)
  refine lv_aload_n hx hb dX2_reckon_7 rfl (lv_at hl 0 rfl) ?_
  refine tw_callv F hH (tw_runV (r := 14) (As := []) (rest := []) F hH (c_X2_run l G ad w H.size hw_14 hw_17) (tw_gl kw_861 rfl) km_X2_run kv_X2_run rfl rfl ⟨(Nat.le_of_ble_eq_true rfl), (Nat.le_of_ble_eq_true rfl)⟩ (by decide) hw_14 rfl rfl hl.1 rfl (Nat.le_of_ble_eq_true rfl) dX2_reckon_8 ⟨(Nat.le_of_ble_eq_true rfl), (Nat.le_of_ble_eq_true rfl)⟩) (fun w2 H locs hp3 _ hH => ?_)
  obtain ⟨hc4, hw5, hw6, hfr7⟩ := hp3
  refine lv_aload_n hx hb dX2_reckon_11 rfl (lv_at hl 0 rfl) ?_
  refine lv_iconst (v := 1) hx hb dX2_reckon_12 (by decide) ?_
  refine tw_put (r := 14) F hH kf_RX2_54 kp_X2_7 rfl (by decide) hw5 (Nat.le_of_ble_eq_true rfl) rfl rfl dX2_reckon_13 (fun H locs w8 hw9 hne10 hH => ?_)
  have hw9 : w8 14 = .inr (2, [.ref (ad 4), .ref (ad 1), .ref (ad 15), .ref (ad 16), .ref (ad 17), .int (0 : Int32), .int (0 : Int32), .int (1 : Int32)]) := hw9
  have hw11 : w8 17 = .inl (G.2.1 0, 4, .inl (upd (upd (upd (upd (fun _ => 0) 0 (0 : Int32)) 1 (0 : Int32)) 2 (0 : Int32)) 3 (0 : Int32))) := (hne10 17 (by decide)).trans (hw6)
  exact tw_vret F hH hret hlk (Nat.le_of_ble_eq_true rfl) (Nat.le_of_ble_eq_true rfl) dX2_reckon_16 (⟨(by omega), hw9, hw11, fun k h0 h1 => ((hne10 k (by omega)).trans (hfr7 k (by omega) (by omega)))⟩)
set_option maxHeartbeats 4000000 in
set_option maxRecDepth 100000 in
theorem c_X9_lineOf (l : Launch) (G : tw_G) (ad : Nat → Nat) (w : Nat → va_E) (sz : Nat) (hw_4 : w 4 = .inr (9, [.int (2 : Int32), .int (1 : Int32), .ref (ad 5), .ref (ad 6), .ref (ad 7), .ref (ad 8), .ref (ad 9), .ref (ad 10), .ref (ad 12)])) : Met l yX9_lineOf (tw_ws yX9_lineOf cX9_lineOf 3 (some .int)) ({ frames := 0, cells := 0, slots := 0, locals := 0 }) (tw_Pre G 244 ad w sz [.ref (ad 4), .int (0 : Int32), .int (1 : Int32)]) (tw_Qi G 244 ad (fun r w1 => ((1 : Int32) = r ∧ True ∧ w = w1)) sz) 0 0 (tw_A 244 ad sz) := by
  refine tw_met (by decide) (Nat.le_of_ble_eq_true rfl) ?_
  intro p e s m args below meth c F hret hlk hin hargs hsz hH ls hl
  have hx := F.1.1
  have hb := F.1.2.1
  have hown := F.1.2.2.2.1
  have hts := F.1.2.2.2.2
  have hl : lv_has ls 3 [(0, .ref (ad 4)), (1, .int (0 : Int32)), (2, .int (1 : Int32))] := hl
  generalize hH0 : s.heap = H at hH ⊢
  refine lv_iload_n hx hb dX9_lineOf_0 rfl (lv_at hl 1 rfl) ?_
  refine lv_aload_n hx hb dX9_lineOf_1 rfl (lv_at hl 0 rfl) ?_
  refine tw_get (r := 4) F hH kf_RX9_49 rfl (by decide) hw_4 rfl dX9_lineOf_2 ?_
  refine lv_imul hx hb dX9_lineOf_5 ?_
  refine tw_cv (v := (0 : Int32)) (by decide) ?_
  refine lv_iload_n hx hb dX9_lineOf_6 rfl (lv_at hl 2 rfl) ?_
  refine lv_iadd hx hb dX9_lineOf_7 ?_
  refine tw_cv (v := (1 : Int32)) (by decide) ?_
  exact tw_iret F hH hret hlk rfl (Nat.le_of_ble_eq_true rfl) (Nat.le_of_ble_eq_true rfl) dX9_lineOf_8 (⟨rfl, trivial, rfl⟩)
set_option maxHeartbeats 4000000 in
set_option maxRecDepth 100000 in
theorem c_X2_inOrder (l : Launch) (G : tw_G) (ad : Nat → Nat) (w : Nat → va_E) (sz : Nat) (hw_14 : w 14 = .inr (2, [.ref (ad 4), .ref (ad 1), .ref (ad 15), .ref (ad 16), .ref (ad 17), .int (0 : Int32), .int (0 : Int32), .int (1 : Int32)])) : Met l yX2_inOrder (tw_ws yX2_inOrder cX2_inOrder 5 (some .int)) ({ frames := 0, cells := 0, slots := 0, locals := 0 }) (tw_Pre G 244 ad w sz [.ref (ad 14), .int (1 : Int32), .int (0 : Int32)]) (tw_Qi G 244 ad (fun r w1 => ((-1 : Int32) = r ∧ True ∧ w = w1)) sz) 0 0 (tw_A 244 ad sz) := by
  refine tw_met (by decide) (Nat.le_of_ble_eq_true rfl) ?_
  intro p e s m args below meth c F hret hlk hin hargs hsz hH ls hl
  have hx := F.1.1
  have hb := F.1.2.1
  have hown := F.1.2.2.2.1
  have hts := F.1.2.2.2.2
  have hl : lv_has ls 5 [(0, .ref (ad 14)), (1, .int (1 : Int32)), (2, .int (0 : Int32))] := hl
  generalize hH0 : s.heap = H at hH ⊢
  refine lv_iconst (v := 0) hx hb dX2_inOrder_0 (by decide) ?_
  refine lv_istore_n (lv' := [(3, .int (0 : Int32)), (0, .ref (ad 14)), (1, .int (1 : Int32)), (2, .int (0 : Int32))]) hx hb dX2_inOrder_1 rfl hl (by decide) rfl (fun ls hl => ?_)
  refine lv_iload_n hx hb dX2_inOrder_2 rfl (lv_at hl 0 rfl) ?_
  refine lv_aload_n hx hb dX2_inOrder_3 rfl (lv_at hl 1 rfl) ?_
  refine tw_get (r := 14) F hH kf_RX2_37 rfl (by decide) hw_14 rfl dX2_inOrder_4 ?_
  refine lv_icmp_ge (tgt := 54) hx hb dX2_inOrder_7 (by decide) (fun _ => ?_) (fun c => absurd c (by decide))
  refine lv_iconst (v := -1) hx hb dX2_inOrder_54 (by decide) ?_
  exact tw_iret F hH hret hlk rfl (Nat.le_of_ble_eq_true rfl) (Nat.le_of_ble_eq_true rfl) dX2_inOrder_55 (⟨rfl, trivial, rfl⟩)
set_option maxHeartbeats 4000000 in
set_option maxRecDepth 100000 in
theorem c_X11_leads (l : Launch) (G : tw_G) (ad : Nat → Nat) (w : Nat → va_E) (sz : Nat) (hw_0 : w 0 = .inr (11, [.ref (ad 4), .ref (ad 14), .ref (ad 156), .ref (ad 221), .ref (ad 225), .ref (ad 233), .ref (ad 236), .int (0 : Int32), .ref (ad 237), .int (0 : Int32), .ref (ad 238)])) (hw_14 : w 14 = .inr (2, [.ref (ad 4), .ref (ad 1), .ref (ad 15), .ref (ad 16), .ref (ad 17), .int (0 : Int32), .int (0 : Int32), .int (0 : Int32)])) (hw_17 : w 17 = .inl (G.2.1 0, 4, .inl (fun _ => 0))) (hw_4 : w 4 = .inr (9, [.int (2 : Int32), .int (1 : Int32), .ref (ad 5), .ref (ad 6), .ref (ad 7), .ref (ad 8), .ref (ad 9), .ref (ad 10), .ref (ad 12)])) : Met l yX11_leads (tw_ws yX11_leads cX11_leads 5 (some .int)) ({ frames := 4, cells := 0, slots := 0, locals := 84 }) (tw_Pre G 244 ad w sz [.ref (ad 0)]) (tw_Qi G 244 ad (fun r w1 => ((0 : Int32) = r ∧ (((((((-1) < 0)) ∨ ((¬ ((-1) < 0)) ∧ (0 ≤ (-1))))))))) sz) 0 0 (tw_A 244 ad sz) := by
  refine tw_met (by decide) (Nat.le_of_ble_eq_true rfl) ?_
  intro p e s m args below meth c F hret hlk hin hargs hsz hH ls hl
  have hx := F.1.1
  have hb := F.1.2.1
  have hown := F.1.2.2.2.1
  have hts := F.1.2.2.2.2
  have hl : lv_has ls 5 [(0, .ref (ad 0))] := hl
  generalize hH0 : s.heap = H at hH ⊢
  refine lv_aload_n hx hb dX11_leads_0 rfl (lv_at hl 0 rfl) ?_
  refine tw_get (r := 0) F hH kf_RX11_24 rfl (by decide) hw_0 rfl dX11_leads_1 ?_
  refine tw_callv F hH (tw_runV (r := 14) (As := []) (rest := []) F hH (c_X2_reckon l G ad w H.size hw_14 hw_17) (tw_gl kw_857 rfl) km_X2_reckon kv_X2_reckon rfl rfl ⟨(Nat.le_of_ble_eq_true rfl), (Nat.le_of_ble_eq_true rfl)⟩ (by decide) hw_14 rfl rfl hl.1 rfl (Nat.le_of_ble_eq_true rfl) dX11_leads_4 ⟨(Nat.le_of_ble_eq_true rfl), (Nat.le_of_ble_eq_true rfl)⟩) (fun w1 H locs hp2 _ hH => ?_)
  obtain ⟨hc3, hw4, hw5, hfr6⟩ := hp2
  refine lv_iconst (v := 0) hx hb dX11_leads_7 (by decide) ?_
  refine lv_istore_n (lv' := [(1, .int (0 : Int32)), (0, .ref (ad 0))]) hx hb dX11_leads_8 rfl hl (by decide) rfl (fun ls hl => ?_)
  refine lv_aload_n hx hb dX11_leads_9 rfl (lv_at hl 1 rfl) ?_
  have hw7 : w1 0 = .inr (11, [.ref (ad 4), .ref (ad 14), .ref (ad 156), .ref (ad 221), .ref (ad 225), .ref (ad 233), .ref (ad 236), .int (0 : Int32), .ref (ad 237), .int (0 : Int32), .ref (ad 238)]) := (hfr6 0 (by omega) (by omega)).trans (hw_0)
  refine tw_get (r := 0) F hH kf_RX11_24 rfl (by decide) hw7 rfl dX11_leads_10 ?_
  refine lv_aload_n hx hb dX11_leads_13 rfl (lv_at hl 1 rfl) ?_
  refine tw_get (r := 0) F hH kf_RX11_15 rfl (by decide) hw7 rfl dX11_leads_14 ?_
  refine lv_iconst (v := 0) hx hb dX11_leads_17 (by decide) ?_
  refine lv_aload_n hx hb dX11_leads_18 rfl (lv_at hl 1 rfl) ?_
  refine tw_get (r := 0) F hH kf_RX11_15 rfl (by decide) hw7 rfl dX11_leads_19 ?_
  have hw8 : w1 4 = .inr (9, [.int (2 : Int32), .int (1 : Int32), .ref (ad 5), .ref (ad 6), .ref (ad 7), .ref (ad 8), .ref (ad 9), .ref (ad 10), .ref (ad 12)]) := (hfr6 4 (by omega) (by omega)).trans (hw_4)
  refine tw_get (r := 4) F hH kf_RX11_212 rfl (by decide) hw8 rfl dX11_leads_22 ?_
  refine lv_iconst (v := 1) hx hb dX11_leads_25 (by decide) ?_
  refine lv_isub hx hb dX11_leads_26 ?_
  refine tw_cv (v := (1 : Int32)) (by decide) ?_
  refine tw_calli F hH (tw_runV (r := 4) (As := [.int (0 : Int32), .int (1 : Int32)]) (rest := [.ref (ad 14)]) F hH (c_X9_lineOf l G ad w1 H.size hw8) (tw_gl kw_1021 rfl) km_X9_lineOf kv_X9_lineOf rfl rfl ⟨(Nat.le_of_ble_eq_true rfl), (Nat.le_of_ble_eq_true rfl)⟩ (by decide) hw8 rfl rfl hl.1 rfl (Nat.le_of_ble_eq_true rfl) dX11_leads_27 ⟨(Nat.le_of_ble_eq_true rfl), (Nat.le_of_ble_eq_true rfl)⟩) (fun r11 w9 H locs hp10 _ hH => ?_)
  obtain ⟨rfl, -, rfl⟩ := hp10
  refine lv_iconst (v := 0) hx hb dX11_leads_30 (by decide) ?_
  refine tw_calli F hH (tw_runV (r := 14) (As := [.int (1 : Int32), .int (0 : Int32)]) (rest := []) F hH (c_X2_inOrder l G ad w1 H.size hw4) (tw_gl kw_1027 rfl) km_X2_inOrder kv_X2_inOrder rfl rfl ⟨(Nat.le_of_ble_eq_true rfl), (Nat.le_of_ble_eq_true rfl)⟩ (by decide) hw4 rfl rfl hl.1 rfl (Nat.le_of_ble_eq_true rfl) dX11_leads_31 ⟨(Nat.le_of_ble_eq_true rfl), (Nat.le_of_ble_eq_true rfl)⟩) (fun r15 w13 H locs hp14 _ hH => ?_)
  obtain ⟨rfl, -, rfl⟩ := hp14
  refine lv_istore_n (lv' := [(2, .int (-1 : Int32)), (1, .int (0 : Int32)), (0, .ref (ad 0))]) hx hb dX11_leads_34 rfl hl (by decide) rfl (fun ls hl => ?_)
  refine lv_iconst (v := 1) hx hb dX11_leads_35 (by decide) ?_
  refine lv_istore_n (lv' := [(3, .int (1 : Int32)), (2, .int (-1 : Int32)), (1, .int (0 : Int32)), (0, .ref (ad 0))]) hx hb dX11_leads_36 rfl hl (by decide) rfl (fun ls hl => ?_)
  refine lv_iload_n hx hb dX11_leads_37 rfl (lv_at hl 0 rfl) ?_
  refine lv_aload_n hx hb dX11_leads_38 rfl (lv_at hl 3 rfl) ?_
  refine tw_get (r := 0) F hH kf_RX11_15 rfl (by decide) hw7 rfl dX11_leads_39 ?_
  refine tw_get (r := 4) F hH kf_RX11_185 rfl (by decide) hw8 rfl dX11_leads_42 ?_
  refine lv_icmp_ge (tgt := 101) hx hb dX11_leads_45 (by decide) (fun _ => ?_) (fun c => absurd c (by decide))
  refine lv_iload_n hx hb dX11_leads_101 rfl (lv_at hl 2 rfl) ?_
  exact tw_iret F hH hret hlk rfl (Nat.le_of_ble_eq_true rfl) (Nat.le_of_ble_eq_true rfl) dX11_leads_102 (⟨rfl, (by omega)⟩)
