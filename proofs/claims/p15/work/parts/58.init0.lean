set_option maxHeartbeats 4000000 in
set_option maxRecDepth 100000 in
theorem c_X4_init (l : Launch) (G : tw_G) (n : Nat) (ad : Nat → Nat) (w : Nat → va_E) (sz : Nat) (hw_n : w n = .inr (4, [.null, .null])) : Met l yX4_init (tw_ws yX4_init cX4_init 1 none) ({ frames := 1, cells := 2, slots := 86, locals := 20 }) (tw_Pre G (n + 1) ad w sz [.ref (ad n)]) (tw_Qn G (n + 1) 2 ad (fun u => (True ∧ u.2 (n + 1) = .inl (G.2.1 0, 26, .inl (fun _ => 0)) ∧ u.2 n = .inr (4, [.ref (u.1 (n + 1)), .ref (u.1 (n + 2))]) ∧ u.2 (n + 2) = .inl (G.2.1 0, 60, .inl (fun _ => 0)) ∧ ∀ k, k < n → u.2 k = w k)) sz) 2 86 (tw_A (n + 1) ad sz) := by
  refine tw_met (by decide) (Nat.le_of_ble_eq_true rfl) ?_
  intro p e s m args below meth c F hret hlk hin hargs hsz hH ls hl
  have hx := F.1.1
  have hb := F.1.2.1
  have hown := F.1.2.2.2.1
  have hts := F.1.2.2.2.2
  have hl : lv_has ls 1 [(0, .ref (ad n))] := hl
  generalize hH0 : s.heap = H at hH ⊢
  refine lv_aload_n hx hb dX4_init_0 rfl (lv_at hl 0 rfl) ?_
  refine tw_objInit F (tw_gl kw_39 rfl) (tw_gl kw_32 rfl) (tw_gl kw_33 rfl) hl.1 ⟨(Nat.le_of_ble_eq_true rfl), (Nat.le_of_ble_eq_true rfl)⟩ (Nat.le_of_ble_eq_true rfl) dX4_init_1 ?_
  refine lv_aload_n hx hb dX4_init_4 rfl (lv_at hl 0 rfl) ?_
  refine lv_bipush (v := 26) hx hb dX4_init_5 (by decide) ?_
  refine tw_newa (t := 0) (atype := .int) (ty := .int) (n' := 26) (a0 := (26, .inl (fun _ => 0))) F hH rfl (fun C h => by cases h) (tw_gl kw_47 rfl) rfl (fun _ => rfl) (by decide) (Nat.le_of_ble_eq_true rfl) (Nat.le_of_ble_eq_true rfl) (Nat.le_of_ble_eq_true rfl) dX4_init_7 (fun H locs ad4 w1 ha5 hw2 hne3 hH => ?_)
  have hw6 : w1 n = .inr (4, [.null, .null]) := (hne3 n (by omega)).trans (hw_n)
  refine tw_putF (r := n) F hH kf_RX4_11 kp_X4_0 hin rfl (ha5 n (by omega)) (by omega) hw6 (Nat.le_of_ble_eq_true rfl) rfl rfl dX4_init_9 (fun H locs w7 hw8 hne9 hH => ?_)
  have hw8 : w7 n = .inr (4, [.ref (ad4 (n + 1)), .null]) := hw8
  refine lv_aload_n hx hb dX4_init_12 rfl (lv_at hl 0 rfl) ?_
  refine lv_bipush (v := 60) hx hb dX4_init_13 (by decide) ?_
  refine tw_newa (t := 0) (atype := .int) (ty := .int) (n' := 60) (a0 := (60, .inl (fun _ => 0))) F hH rfl (fun C h => by cases h) (tw_gl kw_47 rfl) rfl (fun _ => rfl) (by decide) (Nat.le_of_ble_eq_true rfl) (Nat.le_of_ble_eq_true rfl) (Nat.le_of_ble_eq_true rfl) dX4_init_15 (fun H locs ad13 w10 ha14 hw11 hne12 hH => ?_)
  have hw15 : w10 n = .inr (4, [.ref (ad4 (n + 1)), .null]) := (hne12 n (by omega)).trans (hw8)
  refine tw_putF (r := n) F hH kf_RX4_15 kp_X4_1 hin rfl ((ha14 n (by omega)).trans (ha5 n (by omega))) (by omega) hw15 (Nat.le_of_ble_eq_true rfl) rfl rfl dX4_init_17 (fun H locs w16 hw17 hne18 hH => ?_)
  have hw17 : w16 n = .inr (4, [.ref (ad4 (n + 1)), .ref (ad13 (n + 2))]) := hw17
  have hw19 : w16 (n + 1) = .inl (G.2.1 0, 26, .inl (fun _ => 0)) := (hne18 (n + 1) (by omega)).trans ((hne12 (n + 1) (by omega)).trans ((hne9 (n + 1) (by omega)).trans (hw2)))
  have hw20 : w16 n = .inr (4, [.ref (ad13 (n + 1)), .ref (ad13 (n + 2))]) := by rw [hw17]; rw [show ad4 (n + 1) = ad13 (n + 1) from (ha14 (n + 1) (by omega)).symm]
  have hw21 : w16 (n + 2) = .inl (G.2.1 0, 60, .inl (fun _ => 0)) := (hne18 (n + 2) (by omega)).trans (hw11)
  exact tw_nret F hH (fun k hk => ((ha14 k (by omega)).trans (ha5 k (by omega)))) hret hlk (Nat.le_of_ble_eq_true rfl) (Nat.le_of_ble_eq_true rfl) dX4_init_20 (⟨trivial, hw19, hw20, hw21, fun k hk => ((hne18 k (by omega)).trans ((hne12 k (by omega)).trans ((hne9 k (by omega)).trans (hne3 k (by omega)))))⟩)
set_option maxHeartbeats 4000000 in
set_option maxRecDepth 100000 in
theorem c_X7_init (l : Launch) (G : tw_G) (n : Nat) (ad : Nat → Nat) (w : Nat → va_E) (sz : Nat) (hw_n : w n = .inr (7, [.int (0 : Int32), .int (0 : Int32), .null, .int (0 : Int32)])) : Met l yX7_init (tw_ws yX7_init cX7_init 3 none) ({ frames := 1, cells := 1, slots := 90, locals := 21 }) (tw_Pre G (n + 1) ad w sz [.ref (ad n), .int (30 : Int32), .int (3 : Int32)]) (tw_Qn G (n + 1) 1 ad (fun u => (True ∧ u.2 n = .inr (7, [.int (30 : Int32), .int (3 : Int32), .ref (u.1 (n + 1)), .int (0 : Int32)]) ∧ u.2 (n + 1) = .inl (G.2.1 0, 90, .inl (fun _ => 0)) ∧ ∀ k, k < n → u.2 k = w k)) sz) 1 90 (tw_A (n + 1) ad sz) := by
  refine tw_met (by decide) (Nat.le_of_ble_eq_true rfl) ?_
  intro p e s m args below meth c F hret hlk hin hargs hsz hH ls hl
  have hx := F.1.1
  have hb := F.1.2.1
  have hown := F.1.2.2.2.1
  have hts := F.1.2.2.2.2
  have hl : lv_has ls 3 [(0, .ref (ad n)), (1, .int (30 : Int32)), (2, .int (3 : Int32))] := hl
  generalize hH0 : s.heap = H at hH ⊢
  refine lv_aload_n hx hb dX7_init_0 rfl (lv_at hl 0 rfl) ?_
  refine tw_objInit F (tw_gl kw_59 rfl) (tw_gl kw_32 rfl) (tw_gl kw_33 rfl) hl.1 ⟨(Nat.le_of_ble_eq_true rfl), (Nat.le_of_ble_eq_true rfl)⟩ (Nat.le_of_ble_eq_true rfl) dX7_init_1 ?_
  refine lv_aload_n hx hb dX7_init_4 rfl (lv_at hl 0 rfl) ?_
  refine lv_iload_n hx hb dX7_init_5 rfl (lv_at hl 1 rfl) ?_
  refine tw_putF (r := n) F hH kf_RX7_9 kp_X7_0 hin rfl rfl (by omega) hw_n (Nat.le_of_ble_eq_true rfl) rfl rfl dX7_init_6 (fun H locs w1 hw2 hne3 hH => ?_)
  have hw2 : w1 n = .inr (7, [.int (30 : Int32), .int (0 : Int32), .null, .int (0 : Int32)]) := hw2
  refine lv_aload_n hx hb dX7_init_9 rfl (lv_at hl 0 rfl) ?_
  refine lv_iload_n hx hb dX7_init_10 rfl (lv_at hl 2 rfl) ?_
  refine tw_putF (r := n) F hH kf_RX7_15 kp_X7_1 hin rfl rfl (by omega) hw2 (Nat.le_of_ble_eq_true rfl) rfl rfl dX7_init_11 (fun H locs w4 hw5 hne6 hH => ?_)
  have hw5 : w4 n = .inr (7, [.int (30 : Int32), .int (3 : Int32), .null, .int (0 : Int32)]) := hw5
  refine lv_aload_n hx hb dX7_init_14 rfl (lv_at hl 0 rfl) ?_
  refine lv_iconst (v := 0) hx hb dX7_init_15 (by decide) ?_
  refine lv_iload_n hx hb dX7_init_16 rfl (lv_at hl 1 rfl) ?_
  refine lv_iload_n hx hb dX7_init_17 rfl (lv_at hl 2 rfl) ?_
  refine lv_imul hx hb dX7_init_18 ?_
  refine tw_cv (v := (90 : Int32)) (by decide) ?_
  refine va_mmax hx hb (F.1.2.2.1.trans hl.1.symm) hown (hts _ (tw_gl kw_60 rfl)) (hts _ (tw_gl kw_61 rfl)) (hts _ (tw_gl kw_5 rfl)) (hts _ (tw_gl kw_62 rfl)) (Nat.le_of_ble_eq_true rfl) (Nat.le_of_ble_eq_true rfl) (Nat.le_of_ble_eq_true rfl) (Nat.le_of_ble_eq_true rfl) dX7_init_19 ?_
  refine tw_cv (v := (90 : Int32)) (by decide) ?_
  refine tw_newa (t := 0) (atype := .int) (ty := .int) (n' := 90) (a0 := (90, .inl (fun _ => 0))) F hH rfl (fun C h => by cases h) (tw_gl kw_47 rfl) rfl (fun _ => rfl) (by decide) (Nat.le_of_ble_eq_true rfl) (Nat.le_of_ble_eq_true rfl) (Nat.le_of_ble_eq_true rfl) dX7_init_22 (fun H locs ad10 w7 ha11 hw8 hne9 hH => ?_)
  have hw12 : w7 n = .inr (7, [.int (30 : Int32), .int (3 : Int32), .null, .int (0 : Int32)]) := (hne9 n (by omega)).trans (hw5)
  refine tw_putF (r := n) F hH kf_RX7_24 kp_X7_2 hin rfl (ha11 n (by omega)) (by omega) hw12 (Nat.le_of_ble_eq_true rfl) rfl rfl dX7_init_24 (fun H locs w13 hw14 hne15 hH => ?_)
  have hw14 : w13 n = .inr (7, [.int (30 : Int32), .int (3 : Int32), .ref (ad10 (n + 1)), .int (0 : Int32)]) := hw14
  have hw16 : w13 (n + 1) = .inl (G.2.1 0, 90, .inl (fun _ => 0)) := (hne15 (n + 1) (by omega)).trans (hw8)
  exact tw_nret F hH (fun k hk => (ha11 k (by omega))) hret hlk (Nat.le_of_ble_eq_true rfl) (Nat.le_of_ble_eq_true rfl) dX7_init_27 (⟨trivial, hw14, hw16, fun k hk => ((hne15 k (by omega)).trans ((hne9 k (by omega)).trans ((hne6 k (by omega)).trans (hne3 k (by omega)))))⟩)
set_option maxHeartbeats 4000000 in
set_option maxRecDepth 100000 in
theorem c_X7_init_v2 (l : Launch) (G : tw_G) (n : Nat) (ad : Nat → Nat) (w : Nat → va_E) (sz : Nat) (hw_n : w n = .inr (7, [.int (0 : Int32), .int (0 : Int32), .null, .int (0 : Int32)])) : Met l yX7_init (tw_ws yX7_init cX7_init 3 none) ({ frames := 1, cells := 1, slots := 80, locals := 21 }) (tw_Pre G (n + 1) ad w sz [.ref (ad n), .int (20 : Int32), .int (4 : Int32)]) (tw_Qn G (n + 1) 1 ad (fun u => (True ∧ u.2 n = .inr (7, [.int (20 : Int32), .int (4 : Int32), .ref (u.1 (n + 1)), .int (0 : Int32)]) ∧ u.2 (n + 1) = .inl (G.2.1 0, 80, .inl (fun _ => 0)) ∧ ∀ k, k < n → u.2 k = w k)) sz) 1 80 (tw_A (n + 1) ad sz) := by
  refine tw_met (by decide) (Nat.le_of_ble_eq_true rfl) ?_
  intro p e s m args below meth c F hret hlk hin hargs hsz hH ls hl
  have hx := F.1.1
  have hb := F.1.2.1
  have hown := F.1.2.2.2.1
  have hts := F.1.2.2.2.2
  have hl : lv_has ls 3 [(0, .ref (ad n)), (1, .int (20 : Int32)), (2, .int (4 : Int32))] := hl
  generalize hH0 : s.heap = H at hH ⊢
  refine lv_aload_n hx hb dX7_init_0 rfl (lv_at hl 0 rfl) ?_
  refine tw_objInit F (tw_gl kw_59 rfl) (tw_gl kw_32 rfl) (tw_gl kw_33 rfl) hl.1 ⟨(Nat.le_of_ble_eq_true rfl), (Nat.le_of_ble_eq_true rfl)⟩ (Nat.le_of_ble_eq_true rfl) dX7_init_1 ?_
  refine lv_aload_n hx hb dX7_init_4 rfl (lv_at hl 0 rfl) ?_
  refine lv_iload_n hx hb dX7_init_5 rfl (lv_at hl 1 rfl) ?_
  refine tw_putF (r := n) F hH kf_RX7_9 kp_X7_0 hin rfl rfl (by omega) hw_n (Nat.le_of_ble_eq_true rfl) rfl rfl dX7_init_6 (fun H locs w1 hw2 hne3 hH => ?_)
  have hw2 : w1 n = .inr (7, [.int (20 : Int32), .int (0 : Int32), .null, .int (0 : Int32)]) := hw2
  refine lv_aload_n hx hb dX7_init_9 rfl (lv_at hl 0 rfl) ?_
  refine lv_iload_n hx hb dX7_init_10 rfl (lv_at hl 2 rfl) ?_
  refine tw_putF (r := n) F hH kf_RX7_15 kp_X7_1 hin rfl rfl (by omega) hw2 (Nat.le_of_ble_eq_true rfl) rfl rfl dX7_init_11 (fun H locs w4 hw5 hne6 hH => ?_)
  have hw5 : w4 n = .inr (7, [.int (20 : Int32), .int (4 : Int32), .null, .int (0 : Int32)]) := hw5
  refine lv_aload_n hx hb dX7_init_14 rfl (lv_at hl 0 rfl) ?_
  refine lv_iconst (v := 0) hx hb dX7_init_15 (by decide) ?_
  refine lv_iload_n hx hb dX7_init_16 rfl (lv_at hl 1 rfl) ?_
  refine lv_iload_n hx hb dX7_init_17 rfl (lv_at hl 2 rfl) ?_
  refine lv_imul hx hb dX7_init_18 ?_
  refine tw_cv (v := (80 : Int32)) (by decide) ?_
  refine va_mmax hx hb (F.1.2.2.1.trans hl.1.symm) hown (hts _ (tw_gl kw_60 rfl)) (hts _ (tw_gl kw_61 rfl)) (hts _ (tw_gl kw_5 rfl)) (hts _ (tw_gl kw_62 rfl)) (Nat.le_of_ble_eq_true rfl) (Nat.le_of_ble_eq_true rfl) (Nat.le_of_ble_eq_true rfl) (Nat.le_of_ble_eq_true rfl) dX7_init_19 ?_
  refine tw_cv (v := (80 : Int32)) (by decide) ?_
  refine tw_newa (t := 0) (atype := .int) (ty := .int) (n' := 80) (a0 := (80, .inl (fun _ => 0))) F hH rfl (fun C h => by cases h) (tw_gl kw_47 rfl) rfl (fun _ => rfl) (by decide) (Nat.le_of_ble_eq_true rfl) (Nat.le_of_ble_eq_true rfl) (Nat.le_of_ble_eq_true rfl) dX7_init_22 (fun H locs ad10 w7 ha11 hw8 hne9 hH => ?_)
  have hw12 : w7 n = .inr (7, [.int (20 : Int32), .int (4 : Int32), .null, .int (0 : Int32)]) := (hne9 n (by omega)).trans (hw5)
  refine tw_putF (r := n) F hH kf_RX7_24 kp_X7_2 hin rfl (ha11 n (by omega)) (by omega) hw12 (Nat.le_of_ble_eq_true rfl) rfl rfl dX7_init_24 (fun H locs w13 hw14 hne15 hH => ?_)
  have hw14 : w13 n = .inr (7, [.int (20 : Int32), .int (4 : Int32), .ref (ad10 (n + 1)), .int (0 : Int32)]) := hw14
  have hw16 : w13 (n + 1) = .inl (G.2.1 0, 80, .inl (fun _ => 0)) := (hne15 (n + 1) (by omega)).trans (hw8)
  exact tw_nret F hH (fun k hk => (ha11 k (by omega))) hret hlk (Nat.le_of_ble_eq_true rfl) (Nat.le_of_ble_eq_true rfl) dX7_init_27 (⟨trivial, hw14, hw16, fun k hk => ((hne15 k (by omega)).trans ((hne9 k (by omega)).trans ((hne6 k (by omega)).trans (hne3 k (by omega)))))⟩)
set_option maxHeartbeats 4000000 in
set_option maxRecDepth 100000 in
theorem c_X9_layAnew (l : Launch) (G : tw_G) (ad : Nat → Nat) (w : Nat → va_E) (sz : Nat) (hw_4 : w 4 = .inr (9, [.int (0 : Int32), .int (0 : Int32), .ref (ad 5), .ref (ad 6), .ref (ad 7), .ref (ad 8), .ref (ad 9), .ref (ad 10), .ref (ad 12)])) (hw_5 : w 5 = .inl (G.2.1 0, 5, .inl (fun _ => 0))) (hw_6 : w 6 = .inl (G.2.1 0, 5, .inl (fun _ => 0))) (hw_7 : w 7 = .inl (G.2.1 1, 5, .inl (fun _ => 0))) (hw_10 : w 10 = .inr (7, [.int (30 : Int32), .int (3 : Int32), .ref (ad 11), .int (0 : Int32)])) (hw_12 : w 12 = .inr (7, [.int (20 : Int32), .int (4 : Int32), .ref (ad 13), .int (0 : Int32)])) : Met l yX9_layAnew (tw_ws yX9_layAnew cX9_layAnew 4 none) ({ frames := 0, cells := 0, slots := 0, locals := 0 }) (tw_Pre G 14 ad w sz [.ref (ad 4), .int (2 : Int32), .int (1 : Int32)]) (tw_Qv G 14 ad (fun w1 => (True ∧ w1 4 = .inr (9, [.int (2 : Int32), .int (1 : Int32), .ref (ad 5), .ref (ad 6), .ref (ad 7), .ref (ad 8), .ref (ad 9), .ref (ad 10), .ref (ad 12)]) ∧ w1 5 = .inl (G.2.1 0, 5, .inl (upd (upd (upd (upd (upd (fun _ => 0) 0 (20000 : Int32)) 1 (20000 : Int32)) 2 (20000 : Int32)) 3 (20000 : Int32)) 4 (20000 : Int32))) ∧ w1 6 = .inl (G.2.1 0, 5, .inl (upd (upd (upd (upd (upd (fun _ => 0) 0 (300 : Int32)) 1 (300 : Int32)) 2 (300 : Int32)) 3 (300 : Int32)) 4 (300 : Int32))) ∧ w1 7 = .inl (G.2.1 1, 5, .inl (upd (upd (upd (upd (upd (fun _ => 0) 0 (0 : Int32)) 1 (0 : Int32)) 2 (0 : Int32)) 3 (0 : Int32)) 4 (0 : Int32))) ∧ w1 10 = .inr (7, [.int (30 : Int32), .int (3 : Int32), .ref (ad 11), .int (0 : Int32)]) ∧ w1 12 = .inr (7, [.int (20 : Int32), .int (4 : Int32), .ref (ad 13), .int (0 : Int32)]) ∧ ∀ k, k ≠ 4 → k ≠ 5 → k ≠ 6 → k ≠ 7 → k ≠ 10 → k ≠ 12 → w1 k = w k)) sz) 0 0 (tw_A 14 ad sz) := by
  refine tw_met (by decide) (Nat.le_of_ble_eq_true rfl) ?_
  intro p e s m args below meth c F hret hlk hin hargs hsz hH ls hl
  have hx := F.1.1
  have hb := F.1.2.1
  have hown := F.1.2.2.2.1
  have hts := F.1.2.2.2.2
  have hl : lv_has ls 4 [(0, .ref (ad 4)), (1, .int (2 : Int32)), (2, .int (1 : Int32))] := hl
  generalize hH0 : s.heap = H at hH ⊢
  refine lv_aload_n hx hb dX9_layAnew_0 rfl (lv_at hl 0 rfl) ?_
  refine lv_iload_n hx hb dX9_layAnew_1 rfl (lv_at hl 1 rfl) ?_
  refine tw_put (r := 4) F hH kf_RX9_49 kp_X9_0 rfl (by decide) hw_4 (Nat.le_of_ble_eq_true rfl) rfl rfl dX9_layAnew_2 (fun H locs w1 hw2 hne3 hH => ?_)
  have hw2 : w1 4 = .inr (9, [.int (2 : Int32), .int (0 : Int32), .ref (ad 5), .ref (ad 6), .ref (ad 7), .ref (ad 8), .ref (ad 9), .ref (ad 10), .ref (ad 12)]) := hw2
  refine lv_aload_n hx hb dX9_layAnew_5 rfl (lv_at hl 0 rfl) ?_
  refine lv_iload_n hx hb dX9_layAnew_6 rfl (lv_at hl 2 rfl) ?_
  refine tw_put (r := 4) F hH kf_RX9_53 kp_X9_1 rfl (by decide) hw2 (Nat.le_of_ble_eq_true rfl) rfl rfl dX9_layAnew_7 (fun H locs w4 hw5 hne6 hH => ?_)
  have hw5 : w4 4 = .inr (9, [.int (2 : Int32), .int (1 : Int32), .ref (ad 5), .ref (ad 6), .ref (ad 7), .ref (ad 8), .ref (ad 9), .ref (ad 10), .ref (ad 12)]) := hw5
  refine lv_iconst (v := 0) hx hb dX9_layAnew_10 (by decide) ?_
  refine lv_istore_n (lv' := [(3, .int (0 : Int32)), (0, .ref (ad 4)), (1, .int (2 : Int32)), (2, .int (1 : Int32))]) hx hb dX9_layAnew_11 rfl hl (by decide) rfl (fun ls hl => ?_)
  refine lv_iload_n hx hb dX9_layAnew_12 rfl (lv_at hl 0 rfl) ?_
  refine lv_iconst (v := 5) hx hb dX9_layAnew_13 (by decide) ?_
  refine lv_icmp_ge (tgt := 48) hx hb dX9_layAnew_14 (by decide) (fun c => absurd c (by decide)) (fun _ => ?_)
  refine lv_aload_n hx hb dX9_layAnew_17 rfl (lv_at hl 1 rfl) ?_
  refine tw_get (r := 4) F hH kf_RX9_9 rfl (by decide) hw5 rfl dX9_layAnew_18 ?_
  refine lv_iload_n hx hb dX9_layAnew_21 rfl (lv_at hl 0 rfl) ?_
  refine lv_sipush (v := 20000) hx hb dX9_layAnew_22 (by decide) ?_
  have hw8 : w4 5 = .inl (G.2.1 0, 5, .inl (fun _ => 0)) := (hne6 5 (nn_ne rfl)).trans ((hne3 5 (nn_ne rfl)).trans (hw_5))
  refine tw_iast (r := 5) (j := 0) F hH rfl (by decide) hw8 (by decide) (by decide) dX9_layAnew_25 (fun H locs w9 hw10 hne11 hH => ?_)
  refine lv_aload_n hx hb dX9_layAnew_26 rfl (lv_at hl 1 rfl) ?_
  have hw12 : w9 4 = .inr (9, [.int (2 : Int32), .int (1 : Int32), .ref (ad 5), .ref (ad 6), .ref (ad 7), .ref (ad 8), .ref (ad 9), .ref (ad 10), .ref (ad 12)]) := (hne11 4 (nn_ne rfl)).trans (hw5)
  refine tw_get (r := 4) F hH kf_RX9_15 rfl (by decide) hw12 rfl dX9_layAnew_27 ?_
  refine lv_iload_n hx hb dX9_layAnew_30 rfl (lv_at hl 0 rfl) ?_
  refine lv_sipush (v := 300) hx hb dX9_layAnew_31 (by decide) ?_
  have hw13 : w9 6 = .inl (G.2.1 0, 5, .inl (fun _ => 0)) := (hne11 6 (nn_ne rfl)).trans ((hne6 6 (nn_ne rfl)).trans ((hne3 6 (nn_ne rfl)).trans (hw_6)))
  refine tw_iast (r := 6) (j := 0) F hH rfl (by decide) hw13 (by decide) (by decide) dX9_layAnew_34 (fun H locs w14 hw15 hne16 hH => ?_)
  refine lv_aload_n hx hb dX9_layAnew_35 rfl (lv_at hl 1 rfl) ?_
  have hw17 : w14 4 = .inr (9, [.int (2 : Int32), .int (1 : Int32), .ref (ad 5), .ref (ad 6), .ref (ad 7), .ref (ad 8), .ref (ad 9), .ref (ad 10), .ref (ad 12)]) := (hne16 4 (nn_ne rfl)).trans (hw12)
  refine tw_get (r := 4) F hH kf_RX9_18 rfl (by decide) hw17 rfl dX9_layAnew_36 ?_
  refine lv_iload_n hx hb dX9_layAnew_39 rfl (lv_at hl 0 rfl) ?_
  refine lv_iconst (v := 0) hx hb dX9_layAnew_40 (by decide) ?_
  have hw18 : w14 7 = .inl (G.2.1 1, 5, .inl (fun _ => 0)) := (hne16 7 (nn_ne rfl)).trans ((hne11 7 (nn_ne rfl)).trans ((hne6 7 (nn_ne rfl)).trans ((hne3 7 (nn_ne rfl)).trans (hw_7))))
  refine tw_zast (r := 7) (j := 0) F hH rfl (by decide) hw18 (by decide) (by decide) (by decide) dX9_layAnew_41 (fun H locs w19 hw20 hne21 hH => ?_)
  refine lv_iinc (v := (1 : Int32)) (lv' := [(3, .int (1 : Int32)), (0, .ref (ad 4)), (1, .int (2 : Int32)), (2, .int (1 : Int32))]) hx hb dX9_layAnew_42 hl (k := 0) rfl (by decide) (by decide) rfl (fun ls hl => ?_)
  refine lv_goto (tgt := 12) hx hb dX9_layAnew_45 (by decide) ?_
  refine lv_iload_n hx hb dX9_layAnew_12 rfl (lv_at hl 0 rfl) ?_
  refine lv_iconst (v := 5) hx hb dX9_layAnew_13 (by decide) ?_
  refine lv_icmp_ge (tgt := 48) hx hb dX9_layAnew_14 (by decide) (fun c => absurd c (by decide)) (fun _ => ?_)
  refine lv_aload_n hx hb dX9_layAnew_17 rfl (lv_at hl 1 rfl) ?_
  have hw23 : w19 4 = .inr (9, [.int (2 : Int32), .int (1 : Int32), .ref (ad 5), .ref (ad 6), .ref (ad 7), .ref (ad 8), .ref (ad 9), .ref (ad 10), .ref (ad 12)]) := (hne21 4 (nn_ne rfl)).trans (hw17)
  refine tw_get (r := 4) F hH kf_RX9_9 rfl (by decide) hw23 rfl dX9_layAnew_18 ?_
  refine lv_iload_n hx hb dX9_layAnew_21 rfl (lv_at hl 0 rfl) ?_
  refine lv_sipush (v := 20000) hx hb dX9_layAnew_22 (by decide) ?_
  have hw24 : w19 5 = .inl (G.2.1 0, 5, .inl (upd (fun _ => 0) 0 (20000 : Int32))) := (hne21 5 (nn_ne rfl)).trans ((hne16 5 (nn_ne rfl)).trans (hw10))
  refine tw_iast (r := 5) (j := 1) F hH rfl (by decide) hw24 (by decide) (by decide) dX9_layAnew_25 (fun H locs w25 hw26 hne27 hH => ?_)
  refine lv_aload_n hx hb dX9_layAnew_26 rfl (lv_at hl 1 rfl) ?_
  have hw28 : w25 4 = .inr (9, [.int (2 : Int32), .int (1 : Int32), .ref (ad 5), .ref (ad 6), .ref (ad 7), .ref (ad 8), .ref (ad 9), .ref (ad 10), .ref (ad 12)]) := (hne27 4 (nn_ne rfl)).trans (hw23)
  refine tw_get (r := 4) F hH kf_RX9_15 rfl (by decide) hw28 rfl dX9_layAnew_27 ?_
  refine lv_iload_n hx hb dX9_layAnew_30 rfl (lv_at hl 0 rfl) ?_
  refine lv_sipush (v := 300) hx hb dX9_layAnew_31 (by decide) ?_
  have hw29 : w25 6 = .inl (G.2.1 0, 5, .inl (upd (fun _ => 0) 0 (300 : Int32))) := (hne27 6 (nn_ne rfl)).trans ((hne21 6 (nn_ne rfl)).trans (hw15))
  refine tw_iast (r := 6) (j := 1) F hH rfl (by decide) hw29 (by decide) (by decide) dX9_layAnew_34 (fun H locs w30 hw31 hne32 hH => ?_)
  refine lv_aload_n hx hb dX9_layAnew_35 rfl (lv_at hl 1 rfl) ?_
  have hw33 : w30 4 = .inr (9, [.int (2 : Int32), .int (1 : Int32), .ref (ad 5), .ref (ad 6), .ref (ad 7), .ref (ad 8), .ref (ad 9), .ref (ad 10), .ref (ad 12)]) := (hne32 4 (nn_ne rfl)).trans (hw28)
  refine tw_get (r := 4) F hH kf_RX9_18 rfl (by decide) hw33 rfl dX9_layAnew_36 ?_
  refine lv_iload_n hx hb dX9_layAnew_39 rfl (lv_at hl 0 rfl) ?_
  refine lv_iconst (v := 0) hx hb dX9_layAnew_40 (by decide) ?_
  have hw34 : w30 7 = .inl (G.2.1 1, 5, .inl (upd (fun _ => 0) 0 (0 : Int32))) := (hne32 7 (nn_ne rfl)).trans ((hne27 7 (nn_ne rfl)).trans (hw20))
  refine tw_zast (r := 7) (j := 1) F hH rfl (by decide) hw34 (by decide) (by decide) (by decide) dX9_layAnew_41 (fun H locs w35 hw36 hne37 hH => ?_)
  refine lv_iinc (v := (2 : Int32)) (lv' := [(3, .int (2 : Int32)), (0, .ref (ad 4)), (1, .int (2 : Int32)), (2, .int (1 : Int32))]) hx hb dX9_layAnew_42 hl (k := 0) rfl (by decide) (by decide) rfl (fun ls hl => ?_)
  refine lv_goto (tgt := 12) hx hb dX9_layAnew_45 (by decide) ?_
  refine lv_iload_n hx hb dX9_layAnew_12 rfl (lv_at hl 0 rfl) ?_
  refine lv_iconst (v := 5) hx hb dX9_layAnew_13 (by decide) ?_
  refine lv_icmp_ge (tgt := 48) hx hb dX9_layAnew_14 (by decide) (fun c => absurd c (by decide)) (fun _ => ?_)
  refine lv_aload_n hx hb dX9_layAnew_17 rfl (lv_at hl 1 rfl) ?_
  have hw39 : w35 4 = .inr (9, [.int (2 : Int32), .int (1 : Int32), .ref (ad 5), .ref (ad 6), .ref (ad 7), .ref (ad 8), .ref (ad 9), .ref (ad 10), .ref (ad 12)]) := (hne37 4 (nn_ne rfl)).trans (hw33)
  refine tw_get (r := 4) F hH kf_RX9_9 rfl (by decide) hw39 rfl dX9_layAnew_18 ?_
  refine lv_iload_n hx hb dX9_layAnew_21 rfl (lv_at hl 0 rfl) ?_
  refine lv_sipush (v := 20000) hx hb dX9_layAnew_22 (by decide) ?_
  have hw40 : w35 5 = .inl (G.2.1 0, 5, .inl (upd (upd (fun _ => 0) 0 (20000 : Int32)) 1 (20000 : Int32))) := (hne37 5 (nn_ne rfl)).trans ((hne32 5 (nn_ne rfl)).trans (hw26))
  refine tw_iast (r := 5) (j := 2) F hH rfl (by decide) hw40 (by decide) (by decide) dX9_layAnew_25 (fun H locs w41 hw42 hne43 hH => ?_)
  refine lv_aload_n hx hb dX9_layAnew_26 rfl (lv_at hl 1 rfl) ?_
  have hw44 : w41 4 = .inr (9, [.int (2 : Int32), .int (1 : Int32), .ref (ad 5), .ref (ad 6), .ref (ad 7), .ref (ad 8), .ref (ad 9), .ref (ad 10), .ref (ad 12)]) := (hne43 4 (nn_ne rfl)).trans (hw39)
  refine tw_get (r := 4) F hH kf_RX9_15 rfl (by decide) hw44 rfl dX9_layAnew_27 ?_
  refine lv_iload_n hx hb dX9_layAnew_30 rfl (lv_at hl 0 rfl) ?_
  refine lv_sipush (v := 300) hx hb dX9_layAnew_31 (by decide) ?_
  have hw45 : w41 6 = .inl (G.2.1 0, 5, .inl (upd (upd (fun _ => 0) 0 (300 : Int32)) 1 (300 : Int32))) := (hne43 6 (nn_ne rfl)).trans ((hne37 6 (nn_ne rfl)).trans (hw31))
  refine tw_iast (r := 6) (j := 2) F hH rfl (by decide) hw45 (by decide) (by decide) dX9_layAnew_34 (fun H locs w46 hw47 hne48 hH => ?_)
  refine lv_aload_n hx hb dX9_layAnew_35 rfl (lv_at hl 1 rfl) ?_
  have hw49 : w46 4 = .inr (9, [.int (2 : Int32), .int (1 : Int32), .ref (ad 5), .ref (ad 6), .ref (ad 7), .ref (ad 8), .ref (ad 9), .ref (ad 10), .ref (ad 12)]) := (hne48 4 (nn_ne rfl)).trans (hw44)
  refine tw_get (r := 4) F hH kf_RX9_18 rfl (by decide) hw49 rfl dX9_layAnew_36 ?_
  refine lv_iload_n hx hb dX9_layAnew_39 rfl (lv_at hl 0 rfl) ?_
  refine lv_iconst (v := 0) hx hb dX9_layAnew_40 (by decide) ?_
  have hw50 : w46 7 = .inl (G.2.1 1, 5, .inl (upd (upd (fun _ => 0) 0 (0 : Int32)) 1 (0 : Int32))) := (hne48 7 (nn_ne rfl)).trans ((hne43 7 (nn_ne rfl)).trans (hw36))
  refine tw_zast (r := 7) (j := 2) F hH rfl (by decide) hw50 (by decide) (by decide) (by decide) dX9_layAnew_41 (fun H locs w51 hw52 hne53 hH => ?_)
  refine lv_iinc (v := (3 : Int32)) (lv' := [(3, .int (3 : Int32)), (0, .ref (ad 4)), (1, .int (2 : Int32)), (2, .int (1 : Int32))]) hx hb dX9_layAnew_42 hl (k := 0) rfl (by decide) (by decide) rfl (fun ls hl => ?_)
  refine lv_goto (tgt := 12) hx hb dX9_layAnew_45 (by decide) ?_
  refine lv_iload_n hx hb dX9_layAnew_12 rfl (lv_at hl 0 rfl) ?_
  refine lv_iconst (v := 5) hx hb dX9_layAnew_13 (by decide) ?_
  refine lv_icmp_ge (tgt := 48) hx hb dX9_layAnew_14 (by decide) (fun c => absurd c (by decide)) (fun _ => ?_)
  refine lv_aload_n hx hb dX9_layAnew_17 rfl (lv_at hl 1 rfl) ?_
  have hw55 : w51 4 = .inr (9, [.int (2 : Int32), .int (1 : Int32), .ref (ad 5), .ref (ad 6), .ref (ad 7), .ref (ad 8), .ref (ad 9), .ref (ad 10), .ref (ad 12)]) := (hne53 4 (nn_ne rfl)).trans (hw49)
  refine tw_get (r := 4) F hH kf_RX9_9 rfl (by decide) hw55 rfl dX9_layAnew_18 ?_
  refine lv_iload_n hx hb dX9_layAnew_21 rfl (lv_at hl 0 rfl) ?_
  refine lv_sipush (v := 20000) hx hb dX9_layAnew_22 (by decide) ?_
  have hw56 : w51 5 = .inl (G.2.1 0, 5, .inl (upd (upd (upd (fun _ => 0) 0 (20000 : Int32)) 1 (20000 : Int32)) 2 (20000 : Int32))) := (hne53 5 (nn_ne rfl)).trans ((hne48 5 (nn_ne rfl)).trans (hw42))
  refine tw_iast (r := 5) (j := 3) F hH rfl (by decide) hw56 (by decide) (by decide) dX9_layAnew_25 (fun H locs w57 hw58 hne59 hH => ?_)
  refine lv_aload_n hx hb dX9_layAnew_26 rfl (lv_at hl 1 rfl) ?_
  have hw60 : w57 4 = .inr (9, [.int (2 : Int32), .int (1 : Int32), .ref (ad 5), .ref (ad 6), .ref (ad 7), .ref (ad 8), .ref (ad 9), .ref (ad 10), .ref (ad 12)]) := (hne59 4 (nn_ne rfl)).trans (hw55)
  refine tw_get (r := 4) F hH kf_RX9_15 rfl (by decide) hw60 rfl dX9_layAnew_27 ?_
  refine lv_iload_n hx hb dX9_layAnew_30 rfl (lv_at hl 0 rfl) ?_
  refine lv_sipush (v := 300) hx hb dX9_layAnew_31 (by decide) ?_
  have hw61 : w57 6 = .inl (G.2.1 0, 5, .inl (upd (upd (upd (fun _ => 0) 0 (300 : Int32)) 1 (300 : Int32)) 2 (300 : Int32))) := (hne59 6 (nn_ne rfl)).trans ((hne53 6 (nn_ne rfl)).trans (hw47))
  refine tw_iast (r := 6) (j := 3) F hH rfl (by decide) hw61 (by decide) (by decide) dX9_layAnew_34 (fun H locs w62 hw63 hne64 hH => ?_)
  refine lv_aload_n hx hb dX9_layAnew_35 rfl (lv_at hl 1 rfl) ?_
  have hw65 : w62 4 = .inr (9, [.int (2 : Int32), .int (1 : Int32), .ref (ad 5), .ref (ad 6), .ref (ad 7), .ref (ad 8), .ref (ad 9), .ref (ad 10), .ref (ad 12)]) := (hne64 4 (nn_ne rfl)).trans (hw60)
  refine tw_get (r := 4) F hH kf_RX9_18 rfl (by decide) hw65 rfl dX9_layAnew_36 ?_
  refine lv_iload_n hx hb dX9_layAnew_39 rfl (lv_at hl 0 rfl) ?_
  refine lv_iconst (v := 0) hx hb dX9_layAnew_40 (by decide) ?_
  have hw66 : w62 7 = .inl (G.2.1 1, 5, .inl (upd (upd (upd (fun _ => 0) 0 (0 : Int32)) 1 (0 : Int32)) 2 (0 : Int32))) := (hne64 7 (nn_ne rfl)).trans ((hne59 7 (nn_ne rfl)).trans (hw52))
  refine tw_zast (r := 7) (j := 3) F hH rfl (by decide) hw66 (by decide) (by decide) (by decide) dX9_layAnew_41 (fun H locs w67 hw68 hne69 hH => ?_)
  refine lv_iinc (v := (4 : Int32)) (lv' := [(3, .int (4 : Int32)), (0, .ref (ad 4)), (1, .int (2 : Int32)), (2, .int (1 : Int32))]) hx hb dX9_layAnew_42 hl (k := 0) rfl (by decide) (by decide) rfl (fun ls hl => ?_)
  refine lv_goto (tgt := 12) hx hb dX9_layAnew_45 (by decide) ?_
  refine lv_iload_n hx hb dX9_layAnew_12 rfl (lv_at hl 0 rfl) ?_
  refine lv_iconst (v := 5) hx hb dX9_layAnew_13 (by decide) ?_
  refine lv_icmp_ge (tgt := 48) hx hb dX9_layAnew_14 (by decide) (fun c => absurd c (by decide)) (fun _ => ?_)
  refine lv_aload_n hx hb dX9_layAnew_17 rfl (lv_at hl 1 rfl) ?_
  have hw71 : w67 4 = .inr (9, [.int (2 : Int32), .int (1 : Int32), .ref (ad 5), .ref (ad 6), .ref (ad 7), .ref (ad 8), .ref (ad 9), .ref (ad 10), .ref (ad 12)]) := (hne69 4 (nn_ne rfl)).trans (hw65)
  refine tw_get (r := 4) F hH kf_RX9_9 rfl (by decide) hw71 rfl dX9_layAnew_18 ?_
  refine lv_iload_n hx hb dX9_layAnew_21 rfl (lv_at hl 0 rfl) ?_
  refine lv_sipush (v := 20000) hx hb dX9_layAnew_22 (by decide) ?_
  have hw72 : w67 5 = .inl (G.2.1 0, 5, .inl (upd (upd (upd (upd (fun _ => 0) 0 (20000 : Int32)) 1 (20000 : Int32)) 2 (20000 : Int32)) 3 (20000 : Int32))) := (hne69 5 (nn_ne rfl)).trans ((hne64 5 (nn_ne rfl)).trans (hw58))
  refine tw_iast (r := 5) (j := 4) F hH rfl (by decide) hw72 (by decide) (by decide) dX9_layAnew_25 (fun H locs w73 hw74 hne75 hH => ?_)
  refine lv_aload_n hx hb dX9_layAnew_26 rfl (lv_at hl 1 rfl) ?_
  have hw76 : w73 4 = .inr (9, [.int (2 : Int32), .int (1 : Int32), .ref (ad 5), .ref (ad 6), .ref (ad 7), .ref (ad 8), .ref (ad 9), .ref (ad 10), .ref (ad 12)]) := (hne75 4 (nn_ne rfl)).trans (hw71)
  refine tw_get (r := 4) F hH kf_RX9_15 rfl (by decide) hw76 rfl dX9_layAnew_27 ?_
  refine lv_iload_n hx hb dX9_layAnew_30 rfl (lv_at hl 0 rfl) ?_
  refine lv_sipush (v := 300) hx hb dX9_layAnew_31 (by decide) ?_
  have hw77 : w73 6 = .inl (G.2.1 0, 5, .inl (upd (upd (upd (upd (fun _ => 0) 0 (300 : Int32)) 1 (300 : Int32)) 2 (300 : Int32)) 3 (300 : Int32))) := (hne75 6 (nn_ne rfl)).trans ((hne69 6 (nn_ne rfl)).trans (hw63))
  refine tw_iast (r := 6) (j := 4) F hH rfl (by decide) hw77 (by decide) (by decide) dX9_layAnew_34 (fun H locs w78 hw79 hne80 hH => ?_)
  refine lv_aload_n hx hb dX9_layAnew_35 rfl (lv_at hl 1 rfl) ?_
  have hw81 : w78 4 = .inr (9, [.int (2 : Int32), .int (1 : Int32), .ref (ad 5), .ref (ad 6), .ref (ad 7), .ref (ad 8), .ref (ad 9), .ref (ad 10), .ref (ad 12)]) := (hne80 4 (nn_ne rfl)).trans (hw76)
  refine tw_get (r := 4) F hH kf_RX9_18 rfl (by decide) hw81 rfl dX9_layAnew_36 ?_
  refine lv_iload_n hx hb dX9_layAnew_39 rfl (lv_at hl 0 rfl) ?_
  refine lv_iconst (v := 0) hx hb dX9_layAnew_40 (by decide) ?_
  have hw82 : w78 7 = .inl (G.2.1 1, 5, .inl (upd (upd (upd (upd (fun _ => 0) 0 (0 : Int32)) 1 (0 : Int32)) 2 (0 : Int32)) 3 (0 : Int32))) := (hne80 7 (nn_ne rfl)).trans ((hne75 7 (nn_ne rfl)).trans (hw68))
  refine tw_zast (r := 7) (j := 4) F hH rfl (by decide) hw82 (by decide) (by decide) (by decide) dX9_layAnew_41 (fun H locs w83 hw84 hne85 hH => ?_)
  refine lv_iinc (v := (5 : Int32)) (lv' := [(3, .int (5 : Int32)), (0, .ref (ad 4)), (1, .int (2 : Int32)), (2, .int (1 : Int32))]) hx hb dX9_layAnew_42 hl (k := 0) rfl (by decide) (by decide) rfl (fun ls hl => ?_)
  refine lv_goto (tgt := 12) hx hb dX9_layAnew_45 (by decide) ?_
  refine lv_iload_n hx hb dX9_layAnew_12 rfl (lv_at hl 0 rfl) ?_
  refine lv_iconst (v := 5) hx hb dX9_layAnew_13 (by decide) ?_
  refine lv_icmp_ge (tgt := 48) hx hb dX9_layAnew_14 (by decide) (fun _ => ?_) (fun c => absurd c (by decide))
  refine lv_aload_n hx hb dX9_layAnew_48 rfl (lv_at hl 1 rfl) ?_
  have hw87 : w83 4 = .inr (9, [.int (2 : Int32), .int (1 : Int32), .ref (ad 5), .ref (ad 6), .ref (ad 7), .ref (ad 8), .ref (ad 9), .ref (ad 10), .ref (ad 12)]) := (hne85 4 (nn_ne rfl)).trans (hw81)
  refine tw_get (r := 4) F hH kf_RX9_33 rfl (by decide) hw87 rfl dX9_layAnew_49 ?_
  refine lv_iconst (v := 0) hx hb dX9_layAnew_52 (by decide) ?_
  have hw88 : w83 10 = .inr (7, [.int (30 : Int32), .int (3 : Int32), .ref (ad 11), .int (0 : Int32)]) := (hne85 10 (nn_ne rfl)).trans ((hne80 10 (nn_ne rfl)).trans ((hne75 10 (nn_ne rfl)).trans ((hne69 10 (nn_ne rfl)).trans ((hne64 10 (nn_ne rfl)).trans ((hne59 10 (nn_ne rfl)).trans ((hne53 10 (nn_ne rfl)).trans ((hne48 10 (nn_ne rfl)).trans ((hne43 10 (nn_ne rfl)).trans ((hne37 10 (nn_ne rfl)).trans ((hne32 10 (nn_ne rfl)).trans ((hne27 10 (nn_ne rfl)).trans ((hne21 10 (nn_ne rfl)).trans ((hne16 10 (nn_ne rfl)).trans ((hne11 10 (nn_ne rfl)).trans ((hne6 10 (nn_ne rfl)).trans ((hne3 10 (nn_ne rfl)).trans (hw_10)))))))))))))))))
  refine tw_put (r := 10) F hH kf_RX9_56 kp_X7_3 rfl (by decide) hw88 (Nat.le_of_ble_eq_true rfl) rfl rfl dX9_layAnew_53 (fun H locs w89 hw90 hne91 hH => ?_)
  have hw90 : w89 10 = .inr (7, [.int (30 : Int32), .int (3 : Int32), .ref (ad 11), .int (0 : Int32)]) := hw90
  refine lv_aload_n hx hb dX9_layAnew_56 rfl (lv_at hl 1 rfl) ?_
  have hw92 : w89 4 = .inr (9, [.int (2 : Int32), .int (1 : Int32), .ref (ad 5), .ref (ad 6), .ref (ad 7), .ref (ad 8), .ref (ad 9), .ref (ad 10), .ref (ad 12)]) := (hne91 4 (nn_ne rfl)).trans (hw87)
  refine tw_get (r := 4) F hH kf_RX9_37 rfl (by decide) hw92 rfl dX9_layAnew_57 ?_
  refine lv_iconst (v := 0) hx hb dX9_layAnew_60 (by decide) ?_
  have hw93 : w89 12 = .inr (7, [.int (20 : Int32), .int (4 : Int32), .ref (ad 13), .int (0 : Int32)]) := (hne91 12 (nn_ne rfl)).trans ((hne85 12 (nn_ne rfl)).trans ((hne80 12 (nn_ne rfl)).trans ((hne75 12 (nn_ne rfl)).trans ((hne69 12 (nn_ne rfl)).trans ((hne64 12 (nn_ne rfl)).trans ((hne59 12 (nn_ne rfl)).trans ((hne53 12 (nn_ne rfl)).trans ((hne48 12 (nn_ne rfl)).trans ((hne43 12 (nn_ne rfl)).trans ((hne37 12 (nn_ne rfl)).trans ((hne32 12 (nn_ne rfl)).trans ((hne27 12 (nn_ne rfl)).trans ((hne21 12 (nn_ne rfl)).trans ((hne16 12 (nn_ne rfl)).trans ((hne11 12 (nn_ne rfl)).trans ((hne6 12 (nn_ne rfl)).trans ((hne3 12 (nn_ne rfl)).trans (hw_12))))))))))))))))))
  refine tw_put (r := 12) F hH kf_RX9_56 kp_X7_3 rfl (by decide) hw93 (Nat.le_of_ble_eq_true rfl) rfl rfl dX9_layAnew_61 (fun H locs w94 hw95 hne96 hH => ?_)
  have hw95 : w94 12 = .inr (7, [.int (20 : Int32), .int (4 : Int32), .ref (ad 13), .int (0 : Int32)]) := hw95
  have hw97 : w94 4 = .inr (9, [.int (2 : Int32), .int (1 : Int32), .ref (ad 5), .ref (ad 6), .ref (ad 7), .ref (ad 8), .ref (ad 9), .ref (ad 10), .ref (ad 12)]) := (hne96 4 (nn_ne rfl)).trans (hw92)
  have hw98 : w94 5 = .inl (G.2.1 0, 5, .inl (upd (upd (upd (upd (upd (fun _ => 0) 0 (20000 : Int32)) 1 (20000 : Int32)) 2 (20000 : Int32)) 3 (20000 : Int32)) 4 (20000 : Int32))) := (hne96 5 (nn_ne rfl)).trans ((hne91 5 (nn_ne rfl)).trans ((hne85 5 (nn_ne rfl)).trans ((hne80 5 (nn_ne rfl)).trans (hw74))))
  have hw99 : w94 6 = .inl (G.2.1 0, 5, .inl (upd (upd (upd (upd (upd (fun _ => 0) 0 (300 : Int32)) 1 (300 : Int32)) 2 (300 : Int32)) 3 (300 : Int32)) 4 (300 : Int32))) := (hne96 6 (nn_ne rfl)).trans ((hne91 6 (nn_ne rfl)).trans ((hne85 6 (nn_ne rfl)).trans (hw79)))
  have hw100 : w94 7 = .inl (G.2.1 1, 5, .inl (upd (upd (upd (upd (upd (fun _ => 0) 0 (0 : Int32)) 1 (0 : Int32)) 2 (0 : Int32)) 3 (0 : Int32)) 4 (0 : Int32))) := (hne96 7 (nn_ne rfl)).trans ((hne91 7 (nn_ne rfl)).trans (hw84))
  have hw101 : w94 10 = .inr (7, [.int (30 : Int32), .int (3 : Int32), .ref (ad 11), .int (0 : Int32)]) := (hne96 10 (nn_ne rfl)).trans (hw90)
  exact tw_vret F hH hret hlk (Nat.le_of_ble_eq_true rfl) (Nat.le_of_ble_eq_true rfl) dX9_layAnew_64 (⟨trivial, hw97, hw98, hw99, hw100, hw101, hw95, fun k h0 h1 h2 h3 h4 h5 => ((hne96 k (by omega)).trans ((hne91 k (by omega)).trans ((hne85 k (by omega)).trans ((hne80 k (by omega)).trans ((hne75 k (by omega)).trans ((hne69 k (by omega)).trans ((hne64 k (by omega)).trans ((hne59 k (by omega)).trans ((hne53 k (by omega)).trans ((hne48 k (by omega)).trans ((hne43 k (by omega)).trans ((hne37 k (by omega)).trans ((hne32 k (by omega)).trans ((hne27 k (by omega)).trans ((hne21 k (by omega)).trans ((hne16 k (by omega)).trans ((hne11 k (by omega)).trans ((hne6 k (by omega)).trans (hne3 k (by omega))))))))))))))))))))⟩)
set_option maxHeartbeats 40000000 in
set_option maxRecDepth 100000 in
theorem c_X9_init (l : Launch) (G : tw_G) (ad : Nat → Nat) (w : Nat → va_E) (sz : Nat) (hw_4 : w 4 = .inr (9, [.int (0 : Int32), .int (0 : Int32), .null, .null, .null, .null, .null, .null, .null])) : Met l yX9_init (tw_ws yX9_init cX9_init 3 none) ({ frames := 2, cells := 9, slots := 225, locals := 43 }) (tw_Pre G 5 ad w sz [.ref (ad 4)]) (tw_Qn G 5 9 ad (fun u => (True ∧ u.2 5 = .inl (G.2.1 0, 5, .inl (upd (upd (upd (upd (upd (fun _ => 0) 0 (20000 : Int32)) 1 (20000 : Int32)) 2 (20000 : Int32)) 3 (20000 : Int32)) 4 (20000 : Int32))) ∧ u.2 4 = .inr (9, [.int (2 : Int32), .int (1 : Int32), .ref (u.1 5), .ref (u.1 6), .ref (u.1 7), .ref (u.1 8), .ref (u.1 9), .ref (u.1 10), .ref (u.1 12)]) ∧ u.2 6 = .inl (G.2.1 0, 5, .inl (upd (upd (upd (upd (upd (fun _ => 0) 0 (300 : Int32)) 1 (300 : Int32)) 2 (300 : Int32)) 3 (300 : Int32)) 4 (300 : Int32))) ∧ u.2 7 = .inl (G.2.1 1, 5, .inl (upd (upd (upd (upd (upd (fun _ => 0) 0 (0 : Int32)) 1 (0 : Int32)) 2 (0 : Int32)) 3 (0 : Int32)) 4 (0 : Int32))) ∧ u.2 8 = .inl (G.2.1 0, 24, .inl (upd (upd (upd (upd (upd (upd (upd (upd (upd (upd (upd (upd (upd (upd (upd (upd (upd (upd (upd (upd (upd (upd (upd (upd (fun _ => 0) 0 (0 : Int32)) 1 (10 : Int32)) 2 (40 : Int32)) 3 (1000 : Int32)) 4 (0 : Int32)) 5 (5 : Int32)) 6 (0 : Int32)) 7 (10 : Int32)) 8 (40 : Int32)) 9 (1000 : Int32)) 10 (0 : Int32)) 11 (5 : Int32)) 12 (0 : Int32)) 13 (10 : Int32)) 14 (40 : Int32)) 15 (1000 : Int32)) 16 (0 : Int32)) 17 (5 : Int32)) 18 (0 : Int32)) 19 (10 : Int32)) 20 (40 : Int32)) 21 (1000 : Int32)) 22 (0 : Int32)) 23 (5 : Int32))) ∧ u.2 9 = .inl (G.2.1 0, 8, .inl (upd (upd (upd (upd (upd (upd (upd (upd (fun _ => 0) 0 (500 : Int32)) 1 (5 : Int32)) 2 (200 : Int32)) 3 (15000 : Int32)) 4 (3000 : Int32)) 5 (50 : Int32)) 6 (300 : Int32)) 7 (0 : Int32))) ∧ u.2 10 = .inr (7, [.int (30 : Int32), .int (3 : Int32), .ref (u.1 11), .int (0 : Int32)]) ∧ u.2 11 = .inl (G.2.1 0, 90, .inl (fun _ => 0)) ∧ u.2 12 = .inr (7, [.int (20 : Int32), .int (4 : Int32), .ref (u.1 13), .int (0 : Int32)]) ∧ u.2 13 = .inl (G.2.1 0, 80, .inl (fun _ => 0)) ∧ ∀ k, k < 4 → u.2 k = w k)) sz) 9 225 (tw_A 5 ad sz) := by
  refine tw_met (by decide) (Nat.le_of_ble_eq_true rfl) ?_
  intro p e s m args below meth c F hret hlk hin hargs hsz hH ls hl
  have hx := F.1.1
  have hb := F.1.2.1
  have hown := F.1.2.2.2.1
  have hts := F.1.2.2.2.2
  have hl : lv_has ls 3 [(0, .ref (ad 4))] := hl
  generalize hH0 : s.heap = H at hH ⊢
  refine lv_aload_n hx hb dX9_init_0 rfl (lv_at hl 0 rfl) ?_
  refine tw_objInit F (tw_gl kw_53 rfl) (tw_gl kw_32 rfl) (tw_gl kw_33 rfl) hl.1 ⟨(Nat.le_of_ble_eq_true rfl), (Nat.le_of_ble_eq_true rfl)⟩ (Nat.le_of_ble_eq_true rfl) dX9_init_1 ?_
  refine lv_aload_n hx hb dX9_init_4 rfl (lv_at hl 0 rfl) ?_
  refine lv_iconst (v := 5) hx hb dX9_init_5 (by decide) ?_
  refine tw_newa (t := 0) (atype := .int) (ty := .int) (n' := 5) (a0 := (5, .inl (fun _ => 0))) F hH rfl (fun C h => by cases h) (tw_gl kw_47 rfl) rfl (fun _ => rfl) (by decide) (Nat.le_of_ble_eq_true rfl) (Nat.le_of_ble_eq_true rfl) (Nat.le_of_ble_eq_true rfl) dX9_init_6 (fun H locs ad4 w1 ha5 hw2 hne3 hH => ?_)
  have hw6 : w1 4 = .inr (9, [.int (0 : Int32), .int (0 : Int32), .null, .null, .null, .null, .null, .null, .null]) := (hne3 4 (nn_ne rfl)).trans (hw_4)
  refine tw_putF (r := 4) F hH kf_RX9_9 kp_X9_2 hin rfl (ha5 4 (nn_lt rfl)) (by decide) hw6 (Nat.le_of_ble_eq_true rfl) rfl rfl dX9_init_8 (fun H locs w7 hw8 hne9 hH => ?_)
  have hw8 : w7 4 = .inr (9, [.int (0 : Int32), .int (0 : Int32), .ref (ad4 5), .null, .null, .null, .null, .null, .null]) := hw8
  refine lv_aload_n hx hb dX9_init_11 rfl (lv_at hl 0 rfl) ?_
  refine lv_iconst (v := 5) hx hb dX9_init_12 (by decide) ?_
  refine tw_newa (t := 0) (atype := .int) (ty := .int) (n' := 5) (a0 := (5, .inl (fun _ => 0))) F hH rfl (fun C h => by cases h) (tw_gl kw_47 rfl) rfl (fun _ => rfl) (by decide) (Nat.le_of_ble_eq_true rfl) (Nat.le_of_ble_eq_true rfl) (Nat.le_of_ble_eq_true rfl) dX9_init_13 (fun H locs ad13 w10 ha14 hw11 hne12 hH => ?_)
  have hw15 : w10 4 = .inr (9, [.int (0 : Int32), .int (0 : Int32), .ref (ad4 5), .null, .null, .null, .null, .null, .null]) := (hne12 4 (nn_ne rfl)).trans (hw8)
  refine tw_putF (r := 4) F hH kf_RX9_15 kp_X9_3 hin rfl ((ha14 4 (nn_lt rfl)).trans (ha5 4 (nn_lt rfl))) (by decide) hw15 (Nat.le_of_ble_eq_true rfl) rfl rfl dX9_init_15 (fun H locs w16 hw17 hne18 hH => ?_)
  have hw17 : w16 4 = .inr (9, [.int (0 : Int32), .int (0 : Int32), .ref (ad4 5), .ref (ad13 6), .null, .null, .null, .null, .null]) := hw17
  refine lv_aload_n hx hb dX9_init_18 rfl (lv_at hl 0 rfl) ?_
  refine lv_iconst (v := 5) hx hb dX9_init_19 (by decide) ?_
  refine tw_newa (t := 1) (atype := .boolean) (ty := .boolean) (n' := 5) (a0 := (5, .inl (fun _ => 0))) F hH rfl (fun C h => by cases h) (tw_gl kw_83 rfl) rfl (fun _ => rfl) (by decide) (Nat.le_of_ble_eq_true rfl) (Nat.le_of_ble_eq_true rfl) (Nat.le_of_ble_eq_true rfl) dX9_init_20 (fun H locs ad22 w19 ha23 hw20 hne21 hH => ?_)
  have hw24 : w19 4 = .inr (9, [.int (0 : Int32), .int (0 : Int32), .ref (ad4 5), .ref (ad13 6), .null, .null, .null, .null, .null]) := (hne21 4 (nn_ne rfl)).trans (hw17)
  refine tw_putF (r := 4) F hH kf_RX9_18 kp_X9_4 hin rfl (((ha23 4 (nn_lt rfl)).trans (ha14 4 (nn_lt rfl))).trans (ha5 4 (nn_lt rfl))) (by decide) hw24 (Nat.le_of_ble_eq_true rfl) rfl rfl dX9_init_22 (fun H locs w25 hw26 hne27 hH => ?_)
  have hw26 : w25 4 = .inr (9, [.int (0 : Int32), .int (0 : Int32), .ref (ad4 5), .ref (ad13 6), .ref (ad22 7), .null, .null, .null, .null]) := hw26
  refine lv_aload_n hx hb dX9_init_25 rfl (lv_at hl 0 rfl) ?_
  refine lv_bipush (v := 24) hx hb dX9_init_26 (by decide) ?_
  refine tw_newa (t := 0) (atype := .int) (ty := .int) (n' := 24) (a0 := (24, .inl (fun _ => 0))) F hH rfl (fun C h => by cases h) (tw_gl kw_47 rfl) rfl (fun _ => rfl) (by decide) (Nat.le_of_ble_eq_true rfl) (Nat.le_of_ble_eq_true rfl) (Nat.le_of_ble_eq_true rfl) dX9_init_28 (fun H locs ad31 w28 ha32 hw29 hne30 hH => ?_)
  have hw33 : w28 4 = .inr (9, [.int (0 : Int32), .int (0 : Int32), .ref (ad4 5), .ref (ad13 6), .ref (ad22 7), .null, .null, .null, .null]) := (hne30 4 (nn_ne rfl)).trans (hw26)
  have ha37 : ad31 4 = ad 4 := ((((ha32 4 (nn_lt rfl)).trans (ha23 4 (nn_lt rfl))).trans (ha14 4 (nn_lt rfl))).trans (ha5 4 (nn_lt rfl)))
  refine tw_putF (r := 4) F hH kf_RX9_22 kp_X9_5 hin rfl ha37 (by decide) hw33 (Nat.le_of_ble_eq_true rfl) rfl rfl dX9_init_30 (fun H locs w34 hw35 hne36 hH => ?_)
  have hw35 : w34 4 = .inr (9, [.int (0 : Int32), .int (0 : Int32), .ref (ad4 5), .ref (ad13 6), .ref (ad22 7), .ref (ad31 8), .null, .null, .null]) := hw35
  refine lv_aload_n hx hb dX9_init_33 rfl (lv_at hl 0 rfl) ?_
  refine lv_bipush (v := 8) hx hb dX9_init_34 (by decide) ?_
  refine tw_newa (t := 0) (atype := .int) (ty := .int) (n' := 8) (a0 := (8, .inl (fun _ => 0))) F hH rfl (fun C h => by cases h) (tw_gl kw_47 rfl) rfl (fun _ => rfl) (by decide) (Nat.le_of_ble_eq_true rfl) (Nat.le_of_ble_eq_true rfl) (Nat.le_of_ble_eq_true rfl) dX9_init_36 (fun H locs ad41 w38 ha42 hw39 hne40 hH => ?_)
  have hw43 : w38 4 = .inr (9, [.int (0 : Int32), .int (0 : Int32), .ref (ad4 5), .ref (ad13 6), .ref (ad22 7), .ref (ad31 8), .null, .null, .null]) := (hne40 4 (nn_ne rfl)).trans (hw35)
  have ha47 : ad41 4 = ad 4 := ((ha42 4 (nn_lt rfl)).trans ha37)
  refine tw_putF (r := 4) F hH kf_RX9_25 kp_X9_6 hin rfl ha47 (by decide) hw43 (Nat.le_of_ble_eq_true rfl) rfl rfl dX9_init_38 (fun H locs w44 hw45 hne46 hH => ?_)
  have hw45 : w44 4 = .inr (9, [.int (0 : Int32), .int (0 : Int32), .ref (ad4 5), .ref (ad13 6), .ref (ad22 7), .ref (ad31 8), .ref (ad41 9), .null, .null]) := hw45
  refine lv_aload_n hx hb dX9_init_41 rfl (lv_at hl 0 rfl) ?_
  refine tw_new (ci := 7) (T := TX7) F hH rfl iw_X7 tyX7 tyX7_ok (tw_gl kw_54 rfl) (tw_gl kw_55 rfl) (tw_gl kw_4 rfl) kd_X7 (Nat.le_of_ble_eq_true rfl) (Nat.le_of_ble_eq_true rfl) dX9_init_42 (fun H locs ad51 w48 ha52 hw49 hne50 hH => ?_)
  refine lv_dup hx hb dX9_init_45 rfl ?_
  refine lv_bipush (v := 30) hx hb dX9_init_46 (by decide) ?_
  refine lv_iconst (v := 3) hx hb dX9_init_48 (by decide) ?_
  refine tw_calln F hH (tw_runI (r := 10) (As := [.int (30 : Int32), .int (3 : Int32)]) (rest := [.ref (ad51 10), .ref (ad 4)]) F hH (c_X7_init l G 10 ad51 w48 H.size hw49) (tw_gl kw_56 rfl) km_X7_init (tw_gl kw_57 rfl) rfl rfl rfl ⟨(Nat.le_of_ble_eq_true rfl), (Nat.le_of_ble_eq_true rfl)⟩ rfl hl.1 rfl (Nat.le_of_ble_eq_true rfl) dX9_init_49 ⟨(Nat.le_of_ble_eq_true rfl), (Nat.le_of_ble_eq_true rfl)⟩) (fun ad55 w53 H locs hp54 ha56 _ hH => ?_)
  obtain ⟨-, hw58, hw59, hfr60⟩ := hp54
  have hw61 : w53 4 = .inr (9, [.int (0 : Int32), .int (0 : Int32), .ref (ad4 5), .ref (ad13 6), .ref (ad22 7), .ref (ad31 8), .ref (ad41 9), .null, .null]) := (hfr60 4 (by decide)).trans ((hne50 4 (nn_ne rfl)).trans (hw45))
  have ha65 : ad55 4 = ad 4 := (((ha56 4 (nn_lt rfl)).trans (ha52 4 (nn_lt rfl))).trans ha47)
  refine tw_putF (r := 4) F hH kf_RX9_33 kp_X9_7 hin rfl ha65 (by decide) hw61 (Nat.le_of_ble_eq_true rfl) rfl rfl dX9_init_52 (fun H locs w62 hw63 hne64 hH => ?_)
  have hw63 : w62 4 = .inr (9, [.int (0 : Int32), .int (0 : Int32), .ref (ad4 5), .ref (ad13 6), .ref (ad22 7), .ref (ad31 8), .ref (ad41 9), .ref (ad51 10), .null]) := hw63
  refine lv_aload_n hx hb dX9_init_55 rfl (lv_at hl 0 rfl) ?_
  refine tw_new (ci := 7) (T := TX7) F hH rfl iw_X7 tyX7 tyX7_ok (tw_gl kw_54 rfl) (tw_gl kw_55 rfl) (tw_gl kw_4 rfl) kd_X7 (Nat.le_of_ble_eq_true rfl) (Nat.le_of_ble_eq_true rfl) dX9_init_56 (fun H locs ad69 w66 ha70 hw67 hne68 hH => ?_)
  refine lv_dup hx hb dX9_init_59 rfl ?_
  refine lv_bipush (v := 20) hx hb dX9_init_60 (by decide) ?_
  refine lv_iconst (v := 4) hx hb dX9_init_62 (by decide) ?_
  refine tw_calln F hH (tw_runI (r := 12) (As := [.int (20 : Int32), .int (4 : Int32)]) (rest := [.ref (ad69 12), .ref (ad 4)]) F hH (c_X7_init_v2 l G 12 ad69 w66 H.size hw67) (tw_gl kw_56 rfl) km_X7_init (tw_gl kw_57 rfl) rfl rfl rfl ⟨(Nat.le_of_ble_eq_true rfl), (Nat.le_of_ble_eq_true rfl)⟩ rfl hl.1 rfl (Nat.le_of_ble_eq_true rfl) dX9_init_63 ⟨(Nat.le_of_ble_eq_true rfl), (Nat.le_of_ble_eq_true rfl)⟩) (fun ad73 w71 H locs hp72 ha74 _ hH => ?_)
  obtain ⟨-, hw76, hw77, hfr78⟩ := hp72
  have hw79 : w71 4 = .inr (9, [.int (0 : Int32), .int (0 : Int32), .ref (ad4 5), .ref (ad13 6), .ref (ad22 7), .ref (ad31 8), .ref (ad41 9), .ref (ad51 10), .null]) := (hfr78 4 (by decide)).trans ((hne68 4 (nn_ne rfl)).trans (hw63))
  have ha83 : ad73 4 = ad 4 := (((ha74 4 (nn_lt rfl)).trans (ha70 4 (nn_lt rfl))).trans ha65)
  refine tw_putF (r := 4) F hH kf_RX9_37 kp_X9_8 hin rfl ha83 (by decide) hw79 (Nat.le_of_ble_eq_true rfl) rfl rfl dX9_init_66 (fun H locs w80 hw81 hne82 hH => ?_)
  have hw81 : w80 4 = .inr (9, [.int (0 : Int32), .int (0 : Int32), .ref (ad4 5), .ref (ad13 6), .ref (ad22 7), .ref (ad31 8), .ref (ad41 9), .ref (ad51 10), .ref (ad69 12)]) := hw81
  refine lv_iconst (v := 0) hx hb dX9_init_69 (by decide) ?_
  refine lv_istore_n (lv' := [(1, .int (0 : Int32)), (0, .ref (ad 4))]) hx hb dX9_init_70 rfl hl (by decide) rfl (fun ls hl => ?_)
  refine lv_iload_n hx hb dX9_init_71 rfl (lv_at hl 0 rfl) ?_
  refine lv_iconst (v := 4) hx hb dX9_init_72 (by decide) ?_
  refine lv_icmp_ge (tgt := 112) hx hb dX9_init_73 (by decide) (fun c => absurd c (by decide)) (fun _ => ?_)
  refine lv_iconst (v := 0) hx hb dX9_init_76 (by decide) ?_
  refine lv_istore_n (lv' := [(2, .int (0 : Int32)), (1, .int (0 : Int32)), (0, .ref (ad 4))]) hx hb dX9_init_77 rfl hl (by decide) rfl (fun ls hl => ?_)
  refine lv_iload_n hx hb dX9_init_78 rfl (lv_at hl 0 rfl) ?_
  refine lv_bipush (v := 6) hx hb dX9_init_79 (by decide) ?_
  refine lv_icmp_ge (tgt := 106) hx hb dX9_init_81 (by decide) (fun c => absurd c (by decide)) (fun _ => ?_)
  refine lv_aload_n hx hb dX9_init_84 rfl (lv_at hl 2 rfl) ?_
  refine tw_get (r := 4) F hH kf_RX9_22 ha83 (by decide) hw81 rfl dX9_init_85 ?_
  refine lv_iload_n hx hb dX9_init_88 rfl (lv_at hl 1 rfl) ?_
  refine lv_bipush (v := 6) hx hb dX9_init_89 (by decide) ?_
  refine lv_imul hx hb dX9_init_91 ?_
  refine tw_cv (v := (0 : Int32)) (by decide) ?_
  refine lv_iload_n hx hb dX9_init_92 rfl (lv_at hl 0 rfl) ?_
  refine lv_iadd hx hb dX9_init_93 ?_
  refine tw_cv (v := (0 : Int32)) (by decide) ?_
  refine tw_getsN (k := 3) F hH (by decide) (by decide) dX9_init_94 ?_
  refine lv_iload_n hx hb dX9_init_97 rfl (lv_at hl 0 rfl) ?_
  refine tw_tald (k := 3) (j := 0) (v := (0 : Int32)) F hH (by decide) (by decide) (by decide) (by decide) dX9_init_98 ?_
  have hw86 : w80 8 = .inl (G.2.1 0, 24, .inl (fun _ => 0)) := (hne82 8 (nn_ne rfl)).trans ((hfr78 8 (by decide)).trans ((hne68 8 (nn_ne rfl)).trans ((hne64 8 (nn_ne rfl)).trans ((hfr60 8 (by decide)).trans ((hne50 8 (nn_ne rfl)).trans ((hne46 8 (nn_ne rfl)).trans ((hne40 8 (nn_ne rfl)).trans ((hne36 8 (nn_ne rfl)).trans (hw29)))))))))
  have ha90 : ad73 8 = ad31 8 := (((((ha74 8 (nn_lt rfl)).trans (ha70 8 (nn_lt rfl))).trans (ha56 8 (nn_lt rfl))).trans (ha52 8 (nn_lt rfl))).trans (ha42 8 (nn_lt rfl)))
  refine tw_iast (r := 8) (j := 0) F hH ha90 (by decide) hw86 (by decide) (by decide) dX9_init_99 (fun H locs w87 hw88 hne89 hH => ?_)
  refine lv_iinc (v := (1 : Int32)) (lv' := [(2, .int (1 : Int32)), (1, .int (0 : Int32)), (0, .ref (ad 4))]) hx hb dX9_init_100 hl (k := 0) rfl (by decide) (by decide) rfl (fun ls hl => ?_)
  refine lv_goto (tgt := 78) hx hb dX9_init_103 (by decide) ?_
  refine lv_iload_n hx hb dX9_init_78 rfl (lv_at hl 0 rfl) ?_
  refine lv_bipush (v := 6) hx hb dX9_init_79 (by decide) ?_
  refine lv_icmp_ge (tgt := 106) hx hb dX9_init_81 (by decide) (fun c => absurd c (by decide)) (fun _ => ?_)
  refine lv_aload_n hx hb dX9_init_84 rfl (lv_at hl 2 rfl) ?_
  have hw92 : w87 4 = .inr (9, [.int (0 : Int32), .int (0 : Int32), .ref (ad4 5), .ref (ad13 6), .ref (ad22 7), .ref (ad31 8), .ref (ad41 9), .ref (ad51 10), .ref (ad69 12)]) := (hne89 4 (nn_ne rfl)).trans (hw81)
  refine tw_get (r := 4) F hH kf_RX9_22 ha83 (by decide) hw92 rfl dX9_init_85 ?_
  refine lv_iload_n hx hb dX9_init_88 rfl (lv_at hl 1 rfl) ?_
  refine lv_bipush (v := 6) hx hb dX9_init_89 (by decide) ?_
  refine lv_imul hx hb dX9_init_91 ?_
  refine tw_cv (v := (0 : Int32)) (by decide) ?_
  refine lv_iload_n hx hb dX9_init_92 rfl (lv_at hl 0 rfl) ?_
  refine lv_iadd hx hb dX9_init_93 ?_
  refine tw_cv (v := (1 : Int32)) (by decide) ?_
  refine tw_getsN (k := 3) F hH (by decide) (by decide) dX9_init_94 ?_
  refine lv_iload_n hx hb dX9_init_97 rfl (lv_at hl 0 rfl) ?_
  refine tw_tald (k := 3) (j := 1) (v := (10 : Int32)) F hH (by decide) (by decide) (by decide) (by decide) dX9_init_98 ?_
  refine tw_iast (r := 8) (j := 1) F hH ha90 (by decide) hw88 (by decide) (by decide) dX9_init_99 (fun H locs w93 hw94 hne95 hH => ?_)
  refine lv_iinc (v := (2 : Int32)) (lv' := [(2, .int (2 : Int32)), (1, .int (0 : Int32)), (0, .ref (ad 4))]) hx hb dX9_init_100 hl (k := 0) rfl (by decide) (by decide) rfl (fun ls hl => ?_)
  refine lv_goto (tgt := 78) hx hb dX9_init_103 (by decide) ?_
  refine lv_iload_n hx hb dX9_init_78 rfl (lv_at hl 0 rfl) ?_
  refine lv_bipush (v := 6) hx hb dX9_init_79 (by decide) ?_
  refine lv_icmp_ge (tgt := 106) hx hb dX9_init_81 (by decide) (fun c => absurd c (by decide)) (fun _ => ?_)
  refine lv_aload_n hx hb dX9_init_84 rfl (lv_at hl 2 rfl) ?_
  have hw97 : w93 4 = .inr (9, [.int (0 : Int32), .int (0 : Int32), .ref (ad4 5), .ref (ad13 6), .ref (ad22 7), .ref (ad31 8), .ref (ad41 9), .ref (ad51 10), .ref (ad69 12)]) := (hne95 4 (nn_ne rfl)).trans (hw92)
  refine tw_get (r := 4) F hH kf_RX9_22 ha83 (by decide) hw97 rfl dX9_init_85 ?_
  refine lv_iload_n hx hb dX9_init_88 rfl (lv_at hl 1 rfl) ?_
  refine lv_bipush (v := 6) hx hb dX9_init_89 (by decide) ?_
  refine lv_imul hx hb dX9_init_91 ?_
  refine tw_cv (v := (0 : Int32)) (by decide) ?_
  refine lv_iload_n hx hb dX9_init_92 rfl (lv_at hl 0 rfl) ?_
  refine lv_iadd hx hb dX9_init_93 ?_
  refine tw_cv (v := (2 : Int32)) (by decide) ?_
  refine tw_getsN (k := 3) F hH (by decide) (by decide) dX9_init_94 ?_
  refine lv_iload_n hx hb dX9_init_97 rfl (lv_at hl 0 rfl) ?_
  refine tw_tald (k := 3) (j := 2) (v := (40 : Int32)) F hH (by decide) (by decide) (by decide) (by decide) dX9_init_98 ?_
  refine tw_iast (r := 8) (j := 2) F hH ha90 (by decide) hw94 (by decide) (by decide) dX9_init_99 (fun H locs w98 hw99 hne100 hH => ?_)
  refine lv_iinc (v := (3 : Int32)) (lv' := [(2, .int (3 : Int32)), (1, .int (0 : Int32)), (0, .ref (ad 4))]) hx hb dX9_init_100 hl (k := 0) rfl (by decide) (by decide) rfl (fun ls hl => ?_)
  refine lv_goto (tgt := 78) hx hb dX9_init_103 (by decide) ?_
  refine lv_iload_n hx hb dX9_init_78 rfl (lv_at hl 0 rfl) ?_
  refine lv_bipush (v := 6) hx hb dX9_init_79 (by decide) ?_
  refine lv_icmp_ge (tgt := 106) hx hb dX9_init_81 (by decide) (fun c => absurd c (by decide)) (fun _ => ?_)
  refine lv_aload_n hx hb dX9_init_84 rfl (lv_at hl 2 rfl) ?_
  have hw102 : w98 4 = .inr (9, [.int (0 : Int32), .int (0 : Int32), .ref (ad4 5), .ref (ad13 6), .ref (ad22 7), .ref (ad31 8), .ref (ad41 9), .ref (ad51 10), .ref (ad69 12)]) := (hne100 4 (nn_ne rfl)).trans (hw97)
  refine tw_get (r := 4) F hH kf_RX9_22 ha83 (by decide) hw102 rfl dX9_init_85 ?_
  refine lv_iload_n hx hb dX9_init_88 rfl (lv_at hl 1 rfl) ?_
  refine lv_bipush (v := 6) hx hb dX9_init_89 (by decide) ?_
  refine lv_imul hx hb dX9_init_91 ?_
  refine tw_cv (v := (0 : Int32)) (by decide) ?_
  refine lv_iload_n hx hb dX9_init_92 rfl (lv_at hl 0 rfl) ?_
  refine lv_iadd hx hb dX9_init_93 ?_
  refine tw_cv (v := (3 : Int32)) (by decide) ?_
  refine tw_getsN (k := 3) F hH (by decide) (by decide) dX9_init_94 ?_
  refine lv_iload_n hx hb dX9_init_97 rfl (lv_at hl 0 rfl) ?_
  refine tw_tald (k := 3) (j := 3) (v := (1000 : Int32)) F hH (by decide) (by decide) (by decide) (by decide) dX9_init_98 ?_
  refine tw_iast (r := 8) (j := 3) F hH ha90 (by decide) hw99 (by decide) (by decide) dX9_init_99 (fun H locs w103 hw104 hne105 hH => ?_)
  refine lv_iinc (v := (4 : Int32)) (lv' := [(2, .int (4 : Int32)), (1, .int (0 : Int32)), (0, .ref (ad 4))]) hx hb dX9_init_100 hl (k := 0) rfl (by decide) (by decide) rfl (fun ls hl => ?_)
  refine lv_goto (tgt := 78) hx hb dX9_init_103 (by decide) ?_
  refine lv_iload_n hx hb dX9_init_78 rfl (lv_at hl 0 rfl) ?_
  refine lv_bipush (v := 6) hx hb dX9_init_79 (by decide) ?_
  refine lv_icmp_ge (tgt := 106) hx hb dX9_init_81 (by decide) (fun c => absurd c (by decide)) (fun _ => ?_)
  refine lv_aload_n hx hb dX9_init_84 rfl (lv_at hl 2 rfl) ?_
  have hw107 : w103 4 = .inr (9, [.int (0 : Int32), .int (0 : Int32), .ref (ad4 5), .ref (ad13 6), .ref (ad22 7), .ref (ad31 8), .ref (ad41 9), .ref (ad51 10), .ref (ad69 12)]) := (hne105 4 (nn_ne rfl)).trans (hw102)
  refine tw_get (r := 4) F hH kf_RX9_22 ha83 (by decide) hw107 rfl dX9_init_85 ?_
  refine lv_iload_n hx hb dX9_init_88 rfl (lv_at hl 1 rfl) ?_
  refine lv_bipush (v := 6) hx hb dX9_init_89 (by decide) ?_
  refine lv_imul hx hb dX9_init_91 ?_
  refine tw_cv (v := (0 : Int32)) (by decide) ?_
  refine lv_iload_n hx hb dX9_init_92 rfl (lv_at hl 0 rfl) ?_
  refine lv_iadd hx hb dX9_init_93 ?_
  refine tw_cv (v := (4 : Int32)) (by decide) ?_
  refine tw_getsN (k := 3) F hH (by decide) (by decide) dX9_init_94 ?_
  refine lv_iload_n hx hb dX9_init_97 rfl (lv_at hl 0 rfl) ?_
  refine tw_tald (k := 3) (j := 4) (v := (0 : Int32)) F hH (by decide) (by decide) (by decide) (by decide) dX9_init_98 ?_
  refine tw_iast (r := 8) (j := 4) F hH ha90 (by decide) hw104 (by decide) (by decide) dX9_init_99 (fun H locs w108 hw109 hne110 hH => ?_)
  refine lv_iinc (v := (5 : Int32)) (lv' := [(2, .int (5 : Int32)), (1, .int (0 : Int32)), (0, .ref (ad 4))]) hx hb dX9_init_100 hl (k := 0) rfl (by decide) (by decide) rfl (fun ls hl => ?_)
  refine lv_goto (tgt := 78) hx hb dX9_init_103 (by decide) ?_
  refine lv_iload_n hx hb dX9_init_78 rfl (lv_at hl 0 rfl) ?_
  refine lv_bipush (v := 6) hx hb dX9_init_79 (by decide) ?_
  refine lv_icmp_ge (tgt := 106) hx hb dX9_init_81 (by decide) (fun c => absurd c (by decide)) (fun _ => ?_)
  refine lv_aload_n hx hb dX9_init_84 rfl (lv_at hl 2 rfl) ?_
  have hw112 : w108 4 = .inr (9, [.int (0 : Int32), .int (0 : Int32), .ref (ad4 5), .ref (ad13 6), .ref (ad22 7), .ref (ad31 8), .ref (ad41 9), .ref (ad51 10), .ref (ad69 12)]) := (hne110 4 (nn_ne rfl)).trans (hw107)
  refine tw_get (r := 4) F hH kf_RX9_22 ha83 (by decide) hw112 rfl dX9_init_85 ?_
  refine lv_iload_n hx hb dX9_init_88 rfl (lv_at hl 1 rfl) ?_
  refine lv_bipush (v := 6) hx hb dX9_init_89 (by decide) ?_
  refine lv_imul hx hb dX9_init_91 ?_
  refine tw_cv (v := (0 : Int32)) (by decide) ?_
  refine lv_iload_n hx hb dX9_init_92 rfl (lv_at hl 0 rfl) ?_
  refine lv_iadd hx hb dX9_init_93 ?_
  refine tw_cv (v := (5 : Int32)) (by decide) ?_
  refine tw_getsN (k := 3) F hH (by decide) (by decide) dX9_init_94 ?_
  refine lv_iload_n hx hb dX9_init_97 rfl (lv_at hl 0 rfl) ?_
  refine tw_tald (k := 3) (j := 5) (v := (5 : Int32)) F hH (by decide) (by decide) (by decide) (by decide) dX9_init_98 ?_
  refine tw_iast (r := 8) (j := 5) F hH ha90 (by decide) hw109 (by decide) (by decide) dX9_init_99 (fun H locs w113 hw114 hne115 hH => ?_)
  refine lv_iinc (v := (6 : Int32)) (lv' := [(2, .int (6 : Int32)), (1, .int (0 : Int32)), (0, .ref (ad 4))]) hx hb dX9_init_100 hl (k := 0) rfl (by decide) (by decide) rfl (fun ls hl => ?_)
  refine lv_goto (tgt := 78) hx hb dX9_init_103 (by decide) ?_
  refine lv_iload_n hx hb dX9_init_78 rfl (lv_at hl 0 rfl) ?_
  refine lv_bipush (v := 6) hx hb dX9_init_79 (by decide) ?_
  refine lv_icmp_ge (tgt := 106) hx hb dX9_init_81 (by decide) (fun _ => ?_) (fun c => absurd c (by decide))
  refine lv_iinc (v := (1 : Int32)) (lv' := [(1, .int (1 : Int32)), (2, .int (6 : Int32)), (0, .ref (ad 4))]) hx hb dX9_init_106 hl (k := 1) rfl (by decide) (by decide) rfl (fun ls hl => ?_)
  refine lv_goto (tgt := 71) hx hb dX9_init_109 (by decide) ?_
  refine lv_iload_n hx hb dX9_init_71 rfl (lv_at hl 0 rfl) ?_
  refine lv_iconst (v := 4) hx hb dX9_init_72 (by decide) ?_
  refine lv_icmp_ge (tgt := 112) hx hb dX9_init_73 (by decide) (fun c => absurd c (by decide)) (fun _ => ?_)
  refine lv_iconst (v := 0) hx hb dX9_init_76 (by decide) ?_
  refine lv_istore_n (lv' := [(2, .int (0 : Int32)), (1, .int (1 : Int32)), (0, .ref (ad 4))]) hx hb dX9_init_77 rfl hl (by decide) rfl (fun ls hl => ?_)
  refine lv_iload_n hx hb dX9_init_78 rfl (lv_at hl 0 rfl) ?_
  refine lv_bipush (v := 6) hx hb dX9_init_79 (by decide) ?_
  refine lv_icmp_ge (tgt := 106) hx hb dX9_init_81 (by decide) (fun c => absurd c (by decide)) (fun _ => ?_)
  refine lv_aload_n hx hb dX9_init_84 rfl (lv_at hl 2 rfl) ?_
  have hw119 : w113 4 = .inr (9, [.int (0 : Int32), .int (0 : Int32), .ref (ad4 5), .ref (ad13 6), .ref (ad22 7), .ref (ad31 8), .ref (ad41 9), .ref (ad51 10), .ref (ad69 12)]) := (hne115 4 (nn_ne rfl)).trans (hw112)
  refine tw_get (r := 4) F hH kf_RX9_22 ha83 (by decide) hw119 rfl dX9_init_85 ?_
  refine lv_iload_n hx hb dX9_init_88 rfl (lv_at hl 1 rfl) ?_
  refine lv_bipush (v := 6) hx hb dX9_init_89 (by decide) ?_
  refine lv_imul hx hb dX9_init_91 ?_
  refine tw_cv (v := (6 : Int32)) (by decide) ?_
  refine lv_iload_n hx hb dX9_init_92 rfl (lv_at hl 0 rfl) ?_
  refine lv_iadd hx hb dX9_init_93 ?_
  refine tw_cv (v := (6 : Int32)) (by decide) ?_
  refine tw_getsN (k := 3) F hH (by decide) (by decide) dX9_init_94 ?_
  refine lv_iload_n hx hb dX9_init_97 rfl (lv_at hl 0 rfl) ?_
  refine tw_tald (k := 3) (j := 0) (v := (0 : Int32)) F hH (by decide) (by decide) (by decide) (by decide) dX9_init_98 ?_
  refine tw_iast (r := 8) (j := 6) F hH ha90 (by decide) hw114 (by decide) (by decide) dX9_init_99 (fun H locs w120 hw121 hne122 hH => ?_)
  refine lv_iinc (v := (1 : Int32)) (lv' := [(2, .int (1 : Int32)), (1, .int (1 : Int32)), (0, .ref (ad 4))]) hx hb dX9_init_100 hl (k := 0) rfl (by decide) (by decide) rfl (fun ls hl => ?_)
  refine lv_goto (tgt := 78) hx hb dX9_init_103 (by decide) ?_
  refine lv_iload_n hx hb dX9_init_78 rfl (lv_at hl 0 rfl) ?_
  refine lv_bipush (v := 6) hx hb dX9_init_79 (by decide) ?_
  refine lv_icmp_ge (tgt := 106) hx hb dX9_init_81 (by decide) (fun c => absurd c (by decide)) (fun _ => ?_)
  refine lv_aload_n hx hb dX9_init_84 rfl (lv_at hl 2 rfl) ?_
  have hw124 : w120 4 = .inr (9, [.int (0 : Int32), .int (0 : Int32), .ref (ad4 5), .ref (ad13 6), .ref (ad22 7), .ref (ad31 8), .ref (ad41 9), .ref (ad51 10), .ref (ad69 12)]) := (hne122 4 (nn_ne rfl)).trans (hw119)
  refine tw_get (r := 4) F hH kf_RX9_22 ha83 (by decide) hw124 rfl dX9_init_85 ?_
  refine lv_iload_n hx hb dX9_init_88 rfl (lv_at hl 1 rfl) ?_
  refine lv_bipush (v := 6) hx hb dX9_init_89 (by decide) ?_
  refine lv_imul hx hb dX9_init_91 ?_
  refine tw_cv (v := (6 : Int32)) (by decide) ?_
  refine lv_iload_n hx hb dX9_init_92 rfl (lv_at hl 0 rfl) ?_
  refine lv_iadd hx hb dX9_init_93 ?_
  refine tw_cv (v := (7 : Int32)) (by decide) ?_
  refine tw_getsN (k := 3) F hH (by decide) (by decide) dX9_init_94 ?_
  refine lv_iload_n hx hb dX9_init_97 rfl (lv_at hl 0 rfl) ?_
  refine tw_tald (k := 3) (j := 1) (v := (10 : Int32)) F hH (by decide) (by decide) (by decide) (by decide) dX9_init_98 ?_
  refine tw_iast (r := 8) (j := 7) F hH ha90 (by decide) hw121 (by decide) (by decide) dX9_init_99 (fun H locs w125 hw126 hne127 hH => ?_)
  refine lv_iinc (v := (2 : Int32)) (lv' := [(2, .int (2 : Int32)), (1, .int (1 : Int32)), (0, .ref (ad 4))]) hx hb dX9_init_100 hl (k := 0) rfl (by decide) (by decide) rfl (fun ls hl => ?_)
  refine lv_goto (tgt := 78) hx hb dX9_init_103 (by decide) ?_
  refine lv_iload_n hx hb dX9_init_78 rfl (lv_at hl 0 rfl) ?_
  refine lv_bipush (v := 6) hx hb dX9_init_79 (by decide) ?_
  refine lv_icmp_ge (tgt := 106) hx hb dX9_init_81 (by decide) (fun c => absurd c (by decide)) (fun _ => ?_)
  refine lv_aload_n hx hb dX9_init_84 rfl (lv_at hl 2 rfl) ?_
  have hw129 : w125 4 = .inr (9, [.int (0 : Int32), .int (0 : Int32), .ref (ad4 5), .ref (ad13 6), .ref (ad22 7), .ref (ad31 8), .ref (ad41 9), .ref (ad51 10), .ref (ad69 12)]) := (hne127 4 (nn_ne rfl)).trans (hw124)
  refine tw_get (r := 4) F hH kf_RX9_22 ha83 (by decide) hw129 rfl dX9_init_85 ?_
  refine lv_iload_n hx hb dX9_init_88 rfl (lv_at hl 1 rfl) ?_
  refine lv_bipush (v := 6) hx hb dX9_init_89 (by decide) ?_
  refine lv_imul hx hb dX9_init_91 ?_
  refine tw_cv (v := (6 : Int32)) (by decide) ?_
  refine lv_iload_n hx hb dX9_init_92 rfl (lv_at hl 0 rfl) ?_
  refine lv_iadd hx hb dX9_init_93 ?_
  refine tw_cv (v := (8 : Int32)) (by decide) ?_
  refine tw_getsN (k := 3) F hH (by decide) (by decide) dX9_init_94 ?_
  refine lv_iload_n hx hb dX9_init_97 rfl (lv_at hl 0 rfl) ?_
  refine tw_tald (k := 3) (j := 2) (v := (40 : Int32)) F hH (by decide) (by decide) (by decide) (by decide) dX9_init_98 ?_
  refine tw_iast (r := 8) (j := 8) F hH ha90 (by decide) hw126 (by decide) (by decide) dX9_init_99 (fun H locs w130 hw131 hne132 hH => ?_)
  refine lv_iinc (v := (3 : Int32)) (lv' := [(2, .int (3 : Int32)), (1, .int (1 : Int32)), (0, .ref (ad 4))]) hx hb dX9_init_100 hl (k := 0) rfl (by decide) (by decide) rfl (fun ls hl => ?_)
  refine lv_goto (tgt := 78) hx hb dX9_init_103 (by decide) ?_
  refine lv_iload_n hx hb dX9_init_78 rfl (lv_at hl 0 rfl) ?_
  refine lv_bipush (v := 6) hx hb dX9_init_79 (by decide) ?_
  refine lv_icmp_ge (tgt := 106) hx hb dX9_init_81 (by decide) (fun c => absurd c (by decide)) (fun _ => ?_)
  refine lv_aload_n hx hb dX9_init_84 rfl (lv_at hl 2 rfl) ?_
  have hw134 : w130 4 = .inr (9, [.int (0 : Int32), .int (0 : Int32), .ref (ad4 5), .ref (ad13 6), .ref (ad22 7), .ref (ad31 8), .ref (ad41 9), .ref (ad51 10), .ref (ad69 12)]) := (hne132 4 (nn_ne rfl)).trans (hw129)
  refine tw_get (r := 4) F hH kf_RX9_22 ha83 (by decide) hw134 rfl dX9_init_85 ?_
  refine lv_iload_n hx hb dX9_init_88 rfl (lv_at hl 1 rfl) ?_
  refine lv_bipush (v := 6) hx hb dX9_init_89 (by decide) ?_
  refine lv_imul hx hb dX9_init_91 ?_
  refine tw_cv (v := (6 : Int32)) (by decide) ?_
  refine lv_iload_n hx hb dX9_init_92 rfl (lv_at hl 0 rfl) ?_
  refine lv_iadd hx hb dX9_init_93 ?_
  refine tw_cv (v := (9 : Int32)) (by decide) ?_
  refine tw_getsN (k := 3) F hH (by decide) (by decide) dX9_init_94 ?_
  refine lv_iload_n hx hb dX9_init_97 rfl (lv_at hl 0 rfl) ?_
  refine tw_tald (k := 3) (j := 3) (v := (1000 : Int32)) F hH (by decide) (by decide) (by decide) (by decide) dX9_init_98 ?_
  refine tw_iast (r := 8) (j := 9) F hH ha90 (by decide) hw131 (by decide) (by decide) dX9_init_99 (fun H locs w135 hw136 hne137 hH => ?_)
  refine lv_iinc (v := (4 : Int32)) (lv' := [(2, .int (4 : Int32)), (1, .int (1 : Int32)), (0, .ref (ad 4))]) hx hb dX9_init_100 hl (k := 0) rfl (by decide) (by decide) rfl (fun ls hl => ?_)
  refine lv_goto (tgt := 78) hx hb dX9_init_103 (by decide) ?_
  refine lv_iload_n hx hb dX9_init_78 rfl (lv_at hl 0 rfl) ?_
  refine lv_bipush (v := 6) hx hb dX9_init_79 (by decide) ?_
  refine lv_icmp_ge (tgt := 106) hx hb dX9_init_81 (by decide) (fun c => absurd c (by decide)) (fun _ => ?_)
  refine lv_aload_n hx hb dX9_init_84 rfl (lv_at hl 2 rfl) ?_
  have hw139 : w135 4 = .inr (9, [.int (0 : Int32), .int (0 : Int32), .ref (ad4 5), .ref (ad13 6), .ref (ad22 7), .ref (ad31 8), .ref (ad41 9), .ref (ad51 10), .ref (ad69 12)]) := (hne137 4 (nn_ne rfl)).trans (hw134)
  refine tw_get (r := 4) F hH kf_RX9_22 ha83 (by decide) hw139 rfl dX9_init_85 ?_
  refine lv_iload_n hx hb dX9_init_88 rfl (lv_at hl 1 rfl) ?_
  refine lv_bipush (v := 6) hx hb dX9_init_89 (by decide) ?_
  refine lv_imul hx hb dX9_init_91 ?_
  refine tw_cv (v := (6 : Int32)) (by decide) ?_
  refine lv_iload_n hx hb dX9_init_92 rfl (lv_at hl 0 rfl) ?_
  refine lv_iadd hx hb dX9_init_93 ?_
  refine tw_cv (v := (10 : Int32)) (by decide) ?_
  refine tw_getsN (k := 3) F hH (by decide) (by decide) dX9_init_94 ?_
  refine lv_iload_n hx hb dX9_init_97 rfl (lv_at hl 0 rfl) ?_
  refine tw_tald (k := 3) (j := 4) (v := (0 : Int32)) F hH (by decide) (by decide) (by decide) (by decide) dX9_init_98 ?_
  refine tw_iast (r := 8) (j := 10) F hH ha90 (by decide) hw136 (by decide) (by decide) dX9_init_99 (fun H locs w140 hw141 hne142 hH => ?_)
  refine lv_iinc (v := (5 : Int32)) (lv' := [(2, .int (5 : Int32)), (1, .int (1 : Int32)), (0, .ref (ad 4))]) hx hb dX9_init_100 hl (k := 0) rfl (by decide) (by decide) rfl (fun ls hl => ?_)
  refine lv_goto (tgt := 78) hx hb dX9_init_103 (by decide) ?_
  refine lv_iload_n hx hb dX9_init_78 rfl (lv_at hl 0 rfl) ?_
  refine lv_bipush (v := 6) hx hb dX9_init_79 (by decide) ?_
  refine lv_icmp_ge (tgt := 106) hx hb dX9_init_81 (by decide) (fun c => absurd c (by decide)) (fun _ => ?_)
  refine lv_aload_n hx hb dX9_init_84 rfl (lv_at hl 2 rfl) ?_
  have hw144 : w140 4 = .inr (9, [.int (0 : Int32), .int (0 : Int32), .ref (ad4 5), .ref (ad13 6), .ref (ad22 7), .ref (ad31 8), .ref (ad41 9), .ref (ad51 10), .ref (ad69 12)]) := (hne142 4 (nn_ne rfl)).trans (hw139)
  refine tw_get (r := 4) F hH kf_RX9_22 ha83 (by decide) hw144 rfl dX9_init_85 ?_
  refine lv_iload_n hx hb dX9_init_88 rfl (lv_at hl 1 rfl) ?_
  refine lv_bipush (v := 6) hx hb dX9_init_89 (by decide) ?_
  refine lv_imul hx hb dX9_init_91 ?_
  refine tw_cv (v := (6 : Int32)) (by decide) ?_
  refine lv_iload_n hx hb dX9_init_92 rfl (lv_at hl 0 rfl) ?_
  refine lv_iadd hx hb dX9_init_93 ?_
  refine tw_cv (v := (11 : Int32)) (by decide) ?_
  refine tw_getsN (k := 3) F hH (by decide) (by decide) dX9_init_94 ?_
  refine lv_iload_n hx hb dX9_init_97 rfl (lv_at hl 0 rfl) ?_
  refine tw_tald (k := 3) (j := 5) (v := (5 : Int32)) F hH (by decide) (by decide) (by decide) (by decide) dX9_init_98 ?_
  refine tw_iast (r := 8) (j := 11) F hH ha90 (by decide) hw141 (by decide) (by decide) dX9_init_99 (fun H locs w145 hw146 hne147 hH => ?_)
  refine lv_iinc (v := (6 : Int32)) (lv' := [(2, .int (6 : Int32)), (1, .int (1 : Int32)), (0, .ref (ad 4))]) hx hb dX9_init_100 hl (k := 0) rfl (by decide) (by decide) rfl (fun ls hl => ?_)
  refine lv_goto (tgt := 78) hx hb dX9_init_103 (by decide) ?_
  refine lv_iload_n hx hb dX9_init_78 rfl (lv_at hl 0 rfl) ?_
  refine lv_bipush (v := 6) hx hb dX9_init_79 (by decide) ?_
  refine lv_icmp_ge (tgt := 106) hx hb dX9_init_81 (by decide) (fun _ => ?_) (fun c => absurd c (by decide))
  refine lv_iinc (v := (2 : Int32)) (lv' := [(1, .int (2 : Int32)), (2, .int (6 : Int32)), (0, .ref (ad 4))]) hx hb dX9_init_106 hl (k := 1) rfl (by decide) (by decide) rfl (fun ls hl => ?_)
  refine lv_goto (tgt := 71) hx hb dX9_init_109 (by decide) ?_
  refine lv_iload_n hx hb dX9_init_71 rfl (lv_at hl 0 rfl) ?_
  refine lv_iconst (v := 4) hx hb dX9_init_72 (by decide) ?_
  refine lv_icmp_ge (tgt := 112) hx hb dX9_init_73 (by decide) (fun c => absurd c (by decide)) (fun _ => ?_)
  refine lv_iconst (v := 0) hx hb dX9_init_76 (by decide) ?_
  refine lv_istore_n (lv' := [(2, .int (0 : Int32)), (1, .int (2 : Int32)), (0, .ref (ad 4))]) hx hb dX9_init_77 rfl hl (by decide) rfl (fun ls hl => ?_)
  refine lv_iload_n hx hb dX9_init_78 rfl (lv_at hl 0 rfl) ?_
  refine lv_bipush (v := 6) hx hb dX9_init_79 (by decide) ?_
  refine lv_icmp_ge (tgt := 106) hx hb dX9_init_81 (by decide) (fun c => absurd c (by decide)) (fun _ => ?_)
  refine lv_aload_n hx hb dX9_init_84 rfl (lv_at hl 2 rfl) ?_
  have hw151 : w145 4 = .inr (9, [.int (0 : Int32), .int (0 : Int32), .ref (ad4 5), .ref (ad13 6), .ref (ad22 7), .ref (ad31 8), .ref (ad41 9), .ref (ad51 10), .ref (ad69 12)]) := (hne147 4 (nn_ne rfl)).trans (hw144)
  refine tw_get (r := 4) F hH kf_RX9_22 ha83 (by decide) hw151 rfl dX9_init_85 ?_
  refine lv_iload_n hx hb dX9_init_88 rfl (lv_at hl 1 rfl) ?_
  refine lv_bipush (v := 6) hx hb dX9_init_89 (by decide) ?_
  refine lv_imul hx hb dX9_init_91 ?_
  refine tw_cv (v := (12 : Int32)) (by decide) ?_
  refine lv_iload_n hx hb dX9_init_92 rfl (lv_at hl 0 rfl) ?_
  refine lv_iadd hx hb dX9_init_93 ?_
  refine tw_cv (v := (12 : Int32)) (by decide) ?_
  refine tw_getsN (k := 3) F hH (by decide) (by decide) dX9_init_94 ?_
  refine lv_iload_n hx hb dX9_init_97 rfl (lv_at hl 0 rfl) ?_
  refine tw_tald (k := 3) (j := 0) (v := (0 : Int32)) F hH (by decide) (by decide) (by decide) (by decide) dX9_init_98 ?_
  refine tw_iast (r := 8) (j := 12) F hH ha90 (by decide) hw146 (by decide) (by decide) dX9_init_99 (fun H locs w152 hw153 hne154 hH => ?_)
  refine lv_iinc (v := (1 : Int32)) (lv' := [(2, .int (1 : Int32)), (1, .int (2 : Int32)), (0, .ref (ad 4))]) hx hb dX9_init_100 hl (k := 0) rfl (by decide) (by decide) rfl (fun ls hl => ?_)
  refine lv_goto (tgt := 78) hx hb dX9_init_103 (by decide) ?_
  refine lv_iload_n hx hb dX9_init_78 rfl (lv_at hl 0 rfl) ?_
  refine lv_bipush (v := 6) hx hb dX9_init_79 (by decide) ?_
  refine lv_icmp_ge (tgt := 106) hx hb dX9_init_81 (by decide) (fun c => absurd c (by decide)) (fun _ => ?_)
  refine lv_aload_n hx hb dX9_init_84 rfl (lv_at hl 2 rfl) ?_
  have hw156 : w152 4 = .inr (9, [.int (0 : Int32), .int (0 : Int32), .ref (ad4 5), .ref (ad13 6), .ref (ad22 7), .ref (ad31 8), .ref (ad41 9), .ref (ad51 10), .ref (ad69 12)]) := (hne154 4 (nn_ne rfl)).trans (hw151)
  refine tw_get (r := 4) F hH kf_RX9_22 ha83 (by decide) hw156 rfl dX9_init_85 ?_
  refine lv_iload_n hx hb dX9_init_88 rfl (lv_at hl 1 rfl) ?_
  refine lv_bipush (v := 6) hx hb dX9_init_89 (by decide) ?_
  refine lv_imul hx hb dX9_init_91 ?_
  refine tw_cv (v := (12 : Int32)) (by decide) ?_
  refine lv_iload_n hx hb dX9_init_92 rfl (lv_at hl 0 rfl) ?_
  refine lv_iadd hx hb dX9_init_93 ?_
  refine tw_cv (v := (13 : Int32)) (by decide) ?_
  refine tw_getsN (k := 3) F hH (by decide) (by decide) dX9_init_94 ?_
  refine lv_iload_n hx hb dX9_init_97 rfl (lv_at hl 0 rfl) ?_
  refine tw_tald (k := 3) (j := 1) (v := (10 : Int32)) F hH (by decide) (by decide) (by decide) (by decide) dX9_init_98 ?_
  refine tw_iast (r := 8) (j := 13) F hH ha90 (by decide) hw153 (by decide) (by decide) dX9_init_99 (fun H locs w157 hw158 hne159 hH => ?_)
  refine lv_iinc (v := (2 : Int32)) (lv' := [(2, .int (2 : Int32)), (1, .int (2 : Int32)), (0, .ref (ad 4))]) hx hb dX9_init_100 hl (k := 0) rfl (by decide) (by decide) rfl (fun ls hl => ?_)
  refine lv_goto (tgt := 78) hx hb dX9_init_103 (by decide) ?_
  refine lv_iload_n hx hb dX9_init_78 rfl (lv_at hl 0 rfl) ?_
  refine lv_bipush (v := 6) hx hb dX9_init_79 (by decide) ?_
  refine lv_icmp_ge (tgt := 106) hx hb dX9_init_81 (by decide) (fun c => absurd c (by decide)) (fun _ => ?_)
  refine lv_aload_n hx hb dX9_init_84 rfl (lv_at hl 2 rfl) ?_
  have hw161 : w157 4 = .inr (9, [.int (0 : Int32), .int (0 : Int32), .ref (ad4 5), .ref (ad13 6), .ref (ad22 7), .ref (ad31 8), .ref (ad41 9), .ref (ad51 10), .ref (ad69 12)]) := (hne159 4 (nn_ne rfl)).trans (hw156)
  refine tw_get (r := 4) F hH kf_RX9_22 ha83 (by decide) hw161 rfl dX9_init_85 ?_
  refine lv_iload_n hx hb dX9_init_88 rfl (lv_at hl 1 rfl) ?_
  refine lv_bipush (v := 6) hx hb dX9_init_89 (by decide) ?_
  refine lv_imul hx hb dX9_init_91 ?_
  refine tw_cv (v := (12 : Int32)) (by decide) ?_
  refine lv_iload_n hx hb dX9_init_92 rfl (lv_at hl 0 rfl) ?_
  refine lv_iadd hx hb dX9_init_93 ?_
  refine tw_cv (v := (14 : Int32)) (by decide) ?_
  refine tw_getsN (k := 3) F hH (by decide) (by decide) dX9_init_94 ?_
  refine lv_iload_n hx hb dX9_init_97 rfl (lv_at hl 0 rfl) ?_
  refine tw_tald (k := 3) (j := 2) (v := (40 : Int32)) F hH (by decide) (by decide) (by decide) (by decide) dX9_init_98 ?_
  refine tw_iast (r := 8) (j := 14) F hH ha90 (by decide) hw158 (by decide) (by decide) dX9_init_99 (fun H locs w162 hw163 hne164 hH => ?_)
  refine lv_iinc (v := (3 : Int32)) (lv' := [(2, .int (3 : Int32)), (1, .int (2 : Int32)), (0, .ref (ad 4))]) hx hb dX9_init_100 hl (k := 0) rfl (by decide) (by decide) rfl (fun ls hl => ?_)
  refine lv_goto (tgt := 78) hx hb dX9_init_103 (by decide) ?_
  refine lv_iload_n hx hb dX9_init_78 rfl (lv_at hl 0 rfl) ?_
  refine lv_bipush (v := 6) hx hb dX9_init_79 (by decide) ?_
  refine lv_icmp_ge (tgt := 106) hx hb dX9_init_81 (by decide) (fun c => absurd c (by decide)) (fun _ => ?_)
  refine lv_aload_n hx hb dX9_init_84 rfl (lv_at hl 2 rfl) ?_
  have hw166 : w162 4 = .inr (9, [.int (0 : Int32), .int (0 : Int32), .ref (ad4 5), .ref (ad13 6), .ref (ad22 7), .ref (ad31 8), .ref (ad41 9), .ref (ad51 10), .ref (ad69 12)]) := (hne164 4 (nn_ne rfl)).trans (hw161)
  refine tw_get (r := 4) F hH kf_RX9_22 ha83 (by decide) hw166 rfl dX9_init_85 ?_
  refine lv_iload_n hx hb dX9_init_88 rfl (lv_at hl 1 rfl) ?_
  refine lv_bipush (v := 6) hx hb dX9_init_89 (by decide) ?_
  refine lv_imul hx hb dX9_init_91 ?_
  refine tw_cv (v := (12 : Int32)) (by decide) ?_
  refine lv_iload_n hx hb dX9_init_92 rfl (lv_at hl 0 rfl) ?_
  refine lv_iadd hx hb dX9_init_93 ?_
  refine tw_cv (v := (15 : Int32)) (by decide) ?_
  refine tw_getsN (k := 3) F hH (by decide) (by decide) dX9_init_94 ?_
  refine lv_iload_n hx hb dX9_init_97 rfl (lv_at hl 0 rfl) ?_
  refine tw_tald (k := 3) (j := 3) (v := (1000 : Int32)) F hH (by decide) (by decide) (by decide) (by decide) dX9_init_98 ?_
  refine tw_iast (r := 8) (j := 15) F hH ha90 (by decide) hw163 (by decide) (by decide) dX9_init_99 (fun H locs w167 hw168 hne169 hH => ?_)
  refine lv_iinc (v := (4 : Int32)) (lv' := [(2, .int (4 : Int32)), (1, .int (2 : Int32)), (0, .ref (ad 4))]) hx hb dX9_init_100 hl (k := 0) rfl (by decide) (by decide) rfl (fun ls hl => ?_)
  refine lv_goto (tgt := 78) hx hb dX9_init_103 (by decide) ?_
  refine lv_iload_n hx hb dX9_init_78 rfl (lv_at hl 0 rfl) ?_
  refine lv_bipush (v := 6) hx hb dX9_init_79 (by decide) ?_
  refine lv_icmp_ge (tgt := 106) hx hb dX9_init_81 (by decide) (fun c => absurd c (by decide)) (fun _ => ?_)
  refine lv_aload_n hx hb dX9_init_84 rfl (lv_at hl 2 rfl) ?_
  have hw171 : w167 4 = .inr (9, [.int (0 : Int32), .int (0 : Int32), .ref (ad4 5), .ref (ad13 6), .ref (ad22 7), .ref (ad31 8), .ref (ad41 9), .ref (ad51 10), .ref (ad69 12)]) := (hne169 4 (nn_ne rfl)).trans (hw166)
  refine tw_get (r := 4) F hH kf_RX9_22 ha83 (by decide) hw171 rfl dX9_init_85 ?_
  refine lv_iload_n hx hb dX9_init_88 rfl (lv_at hl 1 rfl) ?_
  refine lv_bipush (v := 6) hx hb dX9_init_89 (by decide) ?_
  refine lv_imul hx hb dX9_init_91 ?_
  refine tw_cv (v := (12 : Int32)) (by decide) ?_
  refine lv_iload_n hx hb dX9_init_92 rfl (lv_at hl 0 rfl) ?_
  refine lv_iadd hx hb dX9_init_93 ?_
  refine tw_cv (v := (16 : Int32)) (by decide) ?_
  refine tw_getsN (k := 3) F hH (by decide) (by decide) dX9_init_94 ?_
  refine lv_iload_n hx hb dX9_init_97 rfl (lv_at hl 0 rfl) ?_
  refine tw_tald (k := 3) (j := 4) (v := (0 : Int32)) F hH (by decide) (by decide) (by decide) (by decide) dX9_init_98 ?_
  refine tw_iast (r := 8) (j := 16) F hH ha90 (by decide) hw168 (by decide) (by decide) dX9_init_99 (fun H locs w172 hw173 hne174 hH => ?_)
  refine lv_iinc (v := (5 : Int32)) (lv' := [(2, .int (5 : Int32)), (1, .int (2 : Int32)), (0, .ref (ad 4))]) hx hb dX9_init_100 hl (k := 0) rfl (by decide) (by decide) rfl (fun ls hl => ?_)
  refine lv_goto (tgt := 78) hx hb dX9_init_103 (by decide) ?_
  refine lv_iload_n hx hb dX9_init_78 rfl (lv_at hl 0 rfl) ?_
  refine lv_bipush (v := 6) hx hb dX9_init_79 (by decide) ?_
  refine lv_icmp_ge (tgt := 106) hx hb dX9_init_81 (by decide) (fun c => absurd c (by decide)) (fun _ => ?_)
  refine lv_aload_n hx hb dX9_init_84 rfl (lv_at hl 2 rfl) ?_
  have hw176 : w172 4 = .inr (9, [.int (0 : Int32), .int (0 : Int32), .ref (ad4 5), .ref (ad13 6), .ref (ad22 7), .ref (ad31 8), .ref (ad41 9), .ref (ad51 10), .ref (ad69 12)]) := (hne174 4 (nn_ne rfl)).trans (hw171)
  refine tw_get (r := 4) F hH kf_RX9_22 ha83 (by decide) hw176 rfl dX9_init_85 ?_
  refine lv_iload_n hx hb dX9_init_88 rfl (lv_at hl 1 rfl) ?_
  refine lv_bipush (v := 6) hx hb dX9_init_89 (by decide) ?_
  refine lv_imul hx hb dX9_init_91 ?_
  refine tw_cv (v := (12 : Int32)) (by decide) ?_
  refine lv_iload_n hx hb dX9_init_92 rfl (lv_at hl 0 rfl) ?_
  refine lv_iadd hx hb dX9_init_93 ?_
  refine tw_cv (v := (17 : Int32)) (by decide) ?_
  refine tw_getsN (k := 3) F hH (by decide) (by decide) dX9_init_94 ?_
  refine lv_iload_n hx hb dX9_init_97 rfl (lv_at hl 0 rfl) ?_
  refine tw_tald (k := 3) (j := 5) (v := (5 : Int32)) F hH (by decide) (by decide) (by decide) (by decide) dX9_init_98 ?_
  refine tw_iast (r := 8) (j := 17) F hH ha90 (by decide) hw173 (by decide) (by decide) dX9_init_99 (fun H locs w177 hw178 hne179 hH => ?_)
  refine lv_iinc (v := (6 : Int32)) (lv' := [(2, .int (6 : Int32)), (1, .int (2 : Int32)), (0, .ref (ad 4))]) hx hb dX9_init_100 hl (k := 0) rfl (by decide) (by decide) rfl (fun ls hl => ?_)
  refine lv_goto (tgt := 78) hx hb dX9_init_103 (by decide) ?_
  refine lv_iload_n hx hb dX9_init_78 rfl (lv_at hl 0 rfl) ?_
  refine lv_bipush (v := 6) hx hb dX9_init_79 (by decide) ?_
  refine lv_icmp_ge (tgt := 106) hx hb dX9_init_81 (by decide) (fun _ => ?_) (fun c => absurd c (by decide))
  refine lv_iinc (v := (3 : Int32)) (lv' := [(1, .int (3 : Int32)), (2, .int (6 : Int32)), (0, .ref (ad 4))]) hx hb dX9_init_106 hl (k := 1) rfl (by decide) (by decide) rfl (fun ls hl => ?_)
  refine lv_goto (tgt := 71) hx hb dX9_init_109 (by decide) ?_
  refine lv_iload_n hx hb dX9_init_71 rfl (lv_at hl 0 rfl) ?_
  refine lv_iconst (v := 4) hx hb dX9_init_72 (by decide) ?_
  refine lv_icmp_ge (tgt := 112) hx hb dX9_init_73 (by decide) (fun c => absurd c (by decide)) (fun _ => ?_)
  refine lv_iconst (v := 0) hx hb dX9_init_76 (by decide) ?_
  refine lv_istore_n (lv' := [(2, .int (0 : Int32)), (1, .int (3 : Int32)), (0, .ref (ad 4))]) hx hb dX9_init_77 rfl hl (by decide) rfl (fun ls hl => ?_)
  refine lv_iload_n hx hb dX9_init_78 rfl (lv_at hl 0 rfl) ?_
  refine lv_bipush (v := 6) hx hb dX9_init_79 (by decide) ?_
  refine lv_icmp_ge (tgt := 106) hx hb dX9_init_81 (by decide) (fun c => absurd c (by decide)) (fun _ => ?_)
  refine lv_aload_n hx hb dX9_init_84 rfl (lv_at hl 2 rfl) ?_
  have hw183 : w177 4 = .inr (9, [.int (0 : Int32), .int (0 : Int32), .ref (ad4 5), .ref (ad13 6), .ref (ad22 7), .ref (ad31 8), .ref (ad41 9), .ref (ad51 10), .ref (ad69 12)]) := (hne179 4 (nn_ne rfl)).trans (hw176)
  refine tw_get (r := 4) F hH kf_RX9_22 ha83 (by decide) hw183 rfl dX9_init_85 ?_
  refine lv_iload_n hx hb dX9_init_88 rfl (lv_at hl 1 rfl) ?_
  refine lv_bipush (v := 6) hx hb dX9_init_89 (by decide) ?_
  refine lv_imul hx hb dX9_init_91 ?_
  refine tw_cv (v := (18 : Int32)) (by decide) ?_
  refine lv_iload_n hx hb dX9_init_92 rfl (lv_at hl 0 rfl) ?_
  refine lv_iadd hx hb dX9_init_93 ?_
  refine tw_cv (v := (18 : Int32)) (by decide) ?_
  refine tw_getsN (k := 3) F hH (by decide) (by decide) dX9_init_94 ?_
  refine lv_iload_n hx hb dX9_init_97 rfl (lv_at hl 0 rfl) ?_
  refine tw_tald (k := 3) (j := 0) (v := (0 : Int32)) F hH (by decide) (by decide) (by decide) (by decide) dX9_init_98 ?_
  refine tw_iast (r := 8) (j := 18) F hH ha90 (by decide) hw178 (by decide) (by decide) dX9_init_99 (fun H locs w184 hw185 hne186 hH => ?_)
  refine lv_iinc (v := (1 : Int32)) (lv' := [(2, .int (1 : Int32)), (1, .int (3 : Int32)), (0, .ref (ad 4))]) hx hb dX9_init_100 hl (k := 0) rfl (by decide) (by decide) rfl (fun ls hl => ?_)
  refine lv_goto (tgt := 78) hx hb dX9_init_103 (by decide) ?_
  refine lv_iload_n hx hb dX9_init_78 rfl (lv_at hl 0 rfl) ?_
  refine lv_bipush (v := 6) hx hb dX9_init_79 (by decide) ?_
  refine lv_icmp_ge (tgt := 106) hx hb dX9_init_81 (by decide) (fun c => absurd c (by decide)) (fun _ => ?_)
  refine lv_aload_n hx hb dX9_init_84 rfl (lv_at hl 2 rfl) ?_
  have hw188 : w184 4 = .inr (9, [.int (0 : Int32), .int (0 : Int32), .ref (ad4 5), .ref (ad13 6), .ref (ad22 7), .ref (ad31 8), .ref (ad41 9), .ref (ad51 10), .ref (ad69 12)]) := (hne186 4 (nn_ne rfl)).trans (hw183)
  refine tw_get (r := 4) F hH kf_RX9_22 ha83 (by decide) hw188 rfl dX9_init_85 ?_
  refine lv_iload_n hx hb dX9_init_88 rfl (lv_at hl 1 rfl) ?_
  refine lv_bipush (v := 6) hx hb dX9_init_89 (by decide) ?_
  refine lv_imul hx hb dX9_init_91 ?_
  refine tw_cv (v := (18 : Int32)) (by decide) ?_
  refine lv_iload_n hx hb dX9_init_92 rfl (lv_at hl 0 rfl) ?_
  refine lv_iadd hx hb dX9_init_93 ?_
  refine tw_cv (v := (19 : Int32)) (by decide) ?_
  refine tw_getsN (k := 3) F hH (by decide) (by decide) dX9_init_94 ?_
  refine lv_iload_n hx hb dX9_init_97 rfl (lv_at hl 0 rfl) ?_
  refine tw_tald (k := 3) (j := 1) (v := (10 : Int32)) F hH (by decide) (by decide) (by decide) (by decide) dX9_init_98 ?_
  refine tw_iast (r := 8) (j := 19) F hH ha90 (by decide) hw185 (by decide) (by decide) dX9_init_99 (fun H locs w189 hw190 hne191 hH => ?_)
  refine lv_iinc (v := (2 : Int32)) (lv' := [(2, .int (2 : Int32)), (1, .int (3 : Int32)), (0, .ref (ad 4))]) hx hb dX9_init_100 hl (k := 0) rfl (by decide) (by decide) rfl (fun ls hl => ?_)
  refine lv_goto (tgt := 78) hx hb dX9_init_103 (by decide) ?_
  refine lv_iload_n hx hb dX9_init_78 rfl (lv_at hl 0 rfl) ?_
  refine lv_bipush (v := 6) hx hb dX9_init_79 (by decide) ?_
  refine lv_icmp_ge (tgt := 106) hx hb dX9_init_81 (by decide) (fun c => absurd c (by decide)) (fun _ => ?_)
  refine lv_aload_n hx hb dX9_init_84 rfl (lv_at hl 2 rfl) ?_
  have hw193 : w189 4 = .inr (9, [.int (0 : Int32), .int (0 : Int32), .ref (ad4 5), .ref (ad13 6), .ref (ad22 7), .ref (ad31 8), .ref (ad41 9), .ref (ad51 10), .ref (ad69 12)]) := (hne191 4 (nn_ne rfl)).trans (hw188)
  refine tw_get (r := 4) F hH kf_RX9_22 ha83 (by decide) hw193 rfl dX9_init_85 ?_
  refine lv_iload_n hx hb dX9_init_88 rfl (lv_at hl 1 rfl) ?_
  refine lv_bipush (v := 6) hx hb dX9_init_89 (by decide) ?_
  refine lv_imul hx hb dX9_init_91 ?_
  refine tw_cv (v := (18 : Int32)) (by decide) ?_
  refine lv_iload_n hx hb dX9_init_92 rfl (lv_at hl 0 rfl) ?_
  refine lv_iadd hx hb dX9_init_93 ?_
  refine tw_cv (v := (20 : Int32)) (by decide) ?_
  refine tw_getsN (k := 3) F hH (by decide) (by decide) dX9_init_94 ?_
  refine lv_iload_n hx hb dX9_init_97 rfl (lv_at hl 0 rfl) ?_
  refine tw_tald (k := 3) (j := 2) (v := (40 : Int32)) F hH (by decide) (by decide) (by decide) (by decide) dX9_init_98 ?_
  refine tw_iast (r := 8) (j := 20) F hH ha90 (by decide) hw190 (by decide) (by decide) dX9_init_99 (fun H locs w194 hw195 hne196 hH => ?_)
  refine lv_iinc (v := (3 : Int32)) (lv' := [(2, .int (3 : Int32)), (1, .int (3 : Int32)), (0, .ref (ad 4))]) hx hb dX9_init_100 hl (k := 0) rfl (by decide) (by decide) rfl (fun ls hl => ?_)
  refine lv_goto (tgt := 78) hx hb dX9_init_103 (by decide) ?_
  refine lv_iload_n hx hb dX9_init_78 rfl (lv_at hl 0 rfl) ?_
  refine lv_bipush (v := 6) hx hb dX9_init_79 (by decide) ?_
  refine lv_icmp_ge (tgt := 106) hx hb dX9_init_81 (by decide) (fun c => absurd c (by decide)) (fun _ => ?_)
  refine lv_aload_n hx hb dX9_init_84 rfl (lv_at hl 2 rfl) ?_
  have hw198 : w194 4 = .inr (9, [.int (0 : Int32), .int (0 : Int32), .ref (ad4 5), .ref (ad13 6), .ref (ad22 7), .ref (ad31 8), .ref (ad41 9), .ref (ad51 10), .ref (ad69 12)]) := (hne196 4 (nn_ne rfl)).trans (hw193)
  refine tw_get (r := 4) F hH kf_RX9_22 ha83 (by decide) hw198 rfl dX9_init_85 ?_
  refine lv_iload_n hx hb dX9_init_88 rfl (lv_at hl 1 rfl) ?_
  refine lv_bipush (v := 6) hx hb dX9_init_89 (by decide) ?_
  refine lv_imul hx hb dX9_init_91 ?_
  refine tw_cv (v := (18 : Int32)) (by decide) ?_
  refine lv_iload_n hx hb dX9_init_92 rfl (lv_at hl 0 rfl) ?_
  refine lv_iadd hx hb dX9_init_93 ?_
  refine tw_cv (v := (21 : Int32)) (by decide) ?_
  refine tw_getsN (k := 3) F hH (by decide) (by decide) dX9_init_94 ?_
  refine lv_iload_n hx hb dX9_init_97 rfl (lv_at hl 0 rfl) ?_
  refine tw_tald (k := 3) (j := 3) (v := (1000 : Int32)) F hH (by decide) (by decide) (by decide) (by decide) dX9_init_98 ?_
  refine tw_iast (r := 8) (j := 21) F hH ha90 (by decide) hw195 (by decide) (by decide) dX9_init_99 (fun H locs w199 hw200 hne201 hH => ?_)
  refine lv_iinc (v := (4 : Int32)) (lv' := [(2, .int (4 : Int32)), (1, .int (3 : Int32)), (0, .ref (ad 4))]) hx hb dX9_init_100 hl (k := 0) rfl (by decide) (by decide) rfl (fun ls hl => ?_)
  refine lv_goto (tgt := 78) hx hb dX9_init_103 (by decide) ?_
  refine lv_iload_n hx hb dX9_init_78 rfl (lv_at hl 0 rfl) ?_
  refine lv_bipush (v := 6) hx hb dX9_init_79 (by decide) ?_
  refine lv_icmp_ge (tgt := 106) hx hb dX9_init_81 (by decide) (fun c => absurd c (by decide)) (fun _ => ?_)
  refine lv_aload_n hx hb dX9_init_84 rfl (lv_at hl 2 rfl) ?_
  have hw203 : w199 4 = .inr (9, [.int (0 : Int32), .int (0 : Int32), .ref (ad4 5), .ref (ad13 6), .ref (ad22 7), .ref (ad31 8), .ref (ad41 9), .ref (ad51 10), .ref (ad69 12)]) := (hne201 4 (nn_ne rfl)).trans (hw198)
  refine tw_get (r := 4) F hH kf_RX9_22 ha83 (by decide) hw203 rfl dX9_init_85 ?_
  refine lv_iload_n hx hb dX9_init_88 rfl (lv_at hl 1 rfl) ?_
  refine lv_bipush (v := 6) hx hb dX9_init_89 (by decide) ?_
  refine lv_imul hx hb dX9_init_91 ?_
  refine tw_cv (v := (18 : Int32)) (by decide) ?_
  refine lv_iload_n hx hb dX9_init_92 rfl (lv_at hl 0 rfl) ?_
  refine lv_iadd hx hb dX9_init_93 ?_
  refine tw_cv (v := (22 : Int32)) (by decide) ?_
  refine tw_getsN (k := 3) F hH (by decide) (by decide) dX9_init_94 ?_
  refine lv_iload_n hx hb dX9_init_97 rfl (lv_at hl 0 rfl) ?_
  refine tw_tald (k := 3) (j := 4) (v := (0 : Int32)) F hH (by decide) (by decide) (by decide) (by decide) dX9_init_98 ?_
  refine tw_iast (r := 8) (j := 22) F hH ha90 (by decide) hw200 (by decide) (by decide) dX9_init_99 (fun H locs w204 hw205 hne206 hH => ?_)
  refine lv_iinc (v := (5 : Int32)) (lv' := [(2, .int (5 : Int32)), (1, .int (3 : Int32)), (0, .ref (ad 4))]) hx hb dX9_init_100 hl (k := 0) rfl (by decide) (by decide) rfl (fun ls hl => ?_)
  refine lv_goto (tgt := 78) hx hb dX9_init_103 (by decide) ?_
  refine lv_iload_n hx hb dX9_init_78 rfl (lv_at hl 0 rfl) ?_
  refine lv_bipush (v := 6) hx hb dX9_init_79 (by decide) ?_
  refine lv_icmp_ge (tgt := 106) hx hb dX9_init_81 (by decide) (fun c => absurd c (by decide)) (fun _ => ?_)
  refine lv_aload_n hx hb dX9_init_84 rfl (lv_at hl 2 rfl) ?_
  have hw208 : w204 4 = .inr (9, [.int (0 : Int32), .int (0 : Int32), .ref (ad4 5), .ref (ad13 6), .ref (ad22 7), .ref (ad31 8), .ref (ad41 9), .ref (ad51 10), .ref (ad69 12)]) := (hne206 4 (nn_ne rfl)).trans (hw203)
  refine tw_get (r := 4) F hH kf_RX9_22 ha83 (by decide) hw208 rfl dX9_init_85 ?_
  refine lv_iload_n hx hb dX9_init_88 rfl (lv_at hl 1 rfl) ?_
  refine lv_bipush (v := 6) hx hb dX9_init_89 (by decide) ?_
  refine lv_imul hx hb dX9_init_91 ?_
  refine tw_cv (v := (18 : Int32)) (by decide) ?_
  refine lv_iload_n hx hb dX9_init_92 rfl (lv_at hl 0 rfl) ?_
  refine lv_iadd hx hb dX9_init_93 ?_
  refine tw_cv (v := (23 : Int32)) (by decide) ?_
  refine tw_getsN (k := 3) F hH (by decide) (by decide) dX9_init_94 ?_
  refine lv_iload_n hx hb dX9_init_97 rfl (lv_at hl 0 rfl) ?_
  refine tw_tald (k := 3) (j := 5) (v := (5 : Int32)) F hH (by decide) (by decide) (by decide) (by decide) dX9_init_98 ?_
  refine tw_iast (r := 8) (j := 23) F hH ha90 (by decide) hw205 (by decide) (by decide) dX9_init_99 (fun H locs w209 hw210 hne211 hH => ?_)
  refine lv_iinc (v := (6 : Int32)) (lv' := [(2, .int (6 : Int32)), (1, .int (3 : Int32)), (0, .ref (ad 4))]) hx hb dX9_init_100 hl (k := 0) rfl (by decide) (by decide) rfl (fun ls hl => ?_)
  refine lv_goto (tgt := 78) hx hb dX9_init_103 (by decide) ?_
  refine lv_iload_n hx hb dX9_init_78 rfl (lv_at hl 0 rfl) ?_
  refine lv_bipush (v := 6) hx hb dX9_init_79 (by decide) ?_
  refine lv_icmp_ge (tgt := 106) hx hb dX9_init_81 (by decide) (fun _ => ?_) (fun c => absurd c (by decide))
  refine lv_iinc (v := (4 : Int32)) (lv' := [(1, .int (4 : Int32)), (2, .int (6 : Int32)), (0, .ref (ad 4))]) hx hb dX9_init_106 hl (k := 1) rfl (by decide) (by decide) rfl (fun ls hl => ?_)
  refine lv_goto (tgt := 71) hx hb dX9_init_109 (by decide) ?_
  refine lv_iload_n hx hb dX9_init_71 rfl (lv_at hl 0 rfl) ?_
  refine lv_iconst (v := 4) hx hb dX9_init_72 (by decide) ?_
  refine lv_icmp_ge (tgt := 112) hx hb dX9_init_73 (by decide) (fun _ => ?_) (fun c => absurd c (by decide))
  refine lv_iconst (v := 0) hx hb dX9_init_112 (by decide) ?_
  refine lv_istore_n (lv' := [(1, .int (0 : Int32)), (2, .int (6 : Int32)), (0, .ref (ad 4))]) hx hb dX9_init_113 rfl hl (by decide) rfl (fun ls hl => ?_)
  refine lv_iload_n hx hb dX9_init_114 rfl (lv_at hl 0 rfl) ?_
  refine lv_bipush (v := 8) hx hb dX9_init_115 (by decide) ?_
  refine lv_icmp_ge (tgt := 137) hx hb dX9_init_117 (by decide) (fun c => absurd c (by decide)) (fun _ => ?_)
  refine lv_aload_n hx hb dX9_init_120 rfl (lv_at hl 2 rfl) ?_
  have hw215 : w209 4 = .inr (9, [.int (0 : Int32), .int (0 : Int32), .ref (ad4 5), .ref (ad13 6), .ref (ad22 7), .ref (ad31 8), .ref (ad41 9), .ref (ad51 10), .ref (ad69 12)]) := (hne211 4 (nn_ne rfl)).trans (hw208)
  refine tw_get (r := 4) F hH kf_RX9_25 ha83 (by decide) hw215 rfl dX9_init_121 ?_
  refine lv_iload_n hx hb dX9_init_124 rfl (lv_at hl 0 rfl) ?_
  refine tw_getsN (k := 0) F hH (by decide) (by decide) dX9_init_125 ?_
  refine lv_iload_n hx hb dX9_init_128 rfl (lv_at hl 0 rfl) ?_
  refine tw_tald (k := 0) (j := 0) (v := (500 : Int32)) F hH (by decide) (by decide) (by decide) (by decide) dX9_init_129 ?_
  have hw216 : w209 9 = .inl (G.2.1 0, 8, .inl (fun _ => 0)) := (hne211 9 (nn_ne rfl)).trans ((hne206 9 (nn_ne rfl)).trans ((hne201 9 (nn_ne rfl)).trans ((hne196 9 (nn_ne rfl)).trans ((hne191 9 (nn_ne rfl)).trans ((hne186 9 (nn_ne rfl)).trans ((hne179 9 (nn_ne rfl)).trans ((hne174 9 (nn_ne rfl)).trans ((hne169 9 (nn_ne rfl)).trans ((hne164 9 (nn_ne rfl)).trans ((hne159 9 (nn_ne rfl)).trans ((hne154 9 (nn_ne rfl)).trans ((hne147 9 (nn_ne rfl)).trans ((hne142 9 (nn_ne rfl)).trans ((hne137 9 (nn_ne rfl)).trans ((hne132 9 (nn_ne rfl)).trans ((hne127 9 (nn_ne rfl)).trans ((hne122 9 (nn_ne rfl)).trans ((hne115 9 (nn_ne rfl)).trans ((hne110 9 (nn_ne rfl)).trans ((hne105 9 (nn_ne rfl)).trans ((hne100 9 (nn_ne rfl)).trans ((hne95 9 (nn_ne rfl)).trans ((hne89 9 (nn_ne rfl)).trans ((hne82 9 (nn_ne rfl)).trans ((hfr78 9 (by decide)).trans ((hne68 9 (nn_ne rfl)).trans ((hne64 9 (nn_ne rfl)).trans ((hfr60 9 (by decide)).trans ((hne50 9 (nn_ne rfl)).trans ((hne46 9 (nn_ne rfl)).trans (hw39)))))))))))))))))))))))))))))))
  have ha220 : ad73 9 = ad41 9 := ((((ha74 9 (nn_lt rfl)).trans (ha70 9 (nn_lt rfl))).trans (ha56 9 (nn_lt rfl))).trans (ha52 9 (nn_lt rfl)))
  refine tw_iast (r := 9) (j := 0) F hH ha220 (by decide) hw216 (by decide) (by decide) dX9_init_130 (fun H locs w217 hw218 hne219 hH => ?_)
  refine lv_iinc (v := (1 : Int32)) (lv' := [(1, .int (1 : Int32)), (2, .int (6 : Int32)), (0, .ref (ad 4))]) hx hb dX9_init_131 hl (k := 0) rfl (by decide) (by decide) rfl (fun ls hl => ?_)
  refine lv_goto (tgt := 114) hx hb dX9_init_134 (by decide) ?_
  refine lv_iload_n hx hb dX9_init_114 rfl (lv_at hl 0 rfl) ?_
  refine lv_bipush (v := 8) hx hb dX9_init_115 (by decide) ?_
  refine lv_icmp_ge (tgt := 137) hx hb dX9_init_117 (by decide) (fun c => absurd c (by decide)) (fun _ => ?_)
  refine lv_aload_n hx hb dX9_init_120 rfl (lv_at hl 2 rfl) ?_
  have hw222 : w217 4 = .inr (9, [.int (0 : Int32), .int (0 : Int32), .ref (ad4 5), .ref (ad13 6), .ref (ad22 7), .ref (ad31 8), .ref (ad41 9), .ref (ad51 10), .ref (ad69 12)]) := (hne219 4 (nn_ne rfl)).trans (hw215)
  refine tw_get (r := 4) F hH kf_RX9_25 ha83 (by decide) hw222 rfl dX9_init_121 ?_
  refine lv_iload_n hx hb dX9_init_124 rfl (lv_at hl 0 rfl) ?_
  refine tw_getsN (k := 0) F hH (by decide) (by decide) dX9_init_125 ?_
  refine lv_iload_n hx hb dX9_init_128 rfl (lv_at hl 0 rfl) ?_
  refine tw_tald (k := 0) (j := 1) (v := (5 : Int32)) F hH (by decide) (by decide) (by decide) (by decide) dX9_init_129 ?_
  refine tw_iast (r := 9) (j := 1) F hH ha220 (by decide) hw218 (by decide) (by decide) dX9_init_130 (fun H locs w223 hw224 hne225 hH => ?_)
  refine lv_iinc (v := (2 : Int32)) (lv' := [(1, .int (2 : Int32)), (2, .int (6 : Int32)), (0, .ref (ad 4))]) hx hb dX9_init_131 hl (k := 0) rfl (by decide) (by decide) rfl (fun ls hl => ?_)
  refine lv_goto (tgt := 114) hx hb dX9_init_134 (by decide) ?_
  refine lv_iload_n hx hb dX9_init_114 rfl (lv_at hl 0 rfl) ?_
  refine lv_bipush (v := 8) hx hb dX9_init_115 (by decide) ?_
  refine lv_icmp_ge (tgt := 137) hx hb dX9_init_117 (by decide) (fun c => absurd c (by decide)) (fun _ => ?_)
  refine lv_aload_n hx hb dX9_init_120 rfl (lv_at hl 2 rfl) ?_
  have hw227 : w223 4 = .inr (9, [.int (0 : Int32), .int (0 : Int32), .ref (ad4 5), .ref (ad13 6), .ref (ad22 7), .ref (ad31 8), .ref (ad41 9), .ref (ad51 10), .ref (ad69 12)]) := (hne225 4 (nn_ne rfl)).trans (hw222)
  refine tw_get (r := 4) F hH kf_RX9_25 ha83 (by decide) hw227 rfl dX9_init_121 ?_
  refine lv_iload_n hx hb dX9_init_124 rfl (lv_at hl 0 rfl) ?_
  refine tw_getsN (k := 0) F hH (by decide) (by decide) dX9_init_125 ?_
  refine lv_iload_n hx hb dX9_init_128 rfl (lv_at hl 0 rfl) ?_
  refine tw_tald (k := 0) (j := 2) (v := (200 : Int32)) F hH (by decide) (by decide) (by decide) (by decide) dX9_init_129 ?_
  refine tw_iast (r := 9) (j := 2) F hH ha220 (by decide) hw224 (by decide) (by decide) dX9_init_130 (fun H locs w228 hw229 hne230 hH => ?_)
  refine lv_iinc (v := (3 : Int32)) (lv' := [(1, .int (3 : Int32)), (2, .int (6 : Int32)), (0, .ref (ad 4))]) hx hb dX9_init_131 hl (k := 0) rfl (by decide) (by decide) rfl (fun ls hl => ?_)
  refine lv_goto (tgt := 114) hx hb dX9_init_134 (by decide) ?_
  refine lv_iload_n hx hb dX9_init_114 rfl (lv_at hl 0 rfl) ?_
  refine lv_bipush (v := 8) hx hb dX9_init_115 (by decide) ?_
  refine lv_icmp_ge (tgt := 137) hx hb dX9_init_117 (by decide) (fun c => absurd c (by decide)) (fun _ => ?_)
  refine lv_aload_n hx hb dX9_init_120 rfl (lv_at hl 2 rfl) ?_
  have hw232 : w228 4 = .inr (9, [.int (0 : Int32), .int (0 : Int32), .ref (ad4 5), .ref (ad13 6), .ref (ad22 7), .ref (ad31 8), .ref (ad41 9), .ref (ad51 10), .ref (ad69 12)]) := (hne230 4 (nn_ne rfl)).trans (hw227)
  refine tw_get (r := 4) F hH kf_RX9_25 ha83 (by decide) hw232 rfl dX9_init_121 ?_
  refine lv_iload_n hx hb dX9_init_124 rfl (lv_at hl 0 rfl) ?_
  refine tw_getsN (k := 0) F hH (by decide) (by decide) dX9_init_125 ?_
  refine lv_iload_n hx hb dX9_init_128 rfl (lv_at hl 0 rfl) ?_
  refine tw_tald (k := 0) (j := 3) (v := (15000 : Int32)) F hH (by decide) (by decide) (by decide) (by decide) dX9_init_129 ?_
  refine tw_iast (r := 9) (j := 3) F hH ha220 (by decide) hw229 (by decide) (by decide) dX9_init_130 (fun H locs w233 hw234 hne235 hH => ?_)
  refine lv_iinc (v := (4 : Int32)) (lv' := [(1, .int (4 : Int32)), (2, .int (6 : Int32)), (0, .ref (ad 4))]) hx hb dX9_init_131 hl (k := 0) rfl (by decide) (by decide) rfl (fun ls hl => ?_)
  refine lv_goto (tgt := 114) hx hb dX9_init_134 (by decide) ?_
  refine lv_iload_n hx hb dX9_init_114 rfl (lv_at hl 0 rfl) ?_
  refine lv_bipush (v := 8) hx hb dX9_init_115 (by decide) ?_
  refine lv_icmp_ge (tgt := 137) hx hb dX9_init_117 (by decide) (fun c => absurd c (by decide)) (fun _ => ?_)
  refine lv_aload_n hx hb dX9_init_120 rfl (lv_at hl 2 rfl) ?_
  have hw237 : w233 4 = .inr (9, [.int (0 : Int32), .int (0 : Int32), .ref (ad4 5), .ref (ad13 6), .ref (ad22 7), .ref (ad31 8), .ref (ad41 9), .ref (ad51 10), .ref (ad69 12)]) := (hne235 4 (nn_ne rfl)).trans (hw232)
  refine tw_get (r := 4) F hH kf_RX9_25 ha83 (by decide) hw237 rfl dX9_init_121 ?_
  refine lv_iload_n hx hb dX9_init_124 rfl (lv_at hl 0 rfl) ?_
  refine tw_getsN (k := 0) F hH (by decide) (by decide) dX9_init_125 ?_
  refine lv_iload_n hx hb dX9_init_128 rfl (lv_at hl 0 rfl) ?_
  refine tw_tald (k := 0) (j := 4) (v := (3000 : Int32)) F hH (by decide) (by decide) (by decide) (by decide) dX9_init_129 ?_
  refine tw_iast (r := 9) (j := 4) F hH ha220 (by decide) hw234 (by decide) (by decide) dX9_init_130 (fun H locs w238 hw239 hne240 hH => ?_)
  refine lv_iinc (v := (5 : Int32)) (lv' := [(1, .int (5 : Int32)), (2, .int (6 : Int32)), (0, .ref (ad 4))]) hx hb dX9_init_131 hl (k := 0) rfl (by decide) (by decide) rfl (fun ls hl => ?_)
  refine lv_goto (tgt := 114) hx hb dX9_init_134 (by decide) ?_
  refine lv_iload_n hx hb dX9_init_114 rfl (lv_at hl 0 rfl) ?_
  refine lv_bipush (v := 8) hx hb dX9_init_115 (by decide) ?_
  refine lv_icmp_ge (tgt := 137) hx hb dX9_init_117 (by decide) (fun c => absurd c (by decide)) (fun _ => ?_)
  refine lv_aload_n hx hb dX9_init_120 rfl (lv_at hl 2 rfl) ?_
  have hw242 : w238 4 = .inr (9, [.int (0 : Int32), .int (0 : Int32), .ref (ad4 5), .ref (ad13 6), .ref (ad22 7), .ref (ad31 8), .ref (ad41 9), .ref (ad51 10), .ref (ad69 12)]) := (hne240 4 (nn_ne rfl)).trans (hw237)
  refine tw_get (r := 4) F hH kf_RX9_25 ha83 (by decide) hw242 rfl dX9_init_121 ?_
  refine lv_iload_n hx hb dX9_init_124 rfl (lv_at hl 0 rfl) ?_
  refine tw_getsN (k := 0) F hH (by decide) (by decide) dX9_init_125 ?_
  refine lv_iload_n hx hb dX9_init_128 rfl (lv_at hl 0 rfl) ?_
  refine tw_tald (k := 0) (j := 5) (v := (50 : Int32)) F hH (by decide) (by decide) (by decide) (by decide) dX9_init_129 ?_
  refine tw_iast (r := 9) (j := 5) F hH ha220 (by decide) hw239 (by decide) (by decide) dX9_init_130 (fun H locs w243 hw244 hne245 hH => ?_)
  refine lv_iinc (v := (6 : Int32)) (lv' := [(1, .int (6 : Int32)), (2, .int (6 : Int32)), (0, .ref (ad 4))]) hx hb dX9_init_131 hl (k := 0) rfl (by decide) (by decide) rfl (fun ls hl => ?_)
  refine lv_goto (tgt := 114) hx hb dX9_init_134 (by decide) ?_
  refine lv_iload_n hx hb dX9_init_114 rfl (lv_at hl 0 rfl) ?_
  refine lv_bipush (v := 8) hx hb dX9_init_115 (by decide) ?_
  refine lv_icmp_ge (tgt := 137) hx hb dX9_init_117 (by decide) (fun c => absurd c (by decide)) (fun _ => ?_)
  refine lv_aload_n hx hb dX9_init_120 rfl (lv_at hl 2 rfl) ?_
  have hw247 : w243 4 = .inr (9, [.int (0 : Int32), .int (0 : Int32), .ref (ad4 5), .ref (ad13 6), .ref (ad22 7), .ref (ad31 8), .ref (ad41 9), .ref (ad51 10), .ref (ad69 12)]) := (hne245 4 (nn_ne rfl)).trans (hw242)
  refine tw_get (r := 4) F hH kf_RX9_25 ha83 (by decide) hw247 rfl dX9_init_121 ?_
  refine lv_iload_n hx hb dX9_init_124 rfl (lv_at hl 0 rfl) ?_
  refine tw_getsN (k := 0) F hH (by decide) (by decide) dX9_init_125 ?_
  refine lv_iload_n hx hb dX9_init_128 rfl (lv_at hl 0 rfl) ?_
  refine tw_tald (k := 0) (j := 6) (v := (300 : Int32)) F hH (by decide) (by decide) (by decide) (by decide) dX9_init_129 ?_
  refine tw_iast (r := 9) (j := 6) F hH ha220 (by decide) hw244 (by decide) (by decide) dX9_init_130 (fun H locs w248 hw249 hne250 hH => ?_)
  refine lv_iinc (v := (7 : Int32)) (lv' := [(1, .int (7 : Int32)), (2, .int (6 : Int32)), (0, .ref (ad 4))]) hx hb dX9_init_131 hl (k := 0) rfl (by decide) (by decide) rfl (fun ls hl => ?_)
  refine lv_goto (tgt := 114) hx hb dX9_init_134 (by decide) ?_
  refine lv_iload_n hx hb dX9_init_114 rfl (lv_at hl 0 rfl) ?_
  refine lv_bipush (v := 8) hx hb dX9_init_115 (by decide) ?_
  refine lv_icmp_ge (tgt := 137) hx hb dX9_init_117 (by decide) (fun c => absurd c (by decide)) (fun _ => ?_)
  refine lv_aload_n hx hb dX9_init_120 rfl (lv_at hl 2 rfl) ?_
  have hw252 : w248 4 = .inr (9, [.int (0 : Int32), .int (0 : Int32), .ref (ad4 5), .ref (ad13 6), .ref (ad22 7), .ref (ad31 8), .ref (ad41 9), .ref (ad51 10), .ref (ad69 12)]) := (hne250 4 (nn_ne rfl)).trans (hw247)
  refine tw_get (r := 4) F hH kf_RX9_25 ha83 (by decide) hw252 rfl dX9_init_121 ?_
  refine lv_iload_n hx hb dX9_init_124 rfl (lv_at hl 0 rfl) ?_
  refine tw_getsN (k := 0) F hH (by decide) (by decide) dX9_init_125 ?_
  refine lv_iload_n hx hb dX9_init_128 rfl (lv_at hl 0 rfl) ?_
  refine tw_tald (k := 0) (j := 7) (v := (0 : Int32)) F hH (by decide) (by decide) (by decide) (by decide) dX9_init_129 ?_
  refine tw_iast (r := 9) (j := 7) F hH ha220 (by decide) hw249 (by decide) (by decide) dX9_init_130 (fun H locs w253 hw254 hne255 hH => ?_)
  refine lv_iinc (v := (8 : Int32)) (lv' := [(1, .int (8 : Int32)), (2, .int (6 : Int32)), (0, .ref (ad 4))]) hx hb dX9_init_131 hl (k := 0) rfl (by decide) (by decide) rfl (fun ls hl => ?_)
  refine lv_goto (tgt := 114) hx hb dX9_init_134 (by decide) ?_
  refine lv_iload_n hx hb dX9_init_114 rfl (lv_at hl 0 rfl) ?_
  refine lv_bipush (v := 8) hx hb dX9_init_115 (by decide) ?_
  refine lv_icmp_ge (tgt := 137) hx hb dX9_init_117 (by decide) (fun _ => ?_) (fun c => absurd c (by decide))
  refine lv_aload_n hx hb dX9_init_137 rfl (lv_at hl 2 rfl) ?_
  refine lv_iconst (v := 2) hx hb dX9_init_138 (by decide) ?_
  refine lv_iconst (v := 1) hx hb dX9_init_139 (by decide) ?_
  rw [show ad 4 = ad73 4 from ha83.symm]
  have hw257 : w253 4 = .inr (9, [.int (0 : Int32), .int (0 : Int32), .ref (ad4 5), .ref (ad13 6), .ref (ad22 7), .ref (ad31 8), .ref (ad41 9), .ref (ad51 10), .ref (ad69 12)]) := (hne255 4 (nn_ne rfl)).trans (hw252)
  have ha258 : ad73 5 = ad4 5 := ((((((((ha74 5 (nn_lt rfl)).trans (ha70 5 (nn_lt rfl))).trans (ha56 5 (nn_lt rfl))).trans (ha52 5 (nn_lt rfl))).trans (ha42 5 (nn_lt rfl))).trans (ha32 5 (nn_lt rfl))).trans (ha23 5 (nn_lt rfl))).trans (ha14 5 (nn_lt rfl)))
  have ha259 : ad73 6 = ad13 6 := (((((((ha74 6 (nn_lt rfl)).trans (ha70 6 (nn_lt rfl))).trans (ha56 6 (nn_lt rfl))).trans (ha52 6 (nn_lt rfl))).trans (ha42 6 (nn_lt rfl))).trans (ha32 6 (nn_lt rfl))).trans (ha23 6 (nn_lt rfl)))
  have ha260 : ad73 7 = ad22 7 := ((((((ha74 7 (nn_lt rfl)).trans (ha70 7 (nn_lt rfl))).trans (ha56 7 (nn_lt rfl))).trans (ha52 7 (nn_lt rfl))).trans (ha42 7 (nn_lt rfl))).trans (ha32 7 (nn_lt rfl)))
  have ha261 : ad73 10 = ad51 10 := (((ha74 10 (nn_lt rfl)).trans (ha70 10 (nn_lt rfl))).trans (ha56 10 (nn_lt rfl)))
  have ha262 : ad73 12 = ad69 12 := (ha74 12 (nn_lt rfl))
  have hw263 : w253 4 = .inr (9, [.int (0 : Int32), .int (0 : Int32), .ref (ad73 5), .ref (ad73 6), .ref (ad73 7), .ref (ad73 8), .ref (ad73 9), .ref (ad73 10), .ref (ad73 12)]) := by rw [hw257]; rw [show ad4 5 = ad73 5 from ha258.symm, show ad13 6 = ad73 6 from ha259.symm, show ad22 7 = ad73 7 from ha260.symm, show ad31 8 = ad73 8 from ha90.symm, show ad41 9 = ad73 9 from ha220.symm, show ad51 10 = ad73 10 from ha261.symm, show ad69 12 = ad73 12 from ha262.symm]
  have hw264 : w253 5 = .inl (G.2.1 0, 5, .inl (fun _ => 0)) := (hne255 5 (nn_ne rfl)).trans ((hne250 5 (nn_ne rfl)).trans ((hne245 5 (nn_ne rfl)).trans ((hne240 5 (nn_ne rfl)).trans ((hne235 5 (nn_ne rfl)).trans ((hne230 5 (nn_ne rfl)).trans ((hne225 5 (nn_ne rfl)).trans ((hne219 5 (nn_ne rfl)).trans ((hne211 5 (nn_ne rfl)).trans ((hne206 5 (nn_ne rfl)).trans ((hne201 5 (nn_ne rfl)).trans ((hne196 5 (nn_ne rfl)).trans ((hne191 5 (nn_ne rfl)).trans ((hne186 5 (nn_ne rfl)).trans ((hne179 5 (nn_ne rfl)).trans ((hne174 5 (nn_ne rfl)).trans ((hne169 5 (nn_ne rfl)).trans ((hne164 5 (nn_ne rfl)).trans ((hne159 5 (nn_ne rfl)).trans ((hne154 5 (nn_ne rfl)).trans ((hne147 5 (nn_ne rfl)).trans ((hne142 5 (nn_ne rfl)).trans ((hne137 5 (nn_ne rfl)).trans ((hne132 5 (nn_ne rfl)).trans ((hne127 5 (nn_ne rfl)).trans ((hne122 5 (nn_ne rfl)).trans ((hne115 5 (nn_ne rfl)).trans ((hne110 5 (nn_ne rfl)).trans ((hne105 5 (nn_ne rfl)).trans ((hne100 5 (nn_ne rfl)).trans ((hne95 5 (nn_ne rfl)).trans ((hne89 5 (nn_ne rfl)).trans ((hne82 5 (nn_ne rfl)).trans ((hfr78 5 (by decide)).trans ((hne68 5 (nn_ne rfl)).trans ((hne64 5 (nn_ne rfl)).trans ((hfr60 5 (by decide)).trans ((hne50 5 (nn_ne rfl)).trans ((hne46 5 (nn_ne rfl)).trans ((hne40 5 (nn_ne rfl)).trans ((hne36 5 (nn_ne rfl)).trans ((hne30 5 (nn_ne rfl)).trans ((hne27 5 (nn_ne rfl)).trans ((hne21 5 (nn_ne rfl)).trans ((hne18 5 (nn_ne rfl)).trans ((hne12 5 (nn_ne rfl)).trans ((hne9 5 (nn_ne rfl)).trans (hw2)))))))))))))))))))))))))))))))))))))))))))))))
  have hw265 : w253 6 = .inl (G.2.1 0, 5, .inl (fun _ => 0)) := (hne255 6 (nn_ne rfl)).trans ((hne250 6 (nn_ne rfl)).trans ((hne245 6 (nn_ne rfl)).trans ((hne240 6 (nn_ne rfl)).trans ((hne235 6 (nn_ne rfl)).trans ((hne230 6 (nn_ne rfl)).trans ((hne225 6 (nn_ne rfl)).trans ((hne219 6 (nn_ne rfl)).trans ((hne211 6 (nn_ne rfl)).trans ((hne206 6 (nn_ne rfl)).trans ((hne201 6 (nn_ne rfl)).trans ((hne196 6 (nn_ne rfl)).trans ((hne191 6 (nn_ne rfl)).trans ((hne186 6 (nn_ne rfl)).trans ((hne179 6 (nn_ne rfl)).trans ((hne174 6 (nn_ne rfl)).trans ((hne169 6 (nn_ne rfl)).trans ((hne164 6 (nn_ne rfl)).trans ((hne159 6 (nn_ne rfl)).trans ((hne154 6 (nn_ne rfl)).trans ((hne147 6 (nn_ne rfl)).trans ((hne142 6 (nn_ne rfl)).trans ((hne137 6 (nn_ne rfl)).trans ((hne132 6 (nn_ne rfl)).trans ((hne127 6 (nn_ne rfl)).trans ((hne122 6 (nn_ne rfl)).trans ((hne115 6 (nn_ne rfl)).trans ((hne110 6 (nn_ne rfl)).trans ((hne105 6 (nn_ne rfl)).trans ((hne100 6 (nn_ne rfl)).trans ((hne95 6 (nn_ne rfl)).trans ((hne89 6 (nn_ne rfl)).trans ((hne82 6 (nn_ne rfl)).trans ((hfr78 6 (by decide)).trans ((hne68 6 (nn_ne rfl)).trans ((hne64 6 (nn_ne rfl)).trans ((hfr60 6 (by decide)).trans ((hne50 6 (nn_ne rfl)).trans ((hne46 6 (nn_ne rfl)).trans ((hne40 6 (nn_ne rfl)).trans ((hne36 6 (nn_ne rfl)).trans ((hne30 6 (nn_ne rfl)).trans ((hne27 6 (nn_ne rfl)).trans ((hne21 6 (nn_ne rfl)).trans ((hne18 6 (nn_ne rfl)).trans (hw11)))))))))))))))))))))))))))))))))))))))))))))
  have hw266 : w253 7 = .inl (G.2.1 1, 5, .inl (fun _ => 0)) := (hne255 7 (nn_ne rfl)).trans ((hne250 7 (nn_ne rfl)).trans ((hne245 7 (nn_ne rfl)).trans ((hne240 7 (nn_ne rfl)).trans ((hne235 7 (nn_ne rfl)).trans ((hne230 7 (nn_ne rfl)).trans ((hne225 7 (nn_ne rfl)).trans ((hne219 7 (nn_ne rfl)).trans ((hne211 7 (nn_ne rfl)).trans ((hne206 7 (nn_ne rfl)).trans ((hne201 7 (nn_ne rfl)).trans ((hne196 7 (nn_ne rfl)).trans ((hne191 7 (nn_ne rfl)).trans ((hne186 7 (nn_ne rfl)).trans ((hne179 7 (nn_ne rfl)).trans ((hne174 7 (nn_ne rfl)).trans ((hne169 7 (nn_ne rfl)).trans ((hne164 7 (nn_ne rfl)).trans ((hne159 7 (nn_ne rfl)).trans ((hne154 7 (nn_ne rfl)).trans ((hne147 7 (nn_ne rfl)).trans ((hne142 7 (nn_ne rfl)).trans ((hne137 7 (nn_ne rfl)).trans ((hne132 7 (nn_ne rfl)).trans ((hne127 7 (nn_ne rfl)).trans ((hne122 7 (nn_ne rfl)).trans ((hne115 7 (nn_ne rfl)).trans ((hne110 7 (nn_ne rfl)).trans ((hne105 7 (nn_ne rfl)).trans ((hne100 7 (nn_ne rfl)).trans ((hne95 7 (nn_ne rfl)).trans ((hne89 7 (nn_ne rfl)).trans ((hne82 7 (nn_ne rfl)).trans ((hfr78 7 (by decide)).trans ((hne68 7 (nn_ne rfl)).trans ((hne64 7 (nn_ne rfl)).trans ((hfr60 7 (by decide)).trans ((hne50 7 (nn_ne rfl)).trans ((hne46 7 (nn_ne rfl)).trans ((hne40 7 (nn_ne rfl)).trans ((hne36 7 (nn_ne rfl)).trans ((hne30 7 (nn_ne rfl)).trans ((hne27 7 (nn_ne rfl)).trans (hw20)))))))))))))))))))))))))))))))))))))))))))
  have hw267 : w253 10 = .inr (7, [.int (30 : Int32), .int (3 : Int32), .ref (ad55 11), .int (0 : Int32)]) := (hne255 10 (nn_ne rfl)).trans ((hne250 10 (nn_ne rfl)).trans ((hne245 10 (nn_ne rfl)).trans ((hne240 10 (nn_ne rfl)).trans ((hne235 10 (nn_ne rfl)).trans ((hne230 10 (nn_ne rfl)).trans ((hne225 10 (nn_ne rfl)).trans ((hne219 10 (nn_ne rfl)).trans ((hne211 10 (nn_ne rfl)).trans ((hne206 10 (nn_ne rfl)).trans ((hne201 10 (nn_ne rfl)).trans ((hne196 10 (nn_ne rfl)).trans ((hne191 10 (nn_ne rfl)).trans ((hne186 10 (nn_ne rfl)).trans ((hne179 10 (nn_ne rfl)).trans ((hne174 10 (nn_ne rfl)).trans ((hne169 10 (nn_ne rfl)).trans ((hne164 10 (nn_ne rfl)).trans ((hne159 10 (nn_ne rfl)).trans ((hne154 10 (nn_ne rfl)).trans ((hne147 10 (nn_ne rfl)).trans ((hne142 10 (nn_ne rfl)).trans ((hne137 10 (nn_ne rfl)).trans ((hne132 10 (nn_ne rfl)).trans ((hne127 10 (nn_ne rfl)).trans ((hne122 10 (nn_ne rfl)).trans ((hne115 10 (nn_ne rfl)).trans ((hne110 10 (nn_ne rfl)).trans ((hne105 10 (nn_ne rfl)).trans ((hne100 10 (nn_ne rfl)).trans ((hne95 10 (nn_ne rfl)).trans ((hne89 10 (nn_ne rfl)).trans ((hne82 10 (nn_ne rfl)).trans ((hfr78 10 (by decide)).trans ((hne68 10 (nn_ne rfl)).trans ((hne64 10 (nn_ne rfl)).trans (hw58))))))))))))))))))))))))))))))))))))
  have ha268 : ad73 11 = ad55 11 := ((ha74 11 (nn_lt rfl)).trans (ha70 11 (nn_lt rfl)))
  have hw269 : w253 10 = .inr (7, [.int (30 : Int32), .int (3 : Int32), .ref (ad73 11), .int (0 : Int32)]) := by rw [hw267]; rw [show ad55 11 = ad73 11 from ha268.symm]
  have hw270 : w253 12 = .inr (7, [.int (20 : Int32), .int (4 : Int32), .ref (ad73 13), .int (0 : Int32)]) := (hne255 12 (nn_ne rfl)).trans ((hne250 12 (nn_ne rfl)).trans ((hne245 12 (nn_ne rfl)).trans ((hne240 12 (nn_ne rfl)).trans ((hne235 12 (nn_ne rfl)).trans ((hne230 12 (nn_ne rfl)).trans ((hne225 12 (nn_ne rfl)).trans ((hne219 12 (nn_ne rfl)).trans ((hne211 12 (nn_ne rfl)).trans ((hne206 12 (nn_ne rfl)).trans ((hne201 12 (nn_ne rfl)).trans ((hne196 12 (nn_ne rfl)).trans ((hne191 12 (nn_ne rfl)).trans ((hne186 12 (nn_ne rfl)).trans ((hne179 12 (nn_ne rfl)).trans ((hne174 12 (nn_ne rfl)).trans ((hne169 12 (nn_ne rfl)).trans ((hne164 12 (nn_ne rfl)).trans ((hne159 12 (nn_ne rfl)).trans ((hne154 12 (nn_ne rfl)).trans ((hne147 12 (nn_ne rfl)).trans ((hne142 12 (nn_ne rfl)).trans ((hne137 12 (nn_ne rfl)).trans ((hne132 12 (nn_ne rfl)).trans ((hne127 12 (nn_ne rfl)).trans ((hne122 12 (nn_ne rfl)).trans ((hne115 12 (nn_ne rfl)).trans ((hne110 12 (nn_ne rfl)).trans ((hne105 12 (nn_ne rfl)).trans ((hne100 12 (nn_ne rfl)).trans ((hne95 12 (nn_ne rfl)).trans ((hne89 12 (nn_ne rfl)).trans ((hne82 12 (nn_ne rfl)).trans (hw76)))))))))))))))))))))))))))))))))
  refine tw_callv F hH (tw_runV (r := 4) (As := [.int (2 : Int32), .int (1 : Int32)]) (rest := []) F hH (c_X9_layAnew l G ad73 w253 H.size hw263 hw264 hw265 hw266 hw269 hw270) (tw_gl kw_88 rfl) km_X9_layAnew kv_X9_layAnew rfl rfl ⟨(Nat.le_of_ble_eq_true rfl), (Nat.le_of_ble_eq_true rfl)⟩ (by decide) hw263 rfl rfl hl.1 rfl (Nat.le_of_ble_eq_true rfl) dX9_init_140 ⟨(Nat.le_of_ble_eq_true rfl), (Nat.le_of_ble_eq_true rfl)⟩) (fun w271 H locs hp272 _ hH => ?_)
  obtain ⟨-, hw274, hw275, hw276, hw277, hw278, hw279, hfr280⟩ := hp272
  have hw281 : w271 8 = .inl (G.2.1 0, 24, .inl (upd (upd (upd (upd (upd (upd (upd (upd (upd (upd (upd (upd (upd (upd (upd (upd (upd (upd (upd (upd (upd (upd (upd (upd (fun _ => 0) 0 (0 : Int32)) 1 (10 : Int32)) 2 (40 : Int32)) 3 (1000 : Int32)) 4 (0 : Int32)) 5 (5 : Int32)) 6 (0 : Int32)) 7 (10 : Int32)) 8 (40 : Int32)) 9 (1000 : Int32)) 10 (0 : Int32)) 11 (5 : Int32)) 12 (0 : Int32)) 13 (10 : Int32)) 14 (40 : Int32)) 15 (1000 : Int32)) 16 (0 : Int32)) 17 (5 : Int32)) 18 (0 : Int32)) 19 (10 : Int32)) 20 (40 : Int32)) 21 (1000 : Int32)) 22 (0 : Int32)) 23 (5 : Int32))) := (hfr280 8 (by omega) (by omega) (by omega) (by omega) (by omega) (by omega)).trans ((hne255 8 (nn_ne rfl)).trans ((hne250 8 (nn_ne rfl)).trans ((hne245 8 (nn_ne rfl)).trans ((hne240 8 (nn_ne rfl)).trans ((hne235 8 (nn_ne rfl)).trans ((hne230 8 (nn_ne rfl)).trans ((hne225 8 (nn_ne rfl)).trans ((hne219 8 (nn_ne rfl)).trans (hw210)))))))))
  have hw282 : w271 9 = .inl (G.2.1 0, 8, .inl (upd (upd (upd (upd (upd (upd (upd (upd (fun _ => 0) 0 (500 : Int32)) 1 (5 : Int32)) 2 (200 : Int32)) 3 (15000 : Int32)) 4 (3000 : Int32)) 5 (50 : Int32)) 6 (300 : Int32)) 7 (0 : Int32))) := (hfr280 9 (by omega) (by omega) (by omega) (by omega) (by omega) (by omega)).trans (hw254)
  have hw283 : w271 11 = .inl (G.2.1 0, 90, .inl (fun _ => 0)) := (hfr280 11 (by omega) (by omega) (by omega) (by omega) (by omega) (by omega)).trans ((hne255 11 (nn_ne rfl)).trans ((hne250 11 (nn_ne rfl)).trans ((hne245 11 (nn_ne rfl)).trans ((hne240 11 (nn_ne rfl)).trans ((hne235 11 (nn_ne rfl)).trans ((hne230 11 (nn_ne rfl)).trans ((hne225 11 (nn_ne rfl)).trans ((hne219 11 (nn_ne rfl)).trans ((hne211 11 (nn_ne rfl)).trans ((hne206 11 (nn_ne rfl)).trans ((hne201 11 (nn_ne rfl)).trans ((hne196 11 (nn_ne rfl)).trans ((hne191 11 (nn_ne rfl)).trans ((hne186 11 (nn_ne rfl)).trans ((hne179 11 (nn_ne rfl)).trans ((hne174 11 (nn_ne rfl)).trans ((hne169 11 (nn_ne rfl)).trans ((hne164 11 (nn_ne rfl)).trans ((hne159 11 (nn_ne rfl)).trans ((hne154 11 (nn_ne rfl)).trans ((hne147 11 (nn_ne rfl)).trans ((hne142 11 (nn_ne rfl)).trans ((hne137 11 (nn_ne rfl)).trans ((hne132 11 (nn_ne rfl)).trans ((hne127 11 (nn_ne rfl)).trans ((hne122 11 (nn_ne rfl)).trans ((hne115 11 (nn_ne rfl)).trans ((hne110 11 (nn_ne rfl)).trans ((hne105 11 (nn_ne rfl)).trans ((hne100 11 (nn_ne rfl)).trans ((hne95 11 (nn_ne rfl)).trans ((hne89 11 (nn_ne rfl)).trans ((hne82 11 (nn_ne rfl)).trans ((hfr78 11 (by decide)).trans ((hne68 11 (nn_ne rfl)).trans ((hne64 11 (nn_ne rfl)).trans (hw59)))))))))))))))))))))))))))))))))))))
  have hw284 : w271 13 = .inl (G.2.1 0, 80, .inl (fun _ => 0)) := (hfr280 13 (by omega) (by omega) (by omega) (by omega) (by omega) (by omega)).trans ((hne255 13 (nn_ne rfl)).trans ((hne250 13 (nn_ne rfl)).trans ((hne245 13 (nn_ne rfl)).trans ((hne240 13 (nn_ne rfl)).trans ((hne235 13 (nn_ne rfl)).trans ((hne230 13 (nn_ne rfl)).trans ((hne225 13 (nn_ne rfl)).trans ((hne219 13 (nn_ne rfl)).trans ((hne211 13 (nn_ne rfl)).trans ((hne206 13 (nn_ne rfl)).trans ((hne201 13 (nn_ne rfl)).trans ((hne196 13 (nn_ne rfl)).trans ((hne191 13 (nn_ne rfl)).trans ((hne186 13 (nn_ne rfl)).trans ((hne179 13 (nn_ne rfl)).trans ((hne174 13 (nn_ne rfl)).trans ((hne169 13 (nn_ne rfl)).trans ((hne164 13 (nn_ne rfl)).trans ((hne159 13 (nn_ne rfl)).trans ((hne154 13 (nn_ne rfl)).trans ((hne147 13 (nn_ne rfl)).trans ((hne142 13 (nn_ne rfl)).trans ((hne137 13 (nn_ne rfl)).trans ((hne132 13 (nn_ne rfl)).trans ((hne127 13 (nn_ne rfl)).trans ((hne122 13 (nn_ne rfl)).trans ((hne115 13 (nn_ne rfl)).trans ((hne110 13 (nn_ne rfl)).trans ((hne105 13 (nn_ne rfl)).trans ((hne100 13 (nn_ne rfl)).trans ((hne95 13 (nn_ne rfl)).trans ((hne89 13 (nn_ne rfl)).trans ((hne82 13 (nn_ne rfl)).trans (hw77))))))))))))))))))))))))))))))))))
  exact tw_nret F hH (fun k hk => ((ha74 k (by omega)).trans ((ha70 k (by omega)).trans ((ha56 k (by omega)).trans ((ha52 k (by omega)).trans ((ha42 k (by omega)).trans ((ha32 k (by omega)).trans ((ha23 k (by omega)).trans ((ha14 k (by omega)).trans (ha5 k (by omega))))))))))) hret hlk (Nat.le_of_ble_eq_true rfl) (Nat.le_of_ble_eq_true rfl) dX9_init_143 (⟨trivial, hw275, hw274, hw276, hw277, hw281, hw282, hw278, hw283, hw279, hw284, fun k hk => ((hfr280 k (by omega) (by omega) (by omega) (by omega) (by omega) (by omega)).trans ((hne255 k (by omega)).trans ((hne250 k (by omega)).trans ((hne245 k (by omega)).trans ((hne240 k (by omega)).trans ((hne235 k (by omega)).trans ((hne230 k (by omega)).trans ((hne225 k (by omega)).trans ((hne219 k (by omega)).trans ((hne211 k (by omega)).trans ((hne206 k (by omega)).trans ((hne201 k (by omega)).trans ((hne196 k (by omega)).trans ((hne191 k (by omega)).trans ((hne186 k (by omega)).trans ((hne179 k (by omega)).trans ((hne174 k (by omega)).trans ((hne169 k (by omega)).trans ((hne164 k (by omega)).trans ((hne159 k (by omega)).trans ((hne154 k (by omega)).trans ((hne147 k (by omega)).trans ((hne142 k (by omega)).trans ((hne137 k (by omega)).trans ((hne132 k (by omega)).trans ((hne127 k (by omega)).trans ((hne122 k (by omega)).trans ((hne115 k (by omega)).trans ((hne110 k (by omega)).trans ((hne105 k (by omega)).trans ((hne100 k (by omega)).trans ((hne95 k (by omega)).trans ((hne89 k (by omega)).trans ((hne82 k (by omega)).trans ((hfr78 k (by omega)).trans ((hne68 k (by omega)).trans ((hne64 k (by omega)).trans ((hfr60 k (by omega)).trans ((hne50 k (by omega)).trans ((hne46 k (by omega)).trans ((hne40 k (by omega)).trans ((hne36 k (by omega)).trans ((hne30 k (by omega)).trans ((hne27 k (by omega)).trans ((hne21 k (by omega)).trans ((hne18 k (by omega)).trans ((hne12 k (by omega)).trans ((hne9 k (by omega)).trans (hne3 k (by omega))))))))))))))))))))))))))))))))))))))))))))))))))⟩)
set_option maxHeartbeats 4000000 in
set_option maxRecDepth 100000 in
theorem c_X7_init_v3 (l : Launch) (G : tw_G) (n : Nat) (ad : Nat → Nat) (w : Nat → va_E) (sz : Nat) (hw_n : w n = .inr (7, [.int (0 : Int32), .int (0 : Int32), .null, .int (0 : Int32)])) : Met l yX7_init (tw_ws yX7_init cX7_init 3 none) ({ frames := 1, cells := 1, slots := 8, locals := 21 }) (tw_Pre G (n + 1) ad w sz [.ref (ad n), .int (4 : Int32), .int (2 : Int32)]) (tw_Qn G (n + 1) 1 ad (fun u => (True ∧ u.2 n = .inr (7, [.int (4 : Int32), .int (2 : Int32), .ref (u.1 (n + 1)), .int (0 : Int32)]) ∧ u.2 (n + 1) = .inl (G.2.1 0, 8, .inl (fun _ => 0)) ∧ ∀ k, k < n → u.2 k = w k)) sz) 1 8 (tw_A (n + 1) ad sz) := by
  refine tw_met (by decide) (Nat.le_of_ble_eq_true rfl) ?_
  intro p e s m args below meth c F hret hlk hin hargs hsz hH ls hl
  have hx := F.1.1
  have hb := F.1.2.1
  have hown := F.1.2.2.2.1
  have hts := F.1.2.2.2.2
  have hl : lv_has ls 3 [(0, .ref (ad n)), (1, .int (4 : Int32)), (2, .int (2 : Int32))] := hl
  generalize hH0 : s.heap = H at hH ⊢
  refine lv_aload_n hx hb dX7_init_0 rfl (lv_at hl 0 rfl) ?_
  refine tw_objInit F (tw_gl kw_59 rfl) (tw_gl kw_32 rfl) (tw_gl kw_33 rfl) hl.1 ⟨(Nat.le_of_ble_eq_true rfl), (Nat.le_of_ble_eq_true rfl)⟩ (Nat.le_of_ble_eq_true rfl) dX7_init_1 ?_
  refine lv_aload_n hx hb dX7_init_4 rfl (lv_at hl 0 rfl) ?_
  refine lv_iload_n hx hb dX7_init_5 rfl (lv_at hl 1 rfl) ?_
  refine tw_putF (r := n) F hH kf_RX7_9 kp_X7_0 hin rfl rfl (by omega) hw_n (Nat.le_of_ble_eq_true rfl) rfl rfl dX7_init_6 (fun H locs w1 hw2 hne3 hH => ?_)
  have hw2 : w1 n = .inr (7, [.int (4 : Int32), .int (0 : Int32), .null, .int (0 : Int32)]) := hw2
  refine lv_aload_n hx hb dX7_init_9 rfl (lv_at hl 0 rfl) ?_
  refine lv_iload_n hx hb dX7_init_10 rfl (lv_at hl 2 rfl) ?_
  refine tw_putF (r := n) F hH kf_RX7_15 kp_X7_1 hin rfl rfl (by omega) hw2 (Nat.le_of_ble_eq_true rfl) rfl rfl dX7_init_11 (fun H locs w4 hw5 hne6 hH => ?_)
  have hw5 : w4 n = .inr (7, [.int (4 : Int32), .int (2 : Int32), .null, .int (0 : Int32)]) := hw5
  refine lv_aload_n hx hb dX7_init_14 rfl (lv_at hl 0 rfl) ?_
  refine lv_iconst (v := 0) hx hb dX7_init_15 (by decide) ?_
  refine lv_iload_n hx hb dX7_init_16 rfl (lv_at hl 1 rfl) ?_
  refine lv_iload_n hx hb dX7_init_17 rfl (lv_at hl 2 rfl) ?_
  refine lv_imul hx hb dX7_init_18 ?_
  refine tw_cv (v := (8 : Int32)) (by decide) ?_
  refine va_mmax hx hb (F.1.2.2.1.trans hl.1.symm) hown (hts _ (tw_gl kw_60 rfl)) (hts _ (tw_gl kw_61 rfl)) (hts _ (tw_gl kw_5 rfl)) (hts _ (tw_gl kw_62 rfl)) (Nat.le_of_ble_eq_true rfl) (Nat.le_of_ble_eq_true rfl) (Nat.le_of_ble_eq_true rfl) (Nat.le_of_ble_eq_true rfl) dX7_init_19 ?_
  refine tw_cv (v := (8 : Int32)) (by decide) ?_
  refine tw_newa (t := 0) (atype := .int) (ty := .int) (n' := 8) (a0 := (8, .inl (fun _ => 0))) F hH rfl (fun C h => by cases h) (tw_gl kw_47 rfl) rfl (fun _ => rfl) (by decide) (Nat.le_of_ble_eq_true rfl) (Nat.le_of_ble_eq_true rfl) (Nat.le_of_ble_eq_true rfl) dX7_init_22 (fun H locs ad10 w7 ha11 hw8 hne9 hH => ?_)
  have hw12 : w7 n = .inr (7, [.int (4 : Int32), .int (2 : Int32), .null, .int (0 : Int32)]) := (hne9 n (by omega)).trans (hw5)
  refine tw_putF (r := n) F hH kf_RX7_24 kp_X7_2 hin rfl (ha11 n (by omega)) (by omega) hw12 (Nat.le_of_ble_eq_true rfl) rfl rfl dX7_init_24 (fun H locs w13 hw14 hne15 hH => ?_)
  have hw14 : w13 n = .inr (7, [.int (4 : Int32), .int (2 : Int32), .ref (ad10 (n + 1)), .int (0 : Int32)]) := hw14
  have hw16 : w13 (n + 1) = .inl (G.2.1 0, 8, .inl (fun _ => 0)) := (hne15 (n + 1) (by omega)).trans (hw8)
  exact tw_nret F hH (fun k hk => (ha11 k (by omega))) hret hlk (Nat.le_of_ble_eq_true rfl) (Nat.le_of_ble_eq_true rfl) dX7_init_27 (⟨trivial, hw14, hw16, fun k hk => ((hne15 k (by omega)).trans ((hne9 k (by omega)).trans ((hne6 k (by omega)).trans (hne3 k (by omega)))))⟩)
set_option maxHeartbeats 4000000 in
set_option maxRecDepth 100000 in
theorem c_X7_init_v4 (l : Launch) (G : tw_G) (n : Nat) (ad : Nat → Nat) (w : Nat → va_E) (sz : Nat) (hw_n : w n = .inr (7, [.int (0 : Int32), .int (0 : Int32), .null, .int (0 : Int32)])) : Met l yX7_init (tw_ws yX7_init cX7_init 3 none) ({ frames := 1, cells := 1, slots := 36, locals := 21 }) (tw_Pre G (n + 1) ad w sz [.ref (ad n), .int (12 : Int32), .int (3 : Int32)]) (tw_Qn G (n + 1) 1 ad (fun u => (True ∧ u.2 n = .inr (7, [.int (12 : Int32), .int (3 : Int32), .ref (u.1 (n + 1)), .int (0 : Int32)]) ∧ u.2 (n + 1) = .inl (G.2.1 0, 36, .inl (fun _ => 0)) ∧ ∀ k, k < n → u.2 k = w k)) sz) 1 36 (tw_A (n + 1) ad sz) := by
  refine tw_met (by decide) (Nat.le_of_ble_eq_true rfl) ?_
  intro p e s m args below meth c F hret hlk hin hargs hsz hH ls hl
  have hx := F.1.1
  have hb := F.1.2.1
  have hown := F.1.2.2.2.1
  have hts := F.1.2.2.2.2
  have hl : lv_has ls 3 [(0, .ref (ad n)), (1, .int (12 : Int32)), (2, .int (3 : Int32))] := hl
  generalize hH0 : s.heap = H at hH ⊢
  refine lv_aload_n hx hb dX7_init_0 rfl (lv_at hl 0 rfl) ?_
  refine tw_objInit F (tw_gl kw_59 rfl) (tw_gl kw_32 rfl) (tw_gl kw_33 rfl) hl.1 ⟨(Nat.le_of_ble_eq_true rfl), (Nat.le_of_ble_eq_true rfl)⟩ (Nat.le_of_ble_eq_true rfl) dX7_init_1 ?_
  refine lv_aload_n hx hb dX7_init_4 rfl (lv_at hl 0 rfl) ?_
  refine lv_iload_n hx hb dX7_init_5 rfl (lv_at hl 1 rfl) ?_
  refine tw_putF (r := n) F hH kf_RX7_9 kp_X7_0 hin rfl rfl (by omega) hw_n (Nat.le_of_ble_eq_true rfl) rfl rfl dX7_init_6 (fun H locs w1 hw2 hne3 hH => ?_)
  have hw2 : w1 n = .inr (7, [.int (12 : Int32), .int (0 : Int32), .null, .int (0 : Int32)]) := hw2
  refine lv_aload_n hx hb dX7_init_9 rfl (lv_at hl 0 rfl) ?_
  refine lv_iload_n hx hb dX7_init_10 rfl (lv_at hl 2 rfl) ?_
  refine tw_putF (r := n) F hH kf_RX7_15 kp_X7_1 hin rfl rfl (by omega) hw2 (Nat.le_of_ble_eq_true rfl) rfl rfl dX7_init_11 (fun H locs w4 hw5 hne6 hH => ?_)
  have hw5 : w4 n = .inr (7, [.int (12 : Int32), .int (3 : Int32), .null, .int (0 : Int32)]) := hw5
  refine lv_aload_n hx hb dX7_init_14 rfl (lv_at hl 0 rfl) ?_
  refine lv_iconst (v := 0) hx hb dX7_init_15 (by decide) ?_
  refine lv_iload_n hx hb dX7_init_16 rfl (lv_at hl 1 rfl) ?_
  refine lv_iload_n hx hb dX7_init_17 rfl (lv_at hl 2 rfl) ?_
  refine lv_imul hx hb dX7_init_18 ?_
  refine tw_cv (v := (36 : Int32)) (by decide) ?_
  refine va_mmax hx hb (F.1.2.2.1.trans hl.1.symm) hown (hts _ (tw_gl kw_60 rfl)) (hts _ (tw_gl kw_61 rfl)) (hts _ (tw_gl kw_5 rfl)) (hts _ (tw_gl kw_62 rfl)) (Nat.le_of_ble_eq_true rfl) (Nat.le_of_ble_eq_true rfl) (Nat.le_of_ble_eq_true rfl) (Nat.le_of_ble_eq_true rfl) dX7_init_19 ?_
  refine tw_cv (v := (36 : Int32)) (by decide) ?_
  refine tw_newa (t := 0) (atype := .int) (ty := .int) (n' := 36) (a0 := (36, .inl (fun _ => 0))) F hH rfl (fun C h => by cases h) (tw_gl kw_47 rfl) rfl (fun _ => rfl) (by decide) (Nat.le_of_ble_eq_true rfl) (Nat.le_of_ble_eq_true rfl) (Nat.le_of_ble_eq_true rfl) dX7_init_22 (fun H locs ad10 w7 ha11 hw8 hne9 hH => ?_)
  have hw12 : w7 n = .inr (7, [.int (12 : Int32), .int (3 : Int32), .null, .int (0 : Int32)]) := (hne9 n (by omega)).trans (hw5)
  refine tw_putF (r := n) F hH kf_RX7_24 kp_X7_2 hin rfl (ha11 n (by omega)) (by omega) hw12 (Nat.le_of_ble_eq_true rfl) rfl rfl dX7_init_24 (fun H locs w13 hw14 hne15 hH => ?_)
  have hw14 : w13 n = .inr (7, [.int (12 : Int32), .int (3 : Int32), .ref (ad10 (n + 1)), .int (0 : Int32)]) := hw14
  have hw16 : w13 (n + 1) = .inl (G.2.1 0, 36, .inl (fun _ => 0)) := (hne15 (n + 1) (by omega)).trans (hw8)
  exact tw_nret F hH (fun k hk => (ha11 k (by omega))) hret hlk (Nat.le_of_ble_eq_true rfl) (Nat.le_of_ble_eq_true rfl) dX7_init_27 (⟨trivial, hw14, hw16, fun k hk => ((hne15 k (by omega)).trans ((hne9 k (by omega)).trans ((hne6 k (by omega)).trans (hne3 k (by omega)))))⟩)
set_option maxHeartbeats 4000000 in
set_option maxRecDepth 100000 in
theorem c_X7_init_v5 (l : Launch) (G : tw_G) (n : Nat) (ad : Nat → Nat) (w : Nat → va_E) (sz : Nat) (hw_n : w n = .inr (7, [.int (0 : Int32), .int (0 : Int32), .null, .int (0 : Int32)])) : Met l yX7_init (tw_ws yX7_init cX7_init 3 none) ({ frames := 1, cells := 1, slots := 15, locals := 21 }) (tw_Pre G (n + 1) ad w sz [.ref (ad n), .int (5 : Int32), .int (3 : Int32)]) (tw_Qn G (n + 1) 1 ad (fun u => (True ∧ u.2 n = .inr (7, [.int (5 : Int32), .int (3 : Int32), .ref (u.1 (n + 1)), .int (0 : Int32)]) ∧ u.2 (n + 1) = .inl (G.2.1 0, 15, .inl (fun _ => 0)) ∧ ∀ k, k < n → u.2 k = w k)) sz) 1 15 (tw_A (n + 1) ad sz) := by
  refine tw_met (by decide) (Nat.le_of_ble_eq_true rfl) ?_
  intro p e s m args below meth c F hret hlk hin hargs hsz hH ls hl
  have hx := F.1.1
  have hb := F.1.2.1
  have hown := F.1.2.2.2.1
  have hts := F.1.2.2.2.2
  have hl : lv_has ls 3 [(0, .ref (ad n)), (1, .int (5 : Int32)), (2, .int (3 : Int32))] := hl
  generalize hH0 : s.heap = H at hH ⊢
  refine lv_aload_n hx hb dX7_init_0 rfl (lv_at hl 0 rfl) ?_
  refine tw_objInit F (tw_gl kw_59 rfl) (tw_gl kw_32 rfl) (tw_gl kw_33 rfl) hl.1 ⟨(Nat.le_of_ble_eq_true rfl), (Nat.le_of_ble_eq_true rfl)⟩ (Nat.le_of_ble_eq_true rfl) dX7_init_1 ?_
  refine lv_aload_n hx hb dX7_init_4 rfl (lv_at hl 0 rfl) ?_
  refine lv_iload_n hx hb dX7_init_5 rfl (lv_at hl 1 rfl) ?_
  refine tw_putF (r := n) F hH kf_RX7_9 kp_X7_0 hin rfl rfl (by omega) hw_n (Nat.le_of_ble_eq_true rfl) rfl rfl dX7_init_6 (fun H locs w1 hw2 hne3 hH => ?_)
  have hw2 : w1 n = .inr (7, [.int (5 : Int32), .int (0 : Int32), .null, .int (0 : Int32)]) := hw2
  refine lv_aload_n hx hb dX7_init_9 rfl (lv_at hl 0 rfl) ?_
  refine lv_iload_n hx hb dX7_init_10 rfl (lv_at hl 2 rfl) ?_
  refine tw_putF (r := n) F hH kf_RX7_15 kp_X7_1 hin rfl rfl (by omega) hw2 (Nat.le_of_ble_eq_true rfl) rfl rfl dX7_init_11 (fun H locs w4 hw5 hne6 hH => ?_)
  have hw5 : w4 n = .inr (7, [.int (5 : Int32), .int (3 : Int32), .null, .int (0 : Int32)]) := hw5
  refine lv_aload_n hx hb dX7_init_14 rfl (lv_at hl 0 rfl) ?_
  refine lv_iconst (v := 0) hx hb dX7_init_15 (by decide) ?_
  refine lv_iload_n hx hb dX7_init_16 rfl (lv_at hl 1 rfl) ?_
  refine lv_iload_n hx hb dX7_init_17 rfl (lv_at hl 2 rfl) ?_
  refine lv_imul hx hb dX7_init_18 ?_
  refine tw_cv (v := (15 : Int32)) (by decide) ?_
  refine va_mmax hx hb (F.1.2.2.1.trans hl.1.symm) hown (hts _ (tw_gl kw_60 rfl)) (hts _ (tw_gl kw_61 rfl)) (hts _ (tw_gl kw_5 rfl)) (hts _ (tw_gl kw_62 rfl)) (Nat.le_of_ble_eq_true rfl) (Nat.le_of_ble_eq_true rfl) (Nat.le_of_ble_eq_true rfl) (Nat.le_of_ble_eq_true rfl) dX7_init_19 ?_
  refine tw_cv (v := (15 : Int32)) (by decide) ?_
  refine tw_newa (t := 0) (atype := .int) (ty := .int) (n' := 15) (a0 := (15, .inl (fun _ => 0))) F hH rfl (fun C h => by cases h) (tw_gl kw_47 rfl) rfl (fun _ => rfl) (by decide) (Nat.le_of_ble_eq_true rfl) (Nat.le_of_ble_eq_true rfl) (Nat.le_of_ble_eq_true rfl) dX7_init_22 (fun H locs ad10 w7 ha11 hw8 hne9 hH => ?_)
  have hw12 : w7 n = .inr (7, [.int (5 : Int32), .int (3 : Int32), .null, .int (0 : Int32)]) := (hne9 n (by omega)).trans (hw5)
  refine tw_putF (r := n) F hH kf_RX7_24 kp_X7_2 hin rfl (ha11 n (by omega)) (by omega) hw12 (Nat.le_of_ble_eq_true rfl) rfl rfl dX7_init_24 (fun H locs w13 hw14 hne15 hH => ?_)
  have hw14 : w13 n = .inr (7, [.int (5 : Int32), .int (3 : Int32), .ref (ad10 (n + 1)), .int (0 : Int32)]) := hw14
  have hw16 : w13 (n + 1) = .inl (G.2.1 0, 15, .inl (fun _ => 0)) := (hne15 (n + 1) (by omega)).trans (hw8)
  exact tw_nret F hH (fun k hk => (ha11 k (by omega))) hret hlk (Nat.le_of_ble_eq_true rfl) (Nat.le_of_ble_eq_true rfl) dX7_init_27 (⟨trivial, hw14, hw16, fun k hk => ((hne15 k (by omega)).trans ((hne9 k (by omega)).trans ((hne6 k (by omega)).trans (hne3 k (by omega)))))⟩)
set_option maxHeartbeats 4000000 in
set_option maxRecDepth 100000 in
theorem c_X7_init_v6 (l : Launch) (G : tw_G) (n : Nat) (ad : Nat → Nat) (w : Nat → va_E) (sz : Nat) (hw_n : w n = .inr (7, [.int (0 : Int32), .int (0 : Int32), .null, .int (0 : Int32)])) : Met l yX7_init (tw_ws yX7_init cX7_init 3 none) ({ frames := 1, cells := 1, slots := 6, locals := 21 }) (tw_Pre G (n + 1) ad w sz [.ref (ad n), .int (2 : Int32), .int (3 : Int32)]) (tw_Qn G (n + 1) 1 ad (fun u => (True ∧ u.2 n = .inr (7, [.int (2 : Int32), .int (3 : Int32), .ref (u.1 (n + 1)), .int (0 : Int32)]) ∧ u.2 (n + 1) = .inl (G.2.1 0, 6, .inl (fun _ => 0)) ∧ ∀ k, k < n → u.2 k = w k)) sz) 1 6 (tw_A (n + 1) ad sz) := by
  refine tw_met (by decide) (Nat.le_of_ble_eq_true rfl) ?_
  intro p e s m args below meth c F hret hlk hin hargs hsz hH ls hl
  have hx := F.1.1
  have hb := F.1.2.1
  have hown := F.1.2.2.2.1
  have hts := F.1.2.2.2.2
  have hl : lv_has ls 3 [(0, .ref (ad n)), (1, .int (2 : Int32)), (2, .int (3 : Int32))] := hl
  generalize hH0 : s.heap = H at hH ⊢
  refine lv_aload_n hx hb dX7_init_0 rfl (lv_at hl 0 rfl) ?_
  refine tw_objInit F (tw_gl kw_59 rfl) (tw_gl kw_32 rfl) (tw_gl kw_33 rfl) hl.1 ⟨(Nat.le_of_ble_eq_true rfl), (Nat.le_of_ble_eq_true rfl)⟩ (Nat.le_of_ble_eq_true rfl) dX7_init_1 ?_
  refine lv_aload_n hx hb dX7_init_4 rfl (lv_at hl 0 rfl) ?_
  refine lv_iload_n hx hb dX7_init_5 rfl (lv_at hl 1 rfl) ?_
  refine tw_putF (r := n) F hH kf_RX7_9 kp_X7_0 hin rfl rfl (by omega) hw_n (Nat.le_of_ble_eq_true rfl) rfl rfl dX7_init_6 (fun H locs w1 hw2 hne3 hH => ?_)
  have hw2 : w1 n = .inr (7, [.int (2 : Int32), .int (0 : Int32), .null, .int (0 : Int32)]) := hw2
  refine lv_aload_n hx hb dX7_init_9 rfl (lv_at hl 0 rfl) ?_
  refine lv_iload_n hx hb dX7_init_10 rfl (lv_at hl 2 rfl) ?_
  refine tw_putF (r := n) F hH kf_RX7_15 kp_X7_1 hin rfl rfl (by omega) hw2 (Nat.le_of_ble_eq_true rfl) rfl rfl dX7_init_11 (fun H locs w4 hw5 hne6 hH => ?_)
  have hw5 : w4 n = .inr (7, [.int (2 : Int32), .int (3 : Int32), .null, .int (0 : Int32)]) := hw5
  refine lv_aload_n hx hb dX7_init_14 rfl (lv_at hl 0 rfl) ?_
  refine lv_iconst (v := 0) hx hb dX7_init_15 (by decide) ?_
  refine lv_iload_n hx hb dX7_init_16 rfl (lv_at hl 1 rfl) ?_
  refine lv_iload_n hx hb dX7_init_17 rfl (lv_at hl 2 rfl) ?_
  refine lv_imul hx hb dX7_init_18 ?_
  refine tw_cv (v := (6 : Int32)) (by decide) ?_
  refine va_mmax hx hb (F.1.2.2.1.trans hl.1.symm) hown (hts _ (tw_gl kw_60 rfl)) (hts _ (tw_gl kw_61 rfl)) (hts _ (tw_gl kw_5 rfl)) (hts _ (tw_gl kw_62 rfl)) (Nat.le_of_ble_eq_true rfl) (Nat.le_of_ble_eq_true rfl) (Nat.le_of_ble_eq_true rfl) (Nat.le_of_ble_eq_true rfl) dX7_init_19 ?_
  refine tw_cv (v := (6 : Int32)) (by decide) ?_
  refine tw_newa (t := 0) (atype := .int) (ty := .int) (n' := 6) (a0 := (6, .inl (fun _ => 0))) F hH rfl (fun C h => by cases h) (tw_gl kw_47 rfl) rfl (fun _ => rfl) (by decide) (Nat.le_of_ble_eq_true rfl) (Nat.le_of_ble_eq_true rfl) (Nat.le_of_ble_eq_true rfl) dX7_init_22 (fun H locs ad10 w7 ha11 hw8 hne9 hH => ?_)
  have hw12 : w7 n = .inr (7, [.int (2 : Int32), .int (3 : Int32), .null, .int (0 : Int32)]) := (hne9 n (by omega)).trans (hw5)
  refine tw_putF (r := n) F hH kf_RX7_24 kp_X7_2 hin rfl (ha11 n (by omega)) (by omega) hw12 (Nat.le_of_ble_eq_true rfl) rfl rfl dX7_init_24 (fun H locs w13 hw14 hne15 hH => ?_)
  have hw14 : w13 n = .inr (7, [.int (2 : Int32), .int (3 : Int32), .ref (ad10 (n + 1)), .int (0 : Int32)]) := hw14
  have hw16 : w13 (n + 1) = .inl (G.2.1 0, 6, .inl (fun _ => 0)) := (hne15 (n + 1) (by omega)).trans (hw8)
  exact tw_nret F hH (fun k hk => (ha11 k (by omega))) hret hlk (Nat.le_of_ble_eq_true rfl) (Nat.le_of_ble_eq_true rfl) dX7_init_27 (⟨trivial, hw14, hw16, fun k hk => ((hne15 k (by omega)).trans ((hne9 k (by omega)).trans ((hne6 k (by omega)).trans (hne3 k (by omega)))))⟩)
set_option maxHeartbeats 4000000 in
set_option maxRecDepth 100000 in
theorem c_X8_init (l : Launch) (G : tw_G) (n : Nat) (ad : Nat → Nat) (w : Nat → va_E) (sz : Nat) (hw_n : w n = .inr (8, [.null, .int (0 : Int32), .null, .null, .null, .null, .int (0 : Int32), .int (0 : Int32)])) : Met l yX8_init (tw_ws yX8_init cX8_init 1 none) ({ frames := 1, cells := 5, slots := 144, locals := 20 }) (tw_Pre G (n + 1) ad w sz [.ref (ad n)]) (tw_Qn G (n + 1) 5 ad (fun u => (True ∧ u.2 (n + 1) = .inl (G.2.1 0, 60, .inl (fun _ => 0)) ∧ u.2 n = .inr (8, [.ref (u.1 (n + 1)), .int (0 : Int32), .ref (u.1 (n + 2)), .ref (u.1 (n + 3)), .ref (u.1 (n + 4)), .ref (u.1 (n + 5)), .int (0 : Int32), .int (0 : Int32)]) ∧ u.2 (n + 2) = .inl (G.2.1 0, 21, .inl (fun _ => 0)) ∧ u.2 (n + 3) = .inl (G.2.1 0, 21, .inl (fun _ => 0)) ∧ u.2 (n + 4) = .inl (G.2.1 0, 21, .inl (fun _ => 0)) ∧ u.2 (n + 5) = .inl (G.2.1 0, 21, .inl (fun _ => 0)) ∧ ∀ k, k < n → u.2 k = w k)) sz) 5 144 (tw_A (n + 1) ad sz) := by
  refine tw_met (by decide) (Nat.le_of_ble_eq_true rfl) ?_
  intro p e s m args below meth c F hret hlk hin hargs hsz hH ls hl
  have hx := F.1.1
  have hb := F.1.2.1
  have hown := F.1.2.2.2.1
  have hts := F.1.2.2.2.2
  have hl : lv_has ls 1 [(0, .ref (ad n))] := hl
  generalize hH0 : s.heap = H at hH ⊢
  refine lv_aload_n hx hb dX8_init_0 rfl (lv_at hl 0 rfl) ?_
  refine tw_objInit F (tw_gl kw_157 rfl) (tw_gl kw_32 rfl) (tw_gl kw_33 rfl) hl.1 ⟨(Nat.le_of_ble_eq_true rfl), (Nat.le_of_ble_eq_true rfl)⟩ (Nat.le_of_ble_eq_true rfl) dX8_init_1 ?_
  refine lv_aload_n hx hb dX8_init_4 rfl (lv_at hl 0 rfl) ?_
  refine lv_bipush (v := 60) hx hb dX8_init_5 (by decide) ?_
  refine tw_newa (t := 0) (atype := .int) (ty := .int) (n' := 60) (a0 := (60, .inl (fun _ => 0))) F hH rfl (fun C h => by cases h) (tw_gl kw_47 rfl) rfl (fun _ => rfl) (by decide) (Nat.le_of_ble_eq_true rfl) (Nat.le_of_ble_eq_true rfl) (Nat.le_of_ble_eq_true rfl) dX8_init_7 (fun H locs ad4 w1 ha5 hw2 hne3 hH => ?_)
  have hw6 : w1 n = .inr (8, [.null, .int (0 : Int32), .null, .null, .null, .null, .int (0 : Int32), .int (0 : Int32)]) := (hne3 n (by omega)).trans (hw_n)
  refine tw_putF (r := n) F hH kf_RX8_9 kp_X8_0 hin rfl (ha5 n (by omega)) (by omega) hw6 (Nat.le_of_ble_eq_true rfl) rfl rfl dX8_init_9 (fun H locs w7 hw8 hne9 hH => ?_)
  have hw8 : w7 n = .inr (8, [.ref (ad4 (n + 1)), .int (0 : Int32), .null, .null, .null, .null, .int (0 : Int32), .int (0 : Int32)]) := hw8
  refine lv_aload_n hx hb dX8_init_12 rfl (lv_at hl 0 rfl) ?_
  refine lv_bipush (v := 21) hx hb dX8_init_13 (by decide) ?_
  refine tw_newa (t := 0) (atype := .int) (ty := .int) (n' := 21) (a0 := (21, .inl (fun _ => 0))) F hH rfl (fun C h => by cases h) (tw_gl kw_47 rfl) rfl (fun _ => rfl) (by decide) (Nat.le_of_ble_eq_true rfl) (Nat.le_of_ble_eq_true rfl) (Nat.le_of_ble_eq_true rfl) dX8_init_15 (fun H locs ad13 w10 ha14 hw11 hne12 hH => ?_)
  have hw15 : w10 n = .inr (8, [.ref (ad4 (n + 1)), .int (0 : Int32), .null, .null, .null, .null, .int (0 : Int32), .int (0 : Int32)]) := (hne12 n (by omega)).trans (hw8)
  refine tw_putF (r := n) F hH kf_RX8_15 kp_X8_2 hin rfl ((ha14 n (by omega)).trans (ha5 n (by omega))) (by omega) hw15 (Nat.le_of_ble_eq_true rfl) rfl rfl dX8_init_17 (fun H locs w16 hw17 hne18 hH => ?_)
  have hw17 : w16 n = .inr (8, [.ref (ad4 (n + 1)), .int (0 : Int32), .ref (ad13 (n + 2)), .null, .null, .null, .int (0 : Int32), .int (0 : Int32)]) := hw17
  refine lv_aload_n hx hb dX8_init_20 rfl (lv_at hl 0 rfl) ?_
  refine lv_bipush (v := 21) hx hb dX8_init_21 (by decide) ?_
  refine tw_newa (t := 0) (atype := .int) (ty := .int) (n' := 21) (a0 := (21, .inl (fun _ => 0))) F hH rfl (fun C h => by cases h) (tw_gl kw_47 rfl) rfl (fun _ => rfl) (by decide) (Nat.le_of_ble_eq_true rfl) (Nat.le_of_ble_eq_true rfl) (Nat.le_of_ble_eq_true rfl) dX8_init_23 (fun H locs ad22 w19 ha23 hw20 hne21 hH => ?_)
  have hw24 : w19 n = .inr (8, [.ref (ad4 (n + 1)), .int (0 : Int32), .ref (ad13 (n + 2)), .null, .null, .null, .int (0 : Int32), .int (0 : Int32)]) := (hne21 n (by omega)).trans (hw17)
  refine tw_putF (r := n) F hH kf_RX8_18 kp_X8_3 hin rfl (((ha23 n (by omega)).trans (ha14 n (by omega))).trans (ha5 n (by omega))) (by omega) hw24 (Nat.le_of_ble_eq_true rfl) rfl rfl dX8_init_25 (fun H locs w25 hw26 hne27 hH => ?_)
  have hw26 : w25 n = .inr (8, [.ref (ad4 (n + 1)), .int (0 : Int32), .ref (ad13 (n + 2)), .ref (ad22 (n + 3)), .null, .null, .int (0 : Int32), .int (0 : Int32)]) := hw26
  refine lv_aload_n hx hb dX8_init_28 rfl (lv_at hl 0 rfl) ?_
  refine lv_bipush (v := 21) hx hb dX8_init_29 (by decide) ?_
  refine tw_newa (t := 0) (atype := .int) (ty := .int) (n' := 21) (a0 := (21, .inl (fun _ => 0))) F hH rfl (fun C h => by cases h) (tw_gl kw_47 rfl) rfl (fun _ => rfl) (by decide) (Nat.le_of_ble_eq_true rfl) (Nat.le_of_ble_eq_true rfl) (Nat.le_of_ble_eq_true rfl) dX8_init_31 (fun H locs ad31 w28 ha32 hw29 hne30 hH => ?_)
  have hw33 : w28 n = .inr (8, [.ref (ad4 (n + 1)), .int (0 : Int32), .ref (ad13 (n + 2)), .ref (ad22 (n + 3)), .null, .null, .int (0 : Int32), .int (0 : Int32)]) := (hne30 n (by omega)).trans (hw26)
  have ha37 : ad31 n = ad n := ((((ha32 n (by omega)).trans (ha23 n (by omega))).trans (ha14 n (by omega))).trans (ha5 n (by omega)))
  refine tw_putF (r := n) F hH kf_RX8_21 kp_X8_4 hin rfl ha37 (by omega) hw33 (Nat.le_of_ble_eq_true rfl) rfl rfl dX8_init_33 (fun H locs w34 hw35 hne36 hH => ?_)
  have hw35 : w34 n = .inr (8, [.ref (ad4 (n + 1)), .int (0 : Int32), .ref (ad13 (n + 2)), .ref (ad22 (n + 3)), .ref (ad31 (n + 4)), .null, .int (0 : Int32), .int (0 : Int32)]) := hw35
  refine lv_aload_n hx hb dX8_init_36 rfl (lv_at hl 0 rfl) ?_
  refine lv_bipush (v := 21) hx hb dX8_init_37 (by decide) ?_
  refine tw_newa (t := 0) (atype := .int) (ty := .int) (n' := 21) (a0 := (21, .inl (fun _ => 0))) F hH rfl (fun C h => by cases h) (tw_gl kw_47 rfl) rfl (fun _ => rfl) (by decide) (Nat.le_of_ble_eq_true rfl) (Nat.le_of_ble_eq_true rfl) (Nat.le_of_ble_eq_true rfl) dX8_init_39 (fun H locs ad41 w38 ha42 hw39 hne40 hH => ?_)
  have hw43 : w38 n = .inr (8, [.ref (ad4 (n + 1)), .int (0 : Int32), .ref (ad13 (n + 2)), .ref (ad22 (n + 3)), .ref (ad31 (n + 4)), .null, .int (0 : Int32), .int (0 : Int32)]) := (hne40 n (by omega)).trans (hw35)
  have ha47 : ad41 n = ad n := ((ha42 n (by omega)).trans ha37)
  refine tw_putF (r := n) F hH kf_RX8_24 kp_X8_5 hin rfl ha47 (by omega) hw43 (Nat.le_of_ble_eq_true rfl) rfl rfl dX8_init_41 (fun H locs w44 hw45 hne46 hH => ?_)
  have hw45 : w44 n = .inr (8, [.ref (ad4 (n + 1)), .int (0 : Int32), .ref (ad13 (n + 2)), .ref (ad22 (n + 3)), .ref (ad31 (n + 4)), .ref (ad41 (n + 5)), .int (0 : Int32), .int (0 : Int32)]) := hw45
  have hw48 : w44 (n + 1) = .inl (G.2.1 0, 60, .inl (fun _ => 0)) := (hne46 (n + 1) (by omega)).trans ((hne40 (n + 1) (by omega)).trans ((hne36 (n + 1) (by omega)).trans ((hne30 (n + 1) (by omega)).trans ((hne27 (n + 1) (by omega)).trans ((hne21 (n + 1) (by omega)).trans ((hne18 (n + 1) (by omega)).trans ((hne12 (n + 1) (by omega)).trans ((hne9 (n + 1) (by omega)).trans (hw2)))))))))
  have ha49 : ad41 (n + 1) = ad4 (n + 1) := ((((ha42 (n + 1) (by omega)).trans (ha32 (n + 1) (by omega))).trans (ha23 (n + 1) (by omega))).trans (ha14 (n + 1) (by omega)))
  have ha50 : ad41 (n + 2) = ad13 (n + 2) := (((ha42 (n + 2) (by omega)).trans (ha32 (n + 2) (by omega))).trans (ha23 (n + 2) (by omega)))
  have ha51 : ad41 (n + 3) = ad22 (n + 3) := ((ha42 (n + 3) (by omega)).trans (ha32 (n + 3) (by omega)))
  have ha52 : ad41 (n + 4) = ad31 (n + 4) := (ha42 (n + 4) (by omega))
  have hw53 : w44 n = .inr (8, [.ref (ad41 (n + 1)), .int (0 : Int32), .ref (ad41 (n + 2)), .ref (ad41 (n + 3)), .ref (ad41 (n + 4)), .ref (ad41 (n + 5)), .int (0 : Int32), .int (0 : Int32)]) := by rw [hw45]; rw [show ad4 (n + 1) = ad41 (n + 1) from ha49.symm, show ad13 (n + 2) = ad41 (n + 2) from ha50.symm, show ad22 (n + 3) = ad41 (n + 3) from ha51.symm, show ad31 (n + 4) = ad41 (n + 4) from ha52.symm]
  have hw54 : w44 (n + 2) = .inl (G.2.1 0, 21, .inl (fun _ => 0)) := (hne46 (n + 2) (by omega)).trans ((hne40 (n + 2) (by omega)).trans ((hne36 (n + 2) (by omega)).trans ((hne30 (n + 2) (by omega)).trans ((hne27 (n + 2) (by omega)).trans ((hne21 (n + 2) (by omega)).trans ((hne18 (n + 2) (by omega)).trans (hw11)))))))
  have hw55 : w44 (n + 3) = .inl (G.2.1 0, 21, .inl (fun _ => 0)) := (hne46 (n + 3) (by omega)).trans ((hne40 (n + 3) (by omega)).trans ((hne36 (n + 3) (by omega)).trans ((hne30 (n + 3) (by omega)).trans ((hne27 (n + 3) (by omega)).trans (hw20)))))
  have hw56 : w44 (n + 4) = .inl (G.2.1 0, 21, .inl (fun _ => 0)) := (hne46 (n + 4) (by omega)).trans ((hne40 (n + 4) (by omega)).trans ((hne36 (n + 4) (by omega)).trans (hw29)))
  have hw57 : w44 (n + 5) = .inl (G.2.1 0, 21, .inl (fun _ => 0)) := (hne46 (n + 5) (by omega)).trans (hw39)
  exact tw_nret F hH (fun k hk => ((ha42 k (by omega)).trans ((ha32 k (by omega)).trans ((ha23 k (by omega)).trans ((ha14 k (by omega)).trans (ha5 k (by omega))))))) hret hlk (Nat.le_of_ble_eq_true rfl) (Nat.le_of_ble_eq_true rfl) dX8_init_44 (⟨trivial, hw48, hw53, hw54, hw55, hw56, hw57, fun k hk => ((hne46 k (by omega)).trans ((hne40 k (by omega)).trans ((hne36 k (by omega)).trans ((hne30 k (by omega)).trans ((hne27 k (by omega)).trans ((hne21 k (by omega)).trans ((hne18 k (by omega)).trans ((hne12 k (by omega)).trans ((hne9 k (by omega)).trans (hne3 k (by omega)))))))))))⟩)
