set_option maxHeartbeats 4000000 in
set_option maxRecDepth 100000 in
theorem c_X8_init (l : Launch) (G : tw_G) (n : Nat) (ad : Nat → Nat) (w : Nat → va_E) (sz : Nat) (hw_n : w n = .inr (8, [.null, .int (0 : Int32), .null, .null, .null, .null, .int (0 : Int32), .int (0 : Int32)])) : Met l yX8_init (tw_ws yX8_init cX8_init 1 none) ({ frames := 1, cells := 5, slots := 144, locals := 20 }) (tw_Pre G (n + 1) ad w sz [.ref (ad n)]) (tw_Qn G (n + 1) 5 ad (fun u => (True ∧ u.2 (n + 1) = .inl (G.2.1 0, 60, .inl (fun _ => 0)) ∧ u.2 n = .inr (8, [.ref (u.1 (n + 1)), .int (0 : Int32), .ref (u.1 (n + 2)), .ref (u.1 (n + 3)), .ref (u.1 (n + 4)), .ref (u.1 (n + 5)), .int (0 : Int32), .int (0 : Int32)]) ∧ u.2 (n + 2) = .inl (G.2.1 0, 21, .inl (fun _ => 0)) ∧ u.2 (n + 3) = .inl (G.2.1 0, 21, .inl (fun _ => 0)) ∧ u.2 (n + 4) = .inl (G.2.1 0, 21, .inl (fun _ => 0)) ∧ u.2 (n + 5) = .inl (G.2.1 0, 21, .inl (fun _ => 0)) ∧ ∀ k, k < n → u.2 k = w k)) sz) 5 144 (tw_A (n + 1) ad sz) := by
  refine tw_met (by decide) (Nat.le_of_ble_eq_true rfl) ?_
  intro p e s m args below meth c F hret hlk hin hargs hsz hH ls hl
  have hx := F.1.1
  have hb := F.1.2.1
  have hown := F.1.2.2.2.1
  have hts := F.1.2.2.2.2
  have hl : lv_has ls 1 [(0, .ref (ad n))] := hl
  generalize hH0 : s.heap = H at hH ⊢
  refine lv_aload_n hx hb dX8_init_0 rfl (lv_at hl 0 rfl) ?_
  refine tw_objInit F (tw_gl kw_157 rfl) (tw_gl kw_32 rfl) (tw_gl kw_33 rfl) hl.1 ⟨(Nat.le_of_ble_eq_true rfl), (Nat.le_of_ble_eq_true rfl)⟩ (Nat.le_of_ble_eq_true rfl) dX8_init_1 ?_
  refine lv_aload_n hx hb dX8_init_4 rfl (lv_at hl 0 rfl) ?_
  refine lv_bipush (v := 60) hx hb dX8_init_5 (by decide) ?_
  refine tw_newa (t := 0) (atype := .int) (ty := .int) (n' := 60) (a0 := (60, .inl (fun _ => 0))) F hH rfl (fun C h => by cases h) (tw_gl kw_47 rfl) rfl (fun _ => rfl) (by decide) (Nat.le_of_ble_eq_true rfl) (Nat.le_of_ble_eq_true rfl) (Nat.le_of_ble_eq_true rfl) dX8_init_7 (fun H locs ad4 w1 ha5 hw2 hne3 hH => ?_)
  have hw6 : w1 n = .inr (8, [.null, .int (0 : Int32), .null, .null, .null, .null, .int (0 : Int32), .int (0 : Int32)]) := (hne3 n (by omega)).trans (hw_n)
  refine tw_putF (r := n) F hH kf_RX8_9 kp_X8_0 hin rfl (ha5 n (by omega)) (by omega) hw6 (Nat.le_of_ble_eq_true rfl) rfl rfl dX8_init_9 (fun H locs w7 hw8 hne9 hH => ?_)
  have hw8 : w7 n = .inr (8, [.ref (ad4 (n + 1)), .int (0 : Int32), .null, .null, .null, .null, .int (0 : Int32), .int (0 : Int32)]) := hw8
  refine lv_aload_n hx hb dX8_init_12 rfl (lv_at hl 0 rfl) ?_
  refine lv_bipush (v := 21) hx hb dX8_init_13 (by decide) ?_
  refine tw_newa (t := 0) (atype := .int) (ty := .int) (n' := 21) (a0 := (21, .inl (fun _ => 0))) F hH rfl (fun C h => by cases h) (tw_gl kw_47 rfl) rfl (fun _ => rfl) (by decide) (Nat.le_of_ble_eq_true rfl) (Nat.le_of_ble_eq_true rfl) (Nat.le_of_ble_eq_true rfl) dX8_init_15 (fun H locs ad13 w10 ha14 hw11 hne12 hH => ?_)
  have hw15 : w10 n = .inr (8, [.ref (ad4 (n + 1)), .int (0 : Int32), .null, .null, .null, .null, .int (0 : Int32), .int (0 : Int32)]) := (hne12 n (by omega)).trans (hw8)
  refine tw_putF (r := n) F hH kf_RX8_15 kp_X8_2 hin rfl ((ha14 n (by omega)).trans (ha5 n (by omega))) (by omega) hw15 (Nat.le_of_ble_eq_true rfl) rfl rfl dX8_init_17 (fun H locs w16 hw17 hne18 hH => ?_)
  have hw17 : w16 n = .inr (8, [.ref (ad4 (n + 1)), .int (0 : Int32), .ref (ad13 (n + 2)), .null, .null, .null, .int (0 : Int32), .int (0 : Int32)]) := hw17
  refine lv_aload_n hx hb dX8_init_20 rfl (lv_at hl 0 rfl) ?_
  refine lv_bipush (v := 21) hx hb dX8_init_21 (by decide) ?_
  refine tw_newa (t := 0) (atype := .int) (ty := .int) (n' := 21) (a0 := (21, .inl (fun _ => 0))) F hH rfl (fun C h => by cases h) (tw_gl kw_47 rfl) rfl (fun _ => rfl) (by decide) (Nat.le_of_ble_eq_true rfl) (Nat.le_of_ble_eq_true rfl) (Nat.le_of_ble_eq_true rfl) dX8_init_23 (fun H locs ad22 w19 ha23 hw20 hne21 hH => ?_)
  have hw24 : w19 n = .inr (8, [.ref (ad4 (n + 1)), .int (0 : Int32), .ref (ad13 (n + 2)), .null, .null, .null, .int (0 : Int32), .int (0 : Int32)]) := (hne21 n (by omega)).trans (hw17)
  refine tw_putF (r := n) F hH kf_RX8_18 kp_X8_3 hin rfl (((ha23 n (by omega)).trans (ha14 n (by omega))).trans (ha5 n (by omega))) (by omega) hw24 (Nat.le_of_ble_eq_true rfl) rfl rfl dX8_init_25 (fun H locs w25 hw26 hne27 hH => ?_)
  have hw26 : w25 n = .inr (8, [.ref (ad4 (n + 1)), .int (0 : Int32), .ref (ad13 (n + 2)), .ref (ad22 (n + 3)), .null, .null, .int (0 : Int32), .int (0 : Int32)]) := hw26
  refine lv_aload_n hx hb dX8_init_28 rfl (lv_at hl 0 rfl) ?_
  refine lv_bipush (v := 21) hx hb dX8_init_29 (by decide) ?_
  refine tw_newa (t := 0) (atype := .int) (ty := .int) (n' := 21) (a0 := (21, .inl (fun _ => 0))) F hH rfl (fun C h => by cases h) (tw_gl kw_47 rfl) rfl (fun _ => rfl) (by decide) (Nat.le_of_ble_eq_true rfl) (Nat.le_of_ble_eq_true rfl) (Nat.le_of_ble_eq_true rfl) dX8_init_31 (fun H locs ad31 w28 ha32 hw29 hne30 hH => ?_)
  have hw33 : w28 n = .inr (8, [.ref (ad4 (n + 1)), .int (0 : Int32), .ref (ad13 (n + 2)), .ref (ad22 (n + 3)), .null, .null, .int (0 : Int32), .int (0 : Int32)]) := (hne30 n (by omega)).trans (hw26)
  refine tw_putF (r := n) F hH kf_RX8_21 kp_X8_4 hin rfl ((((ha32 n (by omega)).trans (ha23 n (by omega))).trans (ha14 n (by omega))).trans (ha5 n (by omega))) (by omega) hw33 (Nat.le_of_ble_eq_true rfl) rfl rfl dX8_init_33 (fun H locs w34 hw35 hne36 hH => ?_)
  have hw35 : w34 n = .inr (8, [.ref (ad4 (n + 1)), .int (0 : Int32), .ref (ad13 (n + 2)), .ref (ad22 (n + 3)), .ref (ad31 (n + 4)), .null, .int (0 : Int32), .int (0 : Int32)]) := hw35
  refine lv_aload_n hx hb dX8_init_36 rfl (lv_at hl 0 rfl) ?_
  refine lv_bipush (v := 21) hx hb dX8_init_37 (by decide) ?_
  refine tw_newa (t := 0) (atype := .int) (ty := .int) (n' := 21) (a0 := (21, .inl (fun _ => 0))) F hH rfl (fun C h => by cases h) (tw_gl kw_47 rfl) rfl (fun _ => rfl) (by decide) (Nat.le_of_ble_eq_true rfl) (Nat.le_of_ble_eq_true rfl) (Nat.le_of_ble_eq_true rfl) dX8_init_39 (fun H locs ad40 w37 ha41 hw38 hne39 hH => ?_)
  have hw42 : w37 n = .inr (8, [.ref (ad4 (n + 1)), .int (0 : Int32), .ref (ad13 (n + 2)), .ref (ad22 (n + 3)), .ref (ad31 (n + 4)), .null, .int (0 : Int32), .int (0 : Int32)]) := (hne39 n (by omega)).trans (hw35)
  refine tw_putF (r := n) F hH kf_RX8_24 kp_X8_5 hin rfl (((((ha41 n (by omega)).trans (ha32 n (by omega))).trans (ha23 n (by omega))).trans (ha14 n (by omega))).trans (ha5 n (by omega))) (by omega) hw42 (Nat.le_of_ble_eq_true rfl) rfl rfl dX8_init_41 (fun H locs w43 hw44 hne45 hH => ?_)
  have hw44 : w43 n = .inr (8, [.ref (ad4 (n + 1)), .int (0 : Int32), .ref (ad13 (n + 2)), .ref (ad22 (n + 3)), .ref (ad31 (n + 4)), .ref (ad40 (n + 5)), .int (0 : Int32), .int (0 : Int32)]) := hw44
  have hw46 : w43 (n + 1) = .inl (G.2.1 0, 60, .inl (fun _ => 0)) := (hne45 (n + 1) (by omega)).trans ((hne39 (n + 1) (by omega)).trans ((hne36 (n + 1) (by omega)).trans ((hne30 (n + 1) (by omega)).trans ((hne27 (n + 1) (by omega)).trans ((hne21 (n + 1) (by omega)).trans ((hne18 (n + 1) (by omega)).trans ((hne12 (n + 1) (by omega)).trans ((hne9 (n + 1) (by omega)).trans (hw2)))))))))
  have hw47 : w43 n = .inr (8, [.ref (ad40 (n + 1)), .int (0 : Int32), .ref (ad40 (n + 2)), .ref (ad40 (n + 3)), .ref (ad40 (n + 4)), .ref (ad40 (n + 5)), .int (0 : Int32), .int (0 : Int32)]) := by rw [hw44]; rw [show ad4 (n + 1) = ad40 (n + 1) from ((((ha41 (n + 1) (by omega)).trans (ha32 (n + 1) (by omega))).trans (ha23 (n + 1) (by omega))).trans (ha14 (n + 1) (by omega))).symm, show ad13 (n + 2) = ad40 (n + 2) from (((ha41 (n + 2) (by omega)).trans (ha32 (n + 2) (by omega))).trans (ha23 (n + 2) (by omega))).symm, show ad22 (n + 3) = ad40 (n + 3) from ((ha41 (n + 3) (by omega)).trans (ha32 (n + 3) (by omega))).symm, show ad31 (n + 4) = ad40 (n + 4) from (ha41 (n + 4) (by omega)).symm]
  have hw48 : w43 (n + 2) = .inl (G.2.1 0, 21, .inl (fun _ => 0)) := (hne45 (n + 2) (by omega)).trans ((hne39 (n + 2) (by omega)).trans ((hne36 (n + 2) (by omega)).trans ((hne30 (n + 2) (by omega)).trans ((hne27 (n + 2) (by omega)).trans ((hne21 (n + 2) (by omega)).trans ((hne18 (n + 2) (by omega)).trans (hw11)))))))
  have hw49 : w43 (n + 3) = .inl (G.2.1 0, 21, .inl (fun _ => 0)) := (hne45 (n + 3) (by omega)).trans ((hne39 (n + 3) (by omega)).trans ((hne36 (n + 3) (by omega)).trans ((hne30 (n + 3) (by omega)).trans ((hne27 (n + 3) (by omega)).trans (hw20)))))
  have hw50 : w43 (n + 4) = .inl (G.2.1 0, 21, .inl (fun _ => 0)) := (hne45 (n + 4) (by omega)).trans ((hne39 (n + 4) (by omega)).trans ((hne36 (n + 4) (by omega)).trans (hw29)))
  have hw51 : w43 (n + 5) = .inl (G.2.1 0, 21, .inl (fun _ => 0)) := (hne45 (n + 5) (by omega)).trans (hw38)
  exact tw_nret F hH (fun k hk => ((ha41 k (by omega)).trans ((ha32 k (by omega)).trans ((ha23 k (by omega)).trans ((ha14 k (by omega)).trans (ha5 k (by omega))))))) hret hlk (Nat.le_of_ble_eq_true rfl) (Nat.le_of_ble_eq_true rfl) dX8_init_44 (⟨trivial, hw46, hw47, hw48, hw49, hw50, hw51, fun k hk => ((hne45 k (by omega)).trans ((hne39 k (by omega)).trans ((hne36 k (by omega)).trans ((hne30 k (by omega)).trans ((hne27 k (by omega)).trans ((hne21 k (by omega)).trans ((hne18 k (by omega)).trans ((hne12 k (by omega)).trans ((hne9 k (by omega)).trans (hne3 k (by omega)))))))))))⟩)
set_option maxHeartbeats 4000000 in
set_option maxRecDepth 100000 in
theorem c_X7_init (l : Launch) (G : tw_G) (n : Nat) (ad : Nat → Nat) (w : Nat → va_E) (sz : Nat) (hw_n : w n = .inr (7, [.int (0 : Int32), .int (0 : Int32), .null, .int (0 : Int32)])) : Met l yX7_init (tw_ws yX7_init cX7_init 3 none) ({ frames := 1, cells := 1, slots := 90, locals := 21 }) (tw_Pre G (n + 1) ad w sz [.ref (ad n), .int (30 : Int32), .int (3 : Int32)]) (tw_Qn G (n + 1) 1 ad (fun u => (True ∧ u.2 n = .inr (7, [.int (30 : Int32), .int (3 : Int32), .ref (u.1 (n + 1)), .int (0 : Int32)]) ∧ u.2 (n + 1) = .inl (G.2.1 0, 90, .inl (fun _ => 0)) ∧ ∀ k, k < n → u.2 k = w k)) sz) 1 90 (tw_A (n + 1) ad sz) := by
  refine tw_met (by decide) (Nat.le_of_ble_eq_true rfl) ?_
  intro p e s m args below meth c F hret hlk hin hargs hsz hH ls hl
  have hx := F.1.1
  have hb := F.1.2.1
  have hown := F.1.2.2.2.1
  have hts := F.1.2.2.2.2
  have hl : lv_has ls 3 [(0, .ref (ad n)), (1, .int (30 : Int32)), (2, .int (3 : Int32))] := hl
  generalize hH0 : s.heap = H at hH ⊢
  refine lv_aload_n hx hb dX7_init_0 rfl (lv_at hl 0 rfl) ?_
  refine tw_objInit F (tw_gl kw_59 rfl) (tw_gl kw_32 rfl) (tw_gl kw_33 rfl) hl.1 ⟨(Nat.le_of_ble_eq_true rfl), (Nat.le_of_ble_eq_true rfl)⟩ (Nat.le_of_ble_eq_true rfl) dX7_init_1 ?_
  refine lv_aload_n hx hb dX7_init_4 rfl (lv_at hl 0 rfl) ?_
  refine lv_iload_n hx hb dX7_init_5 rfl (lv_at hl 1 rfl) ?_
  refine tw_putF (r := n) F hH kf_RX7_9 kp_X7_0 hin rfl rfl (by omega) hw_n (Nat.le_of_ble_eq_true rfl) rfl rfl dX7_init_6 (fun H locs w1 hw2 hne3 hH => ?_)
  have hw2 : w1 n = .inr (7, [.int (30 : Int32), .int (0 : Int32), .null, .int (0 : Int32)]) := hw2
  refine lv_aload_n hx hb dX7_init_9 rfl (lv_at hl 0 rfl) ?_
  refine lv_iload_n hx hb dX7_init_10 rfl (lv_at hl 2 rfl) ?_
  refine tw_putF (r := n) F hH kf_RX7_15 kp_X7_1 hin rfl rfl (by omega) hw2 (Nat.le_of_ble_eq_true rfl) rfl rfl dX7_init_11 (fun H locs w4 hw5 hne6 hH => ?_)
  have hw5 : w4 n = .inr (7, [.int (30 : Int32), .int (3 : Int32), .null, .int (0 : Int32)]) := hw5
  refine lv_aload_n hx hb dX7_init_14 rfl (lv_at hl 0 rfl) ?_
  refine lv_iconst (v := 0) hx hb dX7_init_15 (by decide) ?_
  refine lv_iload_n hx hb dX7_init_16 rfl (lv_at hl 1 rfl) ?_
  refine lv_iload_n hx hb dX7_init_17 rfl (lv_at hl 2 rfl) ?_
  refine lv_imul hx hb dX7_init_18 ?_
  refine tw_cv (v := (90 : Int32)) (by decide) ?_
  refine va_mmax hx hb (F.1.2.2.1.trans hl.1.symm) hown (hts _ (tw_gl kw_60 rfl)) (hts _ (tw_gl kw_61 rfl)) (hts _ (tw_gl kw_5 rfl)) (hts _ (tw_gl kw_62 rfl)) (Nat.le_of_ble_eq_true rfl) (Nat.le_of_ble_eq_true rfl) (Nat.le_of_ble_eq_true rfl) (Nat.le_of_ble_eq_true rfl) dX7_init_19 ?_
  refine tw_cv (v := (90 : Int32)) (by decide) ?_
  refine tw_newa (t := 0) (atype := .int) (ty := .int) (n' := 90) (a0 := (90, .inl (fun _ => 0))) F hH rfl (fun C h => by cases h) (tw_gl kw_47 rfl) rfl (fun _ => rfl) (by decide) (Nat.le_of_ble_eq_true rfl) (Nat.le_of_ble_eq_true rfl) (Nat.le_of_ble_eq_true rfl) dX7_init_22 (fun H locs ad10 w7 ha11 hw8 hne9 hH => ?_)
  have hw12 : w7 n = .inr (7, [.int (30 : Int32), .int (3 : Int32), .null, .int (0 : Int32)]) := (hne9 n (by omega)).trans (hw5)
  refine tw_putF (r := n) F hH kf_RX7_24 kp_X7_2 hin rfl (ha11 n (by omega)) (by omega) hw12 (Nat.le_of_ble_eq_true rfl) rfl rfl dX7_init_24 (fun H locs w13 hw14 hne15 hH => ?_)
  have hw14 : w13 n = .inr (7, [.int (30 : Int32), .int (3 : Int32), .ref (ad10 (n + 1)), .int (0 : Int32)]) := hw14
  have hw16 : w13 (n + 1) = .inl (G.2.1 0, 90, .inl (fun _ => 0)) := (hne15 (n + 1) (by omega)).trans (hw8)
  exact tw_nret F hH (fun k hk => (ha11 k (by omega))) hret hlk (Nat.le_of_ble_eq_true rfl) (Nat.le_of_ble_eq_true rfl) dX7_init_27 (⟨trivial, hw14, hw16, fun k hk => ((hne15 k (by omega)).trans ((hne9 k (by omega)).trans ((hne6 k (by omega)).trans (hne3 k (by omega)))))⟩)
set_option maxHeartbeats 4000000 in
set_option maxRecDepth 100000 in
theorem c_X11_isIndex (l : Launch) (G : tw_G) (N : Nat) (ad : Nat → Nat) (w : Nat → va_E) (sz : Nat) (x0 : Int32) (z0 : Int) (e0 : x0.toInt = z0) (x1 : Int32) (z1 : Int) (e1 : x1.toInt = z1) : Met l yX11_isIndex (tw_ws yX11_isIndex cX11_isIndex 2 (some .boolean)) ({ frames := 0, cells := 0, slots := 0, locals := 0 }) (tw_Pre G N ad w sz [.int x0, .int x1]) (tw_Qi G N ad (fun r w1 => ((0 : Int32) = r ∧ (((z0 < 0)) ∨ ((¬ (z0 < 0)) ∧ (z1 ≤ z0))) ∧ w = w1) ∨ ((1 : Int32) = r ∧ ((¬ (z0 < 0)) ∧ (¬ (z1 ≤ z0))) ∧ w = w1)) sz) 0 0 (tw_A N ad sz) := by
  refine tw_met (by decide) (Nat.le_of_ble_eq_true rfl) ?_
  intro p e s m args below meth c F hret hlk hin hargs hsz hH ls hl
  have hx := F.1.1
  have hb := F.1.2.1
  have hown := F.1.2.2.2.1
  have hts := F.1.2.2.2.2
  have hl : lv_has ls 2 [(0, .int x0), (1, .int x1)] := hl
  generalize hH0 : s.heap = H at hH ⊢
  refine lv_iload_n hx hb dX11_isIndex_0 rfl (lv_at hl 0 rfl) ?_
  refine lv_if_lt (tgt := 13) hx hb dX11_isIndex_1 (by decide) (fun c1 => ?_) (fun c1 => ?_)
  · have c1 := (tw_lt e0 (by decide : (0 : Int32).toInt = 0)).mp c1
    refine lv_iconst (v := 0) hx hb dX11_isIndex_13 (by decide) ?_
    exact tw_iret F hH hret hlk rfl (Nat.le_of_ble_eq_true rfl) (Nat.le_of_ble_eq_true rfl) dX11_isIndex_14 (Or.inl (⟨rfl, (by omega), rfl⟩))
  · have c1 := mt (tw_lt e0 (by decide : (0 : Int32).toInt = 0)).mpr c1
    refine lv_iload_n hx hb dX11_isIndex_4 rfl (lv_at hl 0 rfl) ?_
    refine lv_iload_n hx hb dX11_isIndex_5 rfl (lv_at hl 1 rfl) ?_
    refine lv_icmp_ge (tgt := 13) hx hb dX11_isIndex_6 (by decide) (fun c2 => ?_) (fun c2 => ?_)
    · have c2 := (tw_le e1 e0).mp c2
      refine lv_iconst (v := 0) hx hb dX11_isIndex_13 (by decide) ?_
      exact tw_iret F hH hret hlk rfl (Nat.le_of_ble_eq_true rfl) (Nat.le_of_ble_eq_true rfl) dX11_isIndex_14 (Or.inl (⟨rfl, (by omega), rfl⟩))
    · have c2 := mt (tw_le e1 e0).mpr c2
      refine lv_iconst (v := 1) hx hb dX11_isIndex_9 (by decide) ?_
      refine lv_goto (tgt := 14) hx hb dX11_isIndex_10 (by decide) ?_
      exact tw_iret F hH hret hlk rfl (Nat.le_of_ble_eq_true rfl) (Nat.le_of_ble_eq_true rfl) dX11_isIndex_14 (Or.inr (⟨rfl, (by omega), rfl⟩))
set_option maxHeartbeats 4000000 in
set_option maxRecDepth 100000 in
theorem c_X12_in (l : Launch) (G : tw_G) (N : Nat) (ad : Nat → Nat) (w : Nat → va_E) (sz : Nat) (x0 : Int64) (z0 : Int) (e0 : x0.toInt = z0) (x1 : Int64) (z1 : Int) (e1 : x1.toInt = z1) (x2 : Int64) (z2 : Int) (e2 : x2.toInt = z2) : Met l yX12_in (tw_ws yX12_in cX12_in 6 (some .boolean)) ({ frames := 0, cells := 0, slots := 0, locals := 0 }) (tw_Pre G N ad w sz [.long x0, .long x1, .long x2]) (tw_Qi G N ad (fun r w1 => ((0 : Int32) = r ∧ (((z0 < z1)) ∨ ((¬ (z0 < z1)) ∧ (z2 < z0))) ∧ w = w1) ∨ ((1 : Int32) = r ∧ ((¬ (z0 < z1)) ∧ (¬ (z2 < z0))) ∧ w = w1)) sz) 0 0 (tw_A N ad sz) := by
  refine tw_met (by decide) (Nat.le_of_ble_eq_true rfl) ?_
  intro p e s m args below meth c F hret hlk hin hargs hsz hH ls hl
  have hx := F.1.1
  have hb := F.1.2.1
  have hown := F.1.2.2.2.1
  have hts := F.1.2.2.2.2
  have hl : lv_has ls 6 [(0, .long x0), (2, .long x1), (4, .long x2)] := hl
  generalize hH0 : s.heap = H at hH ⊢
  refine lv_lload_n hx hb dX12_in_0 rfl (lv_at hl 0 rfl) ?_
  refine lv_lload_n hx hb dX12_in_1 rfl (lv_at hl 1 rfl) ?_
  refine W.lcmp hx hb dX12_in_2 ?_
  refine lv_if_lt (tgt := 17) hx hb dX12_in_3 (by decide) (fun c1 => ?_) (fun c1 => ?_)
  · have c1 := (tw_ltL e0 e1).mp c1
    refine lv_iconst (v := 0) hx hb dX12_in_17 (by decide) ?_
    exact tw_iret F hH hret hlk rfl (Nat.le_of_ble_eq_true rfl) (Nat.le_of_ble_eq_true rfl) dX12_in_18 (Or.inl (⟨rfl, (by omega), rfl⟩))
  · have c1 := mt (tw_ltL e0 e1).mpr c1
    refine lv_lload_n hx hb dX12_in_6 rfl (lv_at hl 0 rfl) ?_
    refine lv_lload hx hb dX12_in_7 (lv_at hl 2 rfl) ?_
    refine W.lcmp hx hb dX12_in_9 ?_
    refine lv_if_gt (tgt := 17) hx hb dX12_in_10 (by decide) (fun c2 => ?_) (fun c2 => ?_)
    · have c2 := (tw_gtL e0 e2).mp c2
      refine lv_iconst (v := 0) hx hb dX12_in_17 (by decide) ?_
      exact tw_iret F hH hret hlk rfl (Nat.le_of_ble_eq_true rfl) (Nat.le_of_ble_eq_true rfl) dX12_in_18 (Or.inl (⟨rfl, (by omega), rfl⟩))
    · have c2 := mt (tw_gtL e0 e2).mpr c2
      refine lv_iconst (v := 1) hx hb dX12_in_13 (by decide) ?_
      refine lv_goto (tgt := 18) hx hb dX12_in_14 (by decide) ?_
      exact tw_iret F hH hret hlk rfl (Nat.le_of_ble_eq_true rfl) (Nat.le_of_ble_eq_true rfl) dX12_in_18 (Or.inr (⟨rfl, (by omega), rfl⟩))
set_option maxHeartbeats 4000000 in
set_option maxRecDepth 100000 in
theorem c_X7_init_v2 (l : Launch) (G : tw_G) (n : Nat) (ad : Nat → Nat) (w : Nat → va_E) (sz : Nat) (hw_n : w n = .inr (7, [.int (0 : Int32), .int (0 : Int32), .null, .int (0 : Int32)])) : Met l yX7_init (tw_ws yX7_init cX7_init 3 none) ({ frames := 1, cells := 1, slots := 8, locals := 21 }) (tw_Pre G (n + 1) ad w sz [.ref (ad n), .int (4 : Int32), .int (2 : Int32)]) (tw_Qn G (n + 1) 1 ad (fun u => (True ∧ u.2 n = .inr (7, [.int (4 : Int32), .int (2 : Int32), .ref (u.1 (n + 1)), .int (0 : Int32)]) ∧ u.2 (n + 1) = .inl (G.2.1 0, 8, .inl (fun _ => 0)) ∧ ∀ k, k < n → u.2 k = w k)) sz) 1 8 (tw_A (n + 1) ad sz) := by
  refine tw_met (by decide) (Nat.le_of_ble_eq_true rfl) ?_
  intro p e s m args below meth c F hret hlk hin hargs hsz hH ls hl
  have hx := F.1.1
  have hb := F.1.2.1
  have hown := F.1.2.2.2.1
  have hts := F.1.2.2.2.2
  have hl : lv_has ls 3 [(0, .ref (ad n)), (1, .int (4 : Int32)), (2, .int (2 : Int32))] := hl
  generalize hH0 : s.heap = H at hH ⊢
  refine lv_aload_n hx hb dX7_init_0 rfl (lv_at hl 0 rfl) ?_
  refine tw_objInit F (tw_gl kw_59 rfl) (tw_gl kw_32 rfl) (tw_gl kw_33 rfl) hl.1 ⟨(Nat.le_of_ble_eq_true rfl), (Nat.le_of_ble_eq_true rfl)⟩ (Nat.le_of_ble_eq_true rfl) dX7_init_1 ?_
  refine lv_aload_n hx hb dX7_init_4 rfl (lv_at hl 0 rfl) ?_
  refine lv_iload_n hx hb dX7_init_5 rfl (lv_at hl 1 rfl) ?_
  refine tw_putF (r := n) F hH kf_RX7_9 kp_X7_0 hin rfl rfl (by omega) hw_n (Nat.le_of_ble_eq_true rfl) rfl rfl dX7_init_6 (fun H locs w1 hw2 hne3 hH => ?_)
  have hw2 : w1 n = .inr (7, [.int (4 : Int32), .int (0 : Int32), .null, .int (0 : Int32)]) := hw2
  refine lv_aload_n hx hb dX7_init_9 rfl (lv_at hl 0 rfl) ?_
  refine lv_iload_n hx hb dX7_init_10 rfl (lv_at hl 2 rfl) ?_
  refine tw_putF (r := n) F hH kf_RX7_15 kp_X7_1 hin rfl rfl (by omega) hw2 (Nat.le_of_ble_eq_true rfl) rfl rfl dX7_init_11 (fun H locs w4 hw5 hne6 hH => ?_)
  have hw5 : w4 n = .inr (7, [.int (4 : Int32), .int (2 : Int32), .null, .int (0 : Int32)]) := hw5
  refine lv_aload_n hx hb dX7_init_14 rfl (lv_at hl 0 rfl) ?_
  refine lv_iconst (v := 0) hx hb dX7_init_15 (by decide) ?_
  refine lv_iload_n hx hb dX7_init_16 rfl (lv_at hl 1 rfl) ?_
  refine lv_iload_n hx hb dX7_init_17 rfl (lv_at hl 2 rfl) ?_
  refine lv_imul hx hb dX7_init_18 ?_
  refine tw_cv (v := (8 : Int32)) (by decide) ?_
  refine va_mmax hx hb (F.1.2.2.1.trans hl.1.symm) hown (hts _ (tw_gl kw_60 rfl)) (hts _ (tw_gl kw_61 rfl)) (hts _ (tw_gl kw_5 rfl)) (hts _ (tw_gl kw_62 rfl)) (Nat.le_of_ble_eq_true rfl) (Nat.le_of_ble_eq_true rfl) (Nat.le_of_ble_eq_true rfl) (Nat.le_of_ble_eq_true rfl) dX7_init_19 ?_
  refine tw_cv (v := (8 : Int32)) (by decide) ?_
  refine tw_newa (t := 0) (atype := .int) (ty := .int) (n' := 8) (a0 := (8, .inl (fun _ => 0))) F hH rfl (fun C h => by cases h) (tw_gl kw_47 rfl) rfl (fun _ => rfl) (by decide) (Nat.le_of_ble_eq_true rfl) (Nat.le_of_ble_eq_true rfl) (Nat.le_of_ble_eq_true rfl) dX7_init_22 (fun H locs ad10 w7 ha11 hw8 hne9 hH => ?_)
  have hw12 : w7 n = .inr (7, [.int (4 : Int32), .int (2 : Int32), .null, .int (0 : Int32)]) := (hne9 n (by omega)).trans (hw5)
  refine tw_putF (r := n) F hH kf_RX7_24 kp_X7_2 hin rfl (ha11 n (by omega)) (by omega) hw12 (Nat.le_of_ble_eq_true rfl) rfl rfl dX7_init_24 (fun H locs w13 hw14 hne15 hH => ?_)
  have hw14 : w13 n = .inr (7, [.int (4 : Int32), .int (2 : Int32), .ref (ad10 (n + 1)), .int (0 : Int32)]) := hw14
  have hw16 : w13 (n + 1) = .inl (G.2.1 0, 8, .inl (fun _ => 0)) := (hne15 (n + 1) (by omega)).trans (hw8)
  exact tw_nret F hH (fun k hk => (ha11 k (by omega))) hret hlk (Nat.le_of_ble_eq_true rfl) (Nat.le_of_ble_eq_true rfl) dX7_init_27 (⟨trivial, hw14, hw16, fun k hk => ((hne15 k (by omega)).trans ((hne9 k (by omega)).trans ((hne6 k (by omega)).trans (hne3 k (by omega)))))⟩)
set_option maxHeartbeats 4000000 in
set_option maxRecDepth 100000 in
theorem c_X7_init_v3 (l : Launch) (G : tw_G) (n : Nat) (ad : Nat → Nat) (w : Nat → va_E) (sz : Nat) (hw_n : w n = .inr (7, [.int (0 : Int32), .int (0 : Int32), .null, .int (0 : Int32)])) : Met l yX7_init (tw_ws yX7_init cX7_init 3 none) ({ frames := 1, cells := 1, slots := 36, locals := 21 }) (tw_Pre G (n + 1) ad w sz [.ref (ad n), .int (12 : Int32), .int (3 : Int32)]) (tw_Qn G (n + 1) 1 ad (fun u => (True ∧ u.2 n = .inr (7, [.int (12 : Int32), .int (3 : Int32), .ref (u.1 (n + 1)), .int (0 : Int32)]) ∧ u.2 (n + 1) = .inl (G.2.1 0, 36, .inl (fun _ => 0)) ∧ ∀ k, k < n → u.2 k = w k)) sz) 1 36 (tw_A (n + 1) ad sz) := by
  refine tw_met (by decide) (Nat.le_of_ble_eq_true rfl) ?_
  intro p e s m args below meth c F hret hlk hin hargs hsz hH ls hl
  have hx := F.1.1
  have hb := F.1.2.1
  have hown := F.1.2.2.2.1
  have hts := F.1.2.2.2.2
  have hl : lv_has ls 3 [(0, .ref (ad n)), (1, .int (12 : Int32)), (2, .int (3 : Int32))] := hl
  generalize hH0 : s.heap = H at hH ⊢
  refine lv_aload_n hx hb dX7_init_0 rfl (lv_at hl 0 rfl) ?_
  refine tw_objInit F (tw_gl kw_59 rfl) (tw_gl kw_32 rfl) (tw_gl kw_33 rfl) hl.1 ⟨(Nat.le_of_ble_eq_true rfl), (Nat.le_of_ble_eq_true rfl)⟩ (Nat.le_of_ble_eq_true rfl) dX7_init_1 ?_
  refine lv_aload_n hx hb dX7_init_4 rfl (lv_at hl 0 rfl) ?_
  refine lv_iload_n hx hb dX7_init_5 rfl (lv_at hl 1 rfl) ?_
  refine tw_putF (r := n) F hH kf_RX7_9 kp_X7_0 hin rfl rfl (by omega) hw_n (Nat.le_of_ble_eq_true rfl) rfl rfl dX7_init_6 (fun H locs w1 hw2 hne3 hH => ?_)
  have hw2 : w1 n = .inr (7, [.int (12 : Int32), .int (0 : Int32), .null, .int (0 : Int32)]) := hw2
  refine lv_aload_n hx hb dX7_init_9 rfl (lv_at hl 0 rfl) ?_
  refine lv_iload_n hx hb dX7_init_10 rfl (lv_at hl 2 rfl) ?_
  refine tw_putF (r := n) F hH kf_RX7_15 kp_X7_1 hin rfl rfl (by omega) hw2 (Nat.le_of_ble_eq_true rfl) rfl rfl dX7_init_11 (fun H locs w4 hw5 hne6 hH => ?_)
  have hw5 : w4 n = .inr (7, [.int (12 : Int32), .int (3 : Int32), .null, .int (0 : Int32)]) := hw5
  refine lv_aload_n hx hb dX7_init_14 rfl (lv_at hl 0 rfl) ?_
  refine lv_iconst (v := 0) hx hb dX7_init_15 (by decide) ?_
  refine lv_iload_n hx hb dX7_init_16 rfl (lv_at hl 1 rfl) ?_
  refine lv_iload_n hx hb dX7_init_17 rfl (lv_at hl 2 rfl) ?_
  refine lv_imul hx hb dX7_init_18 ?_
  refine tw_cv (v := (36 : Int32)) (by decide) ?_
  refine va_mmax hx hb (F.1.2.2.1.trans hl.1.symm) hown (hts _ (tw_gl kw_60 rfl)) (hts _ (tw_gl kw_61 rfl)) (hts _ (tw_gl kw_5 rfl)) (hts _ (tw_gl kw_62 rfl)) (Nat.le_of_ble_eq_true rfl) (Nat.le_of_ble_eq_true rfl) (Nat.le_of_ble_eq_true rfl) (Nat.le_of_ble_eq_true rfl) dX7_init_19 ?_
  refine tw_cv (v := (36 : Int32)) (by decide) ?_
  refine tw_newa (t := 0) (atype := .int) (ty := .int) (n' := 36) (a0 := (36, .inl (fun _ => 0))) F hH rfl (fun C h => by cases h) (tw_gl kw_47 rfl) rfl (fun _ => rfl) (by decide) (Nat.le_of_ble_eq_true rfl) (Nat.le_of_ble_eq_true rfl) (Nat.le_of_ble_eq_true rfl) dX7_init_22 (fun H locs ad10 w7 ha11 hw8 hne9 hH => ?_)
  have hw12 : w7 n = .inr (7, [.int (12 : Int32), .int (3 : Int32), .null, .int (0 : Int32)]) := (hne9 n (by omega)).trans (hw5)
  refine tw_putF (r := n) F hH kf_RX7_24 kp_X7_2 hin rfl (ha11 n (by omega)) (by omega) hw12 (Nat.le_of_ble_eq_true rfl) rfl rfl dX7_init_24 (fun H locs w13 hw14 hne15 hH => ?_)
  have hw14 : w13 n = .inr (7, [.int (12 : Int32), .int (3 : Int32), .ref (ad10 (n + 1)), .int (0 : Int32)]) := hw14
  have hw16 : w13 (n + 1) = .inl (G.2.1 0, 36, .inl (fun _ => 0)) := (hne15 (n + 1) (by omega)).trans (hw8)
  exact tw_nret F hH (fun k hk => (ha11 k (by omega))) hret hlk (Nat.le_of_ble_eq_true rfl) (Nat.le_of_ble_eq_true rfl) dX7_init_27 (⟨trivial, hw14, hw16, fun k hk => ((hne15 k (by omega)).trans ((hne9 k (by omega)).trans ((hne6 k (by omega)).trans (hne3 k (by omega)))))⟩)
set_option maxHeartbeats 4000000 in
set_option maxRecDepth 100000 in
theorem c_X7_init_v4 (l : Launch) (G : tw_G) (n : Nat) (ad : Nat → Nat) (w : Nat → va_E) (sz : Nat) (hw_n : w n = .inr (7, [.int (0 : Int32), .int (0 : Int32), .null, .int (0 : Int32)])) : Met l yX7_init (tw_ws yX7_init cX7_init 3 none) ({ frames := 1, cells := 1, slots := 15, locals := 21 }) (tw_Pre G (n + 1) ad w sz [.ref (ad n), .int (5 : Int32), .int (3 : Int32)]) (tw_Qn G (n + 1) 1 ad (fun u => (True ∧ u.2 n = .inr (7, [.int (5 : Int32), .int (3 : Int32), .ref (u.1 (n + 1)), .int (0 : Int32)]) ∧ u.2 (n + 1) = .inl (G.2.1 0, 15, .inl (fun _ => 0)) ∧ ∀ k, k < n → u.2 k = w k)) sz) 1 15 (tw_A (n + 1) ad sz) := by
  refine tw_met (by decide) (Nat.le_of_ble_eq_true rfl) ?_
  intro p e s m args below meth c F hret hlk hin hargs hsz hH ls hl
  have hx := F.1.1
  have hb := F.1.2.1
  have hown := F.1.2.2.2.1
  have hts := F.1.2.2.2.2
  have hl : lv_has ls 3 [(0, .ref (ad n)), (1, .int (5 : Int32)), (2, .int (3 : Int32))] := hl
  generalize hH0 : s.heap = H at hH ⊢
  refine lv_aload_n hx hb dX7_init_0 rfl (lv_at hl 0 rfl) ?_
  refine tw_objInit F (tw_gl kw_59 rfl) (tw_gl kw_32 rfl) (tw_gl kw_33 rfl) hl.1 ⟨(Nat.le_of_ble_eq_true rfl), (Nat.le_of_ble_eq_true rfl)⟩ (Nat.le_of_ble_eq_true rfl) dX7_init_1 ?_
  refine lv_aload_n hx hb dX7_init_4 rfl (lv_at hl 0 rfl) ?_
  refine lv_iload_n hx hb dX7_init_5 rfl (lv_at hl 1 rfl) ?_
  refine tw_putF (r := n) F hH kf_RX7_9 kp_X7_0 hin rfl rfl (by omega) hw_n (Nat.le_of_ble_eq_true rfl) rfl rfl dX7_init_6 (fun H locs w1 hw2 hne3 hH => ?_)
  have hw2 : w1 n = .inr (7, [.int (5 : Int32), .int (0 : Int32), .null, .int (0 : Int32)]) := hw2
  refine lv_aload_n hx hb dX7_init_9 rfl (lv_at hl 0 rfl) ?_
  refine lv_iload_n hx hb dX7_init_10 rfl (lv_at hl 2 rfl) ?_
  refine tw_putF (r := n) F hH kf_RX7_15 kp_X7_1 hin rfl rfl (by omega) hw2 (Nat.le_of_ble_eq_true rfl) rfl rfl dX7_init_11 (fun H locs w4 hw5 hne6 hH => ?_)
  have hw5 : w4 n = .inr (7, [.int (5 : Int32), .int (3 : Int32), .null, .int (0 : Int32)]) := hw5
  refine lv_aload_n hx hb dX7_init_14 rfl (lv_at hl 0 rfl) ?_
  refine lv_iconst (v := 0) hx hb dX7_init_15 (by decide) ?_
  refine lv_iload_n hx hb dX7_init_16 rfl (lv_at hl 1 rfl) ?_
  refine lv_iload_n hx hb dX7_init_17 rfl (lv_at hl 2 rfl) ?_
  refine lv_imul hx hb dX7_init_18 ?_
  refine tw_cv (v := (15 : Int32)) (by decide) ?_
  refine va_mmax hx hb (F.1.2.2.1.trans hl.1.symm) hown (hts _ (tw_gl kw_60 rfl)) (hts _ (tw_gl kw_61 rfl)) (hts _ (tw_gl kw_5 rfl)) (hts _ (tw_gl kw_62 rfl)) (Nat.le_of_ble_eq_true rfl) (Nat.le_of_ble_eq_true rfl) (Nat.le_of_ble_eq_true rfl) (Nat.le_of_ble_eq_true rfl) dX7_init_19 ?_
  refine tw_cv (v := (15 : Int32)) (by decide) ?_
  refine tw_newa (t := 0) (atype := .int) (ty := .int) (n' := 15) (a0 := (15, .inl (fun _ => 0))) F hH rfl (fun C h => by cases h) (tw_gl kw_47 rfl) rfl (fun _ => rfl) (by decide) (Nat.le_of_ble_eq_true rfl) (Nat.le_of_ble_eq_true rfl) (Nat.le_of_ble_eq_true rfl) dX7_init_22 (fun H locs ad10 w7 ha11 hw8 hne9 hH => ?_)
  have hw12 : w7 n = .inr (7, [.int (5 : Int32), .int (3 : Int32), .null, .int (0 : Int32)]) := (hne9 n (by omega)).trans (hw5)
  refine tw_putF (r := n) F hH kf_RX7_24 kp_X7_2 hin rfl (ha11 n (by omega)) (by omega) hw12 (Nat.le_of_ble_eq_true rfl) rfl rfl dX7_init_24 (fun H locs w13 hw14 hne15 hH => ?_)
  have hw14 : w13 n = .inr (7, [.int (5 : Int32), .int (3 : Int32), .ref (ad10 (n + 1)), .int (0 : Int32)]) := hw14
  have hw16 : w13 (n + 1) = .inl (G.2.1 0, 15, .inl (fun _ => 0)) := (hne15 (n + 1) (by omega)).trans (hw8)
  exact tw_nret F hH (fun k hk => (ha11 k (by omega))) hret hlk (Nat.le_of_ble_eq_true rfl) (Nat.le_of_ble_eq_true rfl) dX7_init_27 (⟨trivial, hw14, hw16, fun k hk => ((hne15 k (by omega)).trans ((hne9 k (by omega)).trans ((hne6 k (by omega)).trans (hne3 k (by omega)))))⟩)
set_option maxHeartbeats 4000000 in
set_option maxRecDepth 100000 in
theorem c_X7_init_v5 (l : Launch) (G : tw_G) (n : Nat) (ad : Nat → Nat) (w : Nat → va_E) (sz : Nat) (hw_n : w n = .inr (7, [.int (0 : Int32), .int (0 : Int32), .null, .int (0 : Int32)])) : Met l yX7_init (tw_ws yX7_init cX7_init 3 none) ({ frames := 1, cells := 1, slots := 6, locals := 21 }) (tw_Pre G (n + 1) ad w sz [.ref (ad n), .int (2 : Int32), .int (3 : Int32)]) (tw_Qn G (n + 1) 1 ad (fun u => (True ∧ u.2 n = .inr (7, [.int (2 : Int32), .int (3 : Int32), .ref (u.1 (n + 1)), .int (0 : Int32)]) ∧ u.2 (n + 1) = .inl (G.2.1 0, 6, .inl (fun _ => 0)) ∧ ∀ k, k < n → u.2 k = w k)) sz) 1 6 (tw_A (n + 1) ad sz) := by
  refine tw_met (by decide) (Nat.le_of_ble_eq_true rfl) ?_
  intro p e s m args below meth c F hret hlk hin hargs hsz hH ls hl
  have hx := F.1.1
  have hb := F.1.2.1
  have hown := F.1.2.2.2.1
  have hts := F.1.2.2.2.2
  have hl : lv_has ls 3 [(0, .ref (ad n)), (1, .int (2 : Int32)), (2, .int (3 : Int32))] := hl
  generalize hH0 : s.heap = H at hH ⊢
  refine lv_aload_n hx hb dX7_init_0 rfl (lv_at hl 0 rfl) ?_
  refine tw_objInit F (tw_gl kw_59 rfl) (tw_gl kw_32 rfl) (tw_gl kw_33 rfl) hl.1 ⟨(Nat.le_of_ble_eq_true rfl), (Nat.le_of_ble_eq_true rfl)⟩ (Nat.le_of_ble_eq_true rfl) dX7_init_1 ?_
  refine lv_aload_n hx hb dX7_init_4 rfl (lv_at hl 0 rfl) ?_
  refine lv_iload_n hx hb dX7_init_5 rfl (lv_at hl 1 rfl) ?_
  refine tw_putF (r := n) F hH kf_RX7_9 kp_X7_0 hin rfl rfl (by omega) hw_n (Nat.le_of_ble_eq_true rfl) rfl rfl dX7_init_6 (fun H locs w1 hw2 hne3 hH => ?_)
  have hw2 : w1 n = .inr (7, [.int (2 : Int32), .int (0 : Int32), .null, .int (0 : Int32)]) := hw2
  refine lv_aload_n hx hb dX7_init_9 rfl (lv_at hl 0 rfl) ?_
  refine lv_iload_n hx hb dX7_init_10 rfl (lv_at hl 2 rfl) ?_
  refine tw_putF (r := n) F hH kf_RX7_15 kp_X7_1 hin rfl rfl (by omega) hw2 (Nat.le_of_ble_eq_true rfl) rfl rfl dX7_init_11 (fun H locs w4 hw5 hne6 hH => ?_)
  have hw5 : w4 n = .inr (7, [.int (2 : Int32), .int (3 : Int32), .null, .int (0 : Int32)]) := hw5
  refine lv_aload_n hx hb dX7_init_14 rfl (lv_at hl 0 rfl) ?_
  refine lv_iconst (v := 0) hx hb dX7_init_15 (by decide) ?_
  refine lv_iload_n hx hb dX7_init_16 rfl (lv_at hl 1 rfl) ?_
  refine lv_iload_n hx hb dX7_init_17 rfl (lv_at hl 2 rfl) ?_
  refine lv_imul hx hb dX7_init_18 ?_
  refine tw_cv (v := (6 : Int32)) (by decide) ?_
  refine va_mmax hx hb (F.1.2.2.1.trans hl.1.symm) hown (hts _ (tw_gl kw_60 rfl)) (hts _ (tw_gl kw_61 rfl)) (hts _ (tw_gl kw_5 rfl)) (hts _ (tw_gl kw_62 rfl)) (Nat.le_of_ble_eq_true rfl) (Nat.le_of_ble_eq_true rfl) (Nat.le_of_ble_eq_true rfl) (Nat.le_of_ble_eq_true rfl) dX7_init_19 ?_
  refine tw_cv (v := (6 : Int32)) (by decide) ?_
  refine tw_newa (t := 0) (atype := .int) (ty := .int) (n' := 6) (a0 := (6, .inl (fun _ => 0))) F hH rfl (fun C h => by cases h) (tw_gl kw_47 rfl) rfl (fun _ => rfl) (by decide) (Nat.le_of_ble_eq_true rfl) (Nat.le_of_ble_eq_true rfl) (Nat.le_of_ble_eq_true rfl) dX7_init_22 (fun H locs ad10 w7 ha11 hw8 hne9 hH => ?_)
  have hw12 : w7 n = .inr (7, [.int (2 : Int32), .int (3 : Int32), .null, .int (0 : Int32)]) := (hne9 n (by omega)).trans (hw5)
  refine tw_putF (r := n) F hH kf_RX7_24 kp_X7_2 hin rfl (ha11 n (by omega)) (by omega) hw12 (Nat.le_of_ble_eq_true rfl) rfl rfl dX7_init_24 (fun H locs w13 hw14 hne15 hH => ?_)
  have hw14 : w13 n = .inr (7, [.int (2 : Int32), .int (3 : Int32), .ref (ad10 (n + 1)), .int (0 : Int32)]) := hw14
  have hw16 : w13 (n + 1) = .inl (G.2.1 0, 6, .inl (fun _ => 0)) := (hne15 (n + 1) (by omega)).trans (hw8)
  exact tw_nret F hH (fun k hk => (ha11 k (by omega))) hret hlk (Nat.le_of_ble_eq_true rfl) (Nat.le_of_ble_eq_true rfl) dX7_init_27 (⟨trivial, hw14, hw16, fun k hk => ((hne15 k (by omega)).trans ((hne9 k (by omega)).trans ((hne6 k (by omega)).trans (hne3 k (by omega)))))⟩)
set_option maxHeartbeats 4000000 in
set_option maxRecDepth 100000 in
theorem c_X1_init (l : Launch) (G : tw_G) (n : Nat) (ad : Nat → Nat) (w : Nat → va_E) (sz : Nat) (hw_n : w n = .inr (1, [.int (0 : Int32), .int (0 : Int32), .int (0 : Int32), .int (0 : Int32), .int (0 : Int32), .int (0 : Int32), .null, .null, .null, .null, .null, .null, .int (0 : Int32), .int (0 : Int32)])) : Met l yX1_init (tw_ws yX1_init cX1_init 1 none) ({ frames := 2, cells := 16, slots := 245, locals := 43 }) (tw_Pre G (n + 1) ad w sz [.ref (ad n)]) (tw_Qn G (n + 1) 16 ad (fun u => (True ∧ u.2 (n + 1) = .inr (7, [.int (4 : Int32), .int (2 : Int32), .ref (u.1 (n + 2)), .int (0 : Int32)]) ∧ u.2 (n + 2) = .inl (G.2.1 0, 8, .inl (fun _ => 0)) ∧ u.2 n = .inr (1, [.int (0 : Int32), .int (0 : Int32), .int (0 : Int32), .int (0 : Int32), .int (0 : Int32), .int (0 : Int32), .ref (u.1 (n + 1)), .ref (u.1 (n + 3)), .ref (u.1 (n + 5)), .ref (u.1 (n + 7)), .ref (u.1 (n + 9)), .ref (u.1 (n + 11)), .int (0 : Int32), .int (0 : Int32)]) ∧ u.2 (n + 3) = .inr (7, [.int (12 : Int32), .int (3 : Int32), .ref (u.1 (n + 4)), .int (0 : Int32)]) ∧ u.2 (n + 4) = .inl (G.2.1 0, 36, .inl (fun _ => 0)) ∧ u.2 (n + 5) = .inr (7, [.int (5 : Int32), .int (3 : Int32), .ref (u.1 (n + 6)), .int (0 : Int32)]) ∧ u.2 (n + 6) = .inl (G.2.1 0, 15, .inl (fun _ => 0)) ∧ u.2 (n + 7) = .inr (7, [.int (4 : Int32), .int (2 : Int32), .ref (u.1 (n + 8)), .int (0 : Int32)]) ∧ u.2 (n + 8) = .inl (G.2.1 0, 8, .inl (fun _ => 0)) ∧ u.2 (n + 9) = .inr (7, [.int (2 : Int32), .int (3 : Int32), .ref (u.1 (n + 10)), .int (0 : Int32)]) ∧ u.2 (n + 10) = .inl (G.2.1 0, 6, .inl (fun _ => 0)) ∧ u.2 (n + 11) = .inr (8, [.ref (u.1 (n + 12)), .int (0 : Int32), .ref (u.1 (n + 13)), .ref (u.1 (n + 14)), .ref (u.1 (n + 15)), .ref (u.1 (n + 16)), .int (0 : Int32), .int (0 : Int32)]) ∧ u.2 (n + 12) = .inl (G.2.1 0, 60, .inl (fun _ => 0)) ∧ u.2 (n + 13) = .inl (G.2.1 0, 21, .inl (fun _ => 0)) ∧ u.2 (n + 14) = .inl (G.2.1 0, 21, .inl (fun _ => 0)) ∧ u.2 (n + 15) = .inl (G.2.1 0, 21, .inl (fun _ => 0)) ∧ u.2 (n + 16) = .inl (G.2.1 0, 21, .inl (fun _ => 0)) ∧ ∀ k, k < n → u.2 k = w k)) sz) 16 245 (tw_A (n + 1) ad sz) := by
  refine tw_met (by decide) (Nat.le_of_ble_eq_true rfl) ?_
  intro p e s m args below meth c F hret hlk hin hargs hsz hH ls hl
  have hx := F.1.1
  have hb := F.1.2.1
  have hown := F.1.2.2.2.1
  have hts := F.1.2.2.2.2
  have hl : lv_has ls 1 [(0, .ref (ad n))] := hl
  generalize hH0 : s.heap = H at hH ⊢
  refine lv_aload_n hx hb dX1_init_0 rfl (lv_at hl 0 rfl) ?_
  refine tw_objInit F (tw_gl kw_149 rfl) (tw_gl kw_32 rfl) (tw_gl kw_33 rfl) hl.1 ⟨(Nat.le_of_ble_eq_true rfl), (Nat.le_of_ble_eq_true rfl)⟩ (Nat.le_of_ble_eq_true rfl) dX1_init_1 ?_
  refine lv_aload_n hx hb dX1_init_4 rfl (lv_at hl 0 rfl) ?_
  refine tw_new (ci := 7) (T := TX7) F hH rfl iw_X7 tyX7 tyX7_ok (tw_gl kw_150 rfl) (tw_gl kw_55 rfl) (tw_gl kw_4 rfl) kd_X7 (Nat.le_of_ble_eq_true rfl) (Nat.le_of_ble_eq_true rfl) dX1_init_5 (fun H locs ad4 w1 ha5 hw2 hne3 hH => ?_)
  refine lv_dup hx hb dX1_init_8 rfl ?_
  refine lv_iconst (v := 4) hx hb dX1_init_9 (by decide) ?_
  refine lv_iconst (v := 2) hx hb dX1_init_10 (by decide) ?_
  refine tw_calln F hH (tw_runI (r := (n + 1)) (As := [.int (4 : Int32), .int (2 : Int32)]) (rest := [.ref (ad4 (n + 1)), .ref (ad n)]) F hH (c_X7_init_v2 l G (n + 1) ad4 w1 H.size hw2) (tw_gl kw_151 rfl) km_X7_init (tw_gl kw_57 rfl) rfl rfl rfl ⟨(Nat.le_of_ble_eq_true rfl), (Nat.le_of_ble_eq_true rfl)⟩ rfl hl.1 rfl (Nat.le_of_ble_eq_true rfl) dX1_init_11 ⟨(Nat.le_of_ble_eq_true rfl), (Nat.le_of_ble_eq_true rfl)⟩) (fun ad8 w6 H locs hp7 ha9 _ hH => ?_)
  obtain ⟨-, hw11, hw12, hfr13⟩ := hp7
  have hw14 : w6 n = .inr (1, [.int (0 : Int32), .int (0 : Int32), .int (0 : Int32), .int (0 : Int32), .int (0 : Int32), .int (0 : Int32), .null, .null, .null, .null, .null, .null, .int (0 : Int32), .int (0 : Int32)]) := (hfr13 n (by omega)).trans ((hne3 n (by omega)).trans (hw_n))
  refine tw_putF (r := n) F hH kf_RX1_14 kp_X1_6 hin rfl ((ha9 n (by omega)).trans (ha5 n (by omega))) (by omega) hw14 (Nat.le_of_ble_eq_true rfl) rfl rfl dX1_init_14 (fun H locs w15 hw16 hne17 hH => ?_)
  have hw16 : w15 n = .inr (1, [.int (0 : Int32), .int (0 : Int32), .int (0 : Int32), .int (0 : Int32), .int (0 : Int32), .int (0 : Int32), .ref (ad4 (n + 1)), .null, .null, .null, .null, .null, .int (0 : Int32), .int (0 : Int32)]) := hw16
  refine lv_aload_n hx hb dX1_init_17 rfl (lv_at hl 0 rfl) ?_
  refine tw_new (ci := 7) (T := TX7) F hH rfl iw_X7 tyX7 tyX7_ok (tw_gl kw_150 rfl) (tw_gl kw_55 rfl) (tw_gl kw_4 rfl) kd_X7 (Nat.le_of_ble_eq_true rfl) (Nat.le_of_ble_eq_true rfl) dX1_init_18 (fun H locs ad21 w18 ha22 hw19 hne20 hH => ?_)
  refine lv_dup hx hb dX1_init_21 rfl ?_
  refine lv_bipush (v := 12) hx hb dX1_init_22 (by decide) ?_
  refine lv_iconst (v := 3) hx hb dX1_init_24 (by decide) ?_
  refine tw_calln F hH (tw_runI (r := (n + 3)) (As := [.int (12 : Int32), .int (3 : Int32)]) (rest := [.ref (ad21 (n + 3)), .ref (ad n)]) F hH (c_X7_init_v3 l G (n + 3) ad21 w18 H.size hw19) (tw_gl kw_151 rfl) km_X7_init (tw_gl kw_57 rfl) rfl rfl rfl ⟨(Nat.le_of_ble_eq_true rfl), (Nat.le_of_ble_eq_true rfl)⟩ rfl hl.1 rfl (Nat.le_of_ble_eq_true rfl) dX1_init_25 ⟨(Nat.le_of_ble_eq_true rfl), (Nat.le_of_ble_eq_true rfl)⟩) (fun ad25 w23 H locs hp24 ha26 _ hH => ?_)
  obtain ⟨-, hw28, hw29, hfr30⟩ := hp24
  have hw31 : w23 n = .inr (1, [.int (0 : Int32), .int (0 : Int32), .int (0 : Int32), .int (0 : Int32), .int (0 : Int32), .int (0 : Int32), .ref (ad4 (n + 1)), .null, .null, .null, .null, .null, .int (0 : Int32), .int (0 : Int32)]) := (hfr30 n (by omega)).trans ((hne20 n (by omega)).trans (hw16))
  refine tw_putF (r := n) F hH kf_RX1_20 kp_X1_7 hin rfl ((((ha26 n (by omega)).trans (ha22 n (by omega))).trans (ha9 n (by omega))).trans (ha5 n (by omega))) (by omega) hw31 (Nat.le_of_ble_eq_true rfl) rfl rfl dX1_init_28 (fun H locs w32 hw33 hne34 hH => ?_)
  have hw33 : w32 n = .inr (1, [.int (0 : Int32), .int (0 : Int32), .int (0 : Int32), .int (0 : Int32), .int (0 : Int32), .int (0 : Int32), .ref (ad4 (n + 1)), .ref (ad21 (n + 3)), .null, .null, .null, .null, .int (0 : Int32), .int (0 : Int32)]) := hw33
  refine lv_aload_n hx hb dX1_init_31 rfl (lv_at hl 0 rfl) ?_
  refine tw_new (ci := 7) (T := TX7) F hH rfl iw_X7 tyX7 tyX7_ok (tw_gl kw_150 rfl) (tw_gl kw_55 rfl) (tw_gl kw_4 rfl) kd_X7 (Nat.le_of_ble_eq_true rfl) (Nat.le_of_ble_eq_true rfl) dX1_init_32 (fun H locs ad38 w35 ha39 hw36 hne37 hH => ?_)
  refine lv_dup hx hb dX1_init_35 rfl ?_
  refine lv_iconst (v := 5) hx hb dX1_init_36 (by decide) ?_
  refine lv_iconst (v := 3) hx hb dX1_init_37 (by decide) ?_
  refine tw_calln F hH (tw_runI (r := (n + 5)) (As := [.int (5 : Int32), .int (3 : Int32)]) (rest := [.ref (ad38 (n + 5)), .ref (ad n)]) F hH (c_X7_init_v4 l G (n + 5) ad38 w35 H.size hw36) (tw_gl kw_151 rfl) km_X7_init (tw_gl kw_57 rfl) rfl rfl rfl ⟨(Nat.le_of_ble_eq_true rfl), (Nat.le_of_ble_eq_true rfl)⟩ rfl hl.1 rfl (Nat.le_of_ble_eq_true rfl) dX1_init_38 ⟨(Nat.le_of_ble_eq_true rfl), (Nat.le_of_ble_eq_true rfl)⟩) (fun ad42 w40 H locs hp41 ha43 _ hH => ?_)
  obtain ⟨-, hw45, hw46, hfr47⟩ := hp41
  have hw48 : w40 n = .inr (1, [.int (0 : Int32), .int (0 : Int32), .int (0 : Int32), .int (0 : Int32), .int (0 : Int32), .int (0 : Int32), .ref (ad4 (n + 1)), .ref (ad21 (n + 3)), .null, .null, .null, .null, .int (0 : Int32), .int (0 : Int32)]) := (hfr47 n (by omega)).trans ((hne37 n (by omega)).trans (hw33))
  refine tw_putF (r := n) F hH kf_RX1_23 kp_X1_8 hin rfl ((((((ha43 n (by omega)).trans (ha39 n (by omega))).trans (ha26 n (by omega))).trans (ha22 n (by omega))).trans (ha9 n (by omega))).trans (ha5 n (by omega))) (by omega) hw48 (Nat.le_of_ble_eq_true rfl) rfl rfl dX1_init_41 (fun H locs w49 hw50 hne51 hH => ?_)
  have hw50 : w49 n = .inr (1, [.int (0 : Int32), .int (0 : Int32), .int (0 : Int32), .int (0 : Int32), .int (0 : Int32), .int (0 : Int32), .ref (ad4 (n + 1)), .ref (ad21 (n + 3)), .ref (ad38 (n + 5)), .null, .null, .null, .int (0 : Int32), .int (0 : Int32)]) := hw50
  refine lv_aload_n hx hb dX1_init_44 rfl (lv_at hl 0 rfl) ?_
  refine tw_new (ci := 7) (T := TX7) F hH rfl iw_X7 tyX7 tyX7_ok (tw_gl kw_150 rfl) (tw_gl kw_55 rfl) (tw_gl kw_4 rfl) kd_X7 (Nat.le_of_ble_eq_true rfl) (Nat.le_of_ble_eq_true rfl) dX1_init_45 (fun H locs ad55 w52 ha56 hw53 hne54 hH => ?_)
  refine lv_dup hx hb dX1_init_48 rfl ?_
  refine lv_iconst (v := 4) hx hb dX1_init_49 (by decide) ?_
  refine lv_iconst (v := 2) hx hb dX1_init_50 (by decide) ?_
  refine tw_calln F hH (tw_runI (r := (n + 7)) (As := [.int (4 : Int32), .int (2 : Int32)]) (rest := [.ref (ad55 (n + 7)), .ref (ad n)]) F hH (c_X7_init_v2 l G (n + 7) ad55 w52 H.size hw53) (tw_gl kw_151 rfl) km_X7_init (tw_gl kw_57 rfl) rfl rfl rfl ⟨(Nat.le_of_ble_eq_true rfl), (Nat.le_of_ble_eq_true rfl)⟩ rfl hl.1 rfl (Nat.le_of_ble_eq_true rfl) dX1_init_51 ⟨(Nat.le_of_ble_eq_true rfl), (Nat.le_of_ble_eq_true rfl)⟩) (fun ad59 w57 H locs hp58 ha60 _ hH => ?_)
  obtain ⟨-, hw62, hw63, hfr64⟩ := hp58
  have hw65 : w57 n = .inr (1, [.int (0 : Int32), .int (0 : Int32), .int (0 : Int32), .int (0 : Int32), .int (0 : Int32), .int (0 : Int32), .ref (ad4 (n + 1)), .ref (ad21 (n + 3)), .ref (ad38 (n + 5)), .null, .null, .null, .int (0 : Int32), .int (0 : Int32)]) := (hfr64 n (by omega)).trans ((hne54 n (by omega)).trans (hw50))
  refine tw_putF (r := n) F hH kf_RX1_26 kp_X1_9 hin rfl ((((((((ha60 n (by omega)).trans (ha56 n (by omega))).trans (ha43 n (by omega))).trans (ha39 n (by omega))).trans (ha26 n (by omega))).trans (ha22 n (by omega))).trans (ha9 n (by omega))).trans (ha5 n (by omega))) (by omega) hw65 (Nat.le_of_ble_eq_true rfl) rfl rfl dX1_init_54 (fun H locs w66 hw67 hne68 hH => ?_)
  have hw67 : w66 n = .inr (1, [.int (0 : Int32), .int (0 : Int32), .int (0 : Int32), .int (0 : Int32), .int (0 : Int32), .int (0 : Int32), .ref (ad4 (n + 1)), .ref (ad21 (n + 3)), .ref (ad38 (n + 5)), .ref (ad55 (n + 7)), .null, .null, .int (0 : Int32), .int (0 : Int32)]) := hw67
  refine lv_aload_n hx hb dX1_init_57 rfl (lv_at hl 0 rfl) ?_
  refine tw_new (ci := 7) (T := TX7) F hH rfl iw_X7 tyX7 tyX7_ok (tw_gl kw_150 rfl) (tw_gl kw_55 rfl) (tw_gl kw_4 rfl) kd_X7 (Nat.le_of_ble_eq_true rfl) (Nat.le_of_ble_eq_true rfl) dX1_init_58 (fun H locs ad72 w69 ha73 hw70 hne71 hH => ?_)
  refine lv_dup hx hb dX1_init_61 rfl ?_
  refine lv_iconst (v := 2) hx hb dX1_init_62 (by decide) ?_
  refine lv_iconst (v := 3) hx hb dX1_init_63 (by decide) ?_
  refine tw_calln F hH (tw_runI (r := (n + 9)) (As := [.int (2 : Int32), .int (3 : Int32)]) (rest := [.ref (ad72 (n + 9)), .ref (ad n)]) F hH (c_X7_init_v5 l G (n + 9) ad72 w69 H.size hw70) (tw_gl kw_151 rfl) km_X7_init (tw_gl kw_57 rfl) rfl rfl rfl ⟨(Nat.le_of_ble_eq_true rfl), (Nat.le_of_ble_eq_true rfl)⟩ rfl hl.1 rfl (Nat.le_of_ble_eq_true rfl) dX1_init_64 ⟨(Nat.le_of_ble_eq_true rfl), (Nat.le_of_ble_eq_true rfl)⟩) (fun ad76 w74 H locs hp75 ha77 _ hH => ?_)
  obtain ⟨-, hw79, hw80, hfr81⟩ := hp75
  have hw82 : w74 n = .inr (1, [.int (0 : Int32), .int (0 : Int32), .int (0 : Int32), .int (0 : Int32), .int (0 : Int32), .int (0 : Int32), .ref (ad4 (n + 1)), .ref (ad21 (n + 3)), .ref (ad38 (n + 5)), .ref (ad55 (n + 7)), .null, .null, .int (0 : Int32), .int (0 : Int32)]) := (hfr81 n (by omega)).trans ((hne71 n (by omega)).trans (hw67))
  refine tw_putF (r := n) F hH kf_RX1_29 kp_X1_10 hin rfl ((((((((((ha77 n (by omega)).trans (ha73 n (by omega))).trans (ha60 n (by omega))).trans (ha56 n (by omega))).trans (ha43 n (by omega))).trans (ha39 n (by omega))).trans (ha26 n (by omega))).trans (ha22 n (by omega))).trans (ha9 n (by omega))).trans (ha5 n (by omega))) (by omega) hw82 (Nat.le_of_ble_eq_true rfl) rfl rfl dX1_init_67 (fun H locs w83 hw84 hne85 hH => ?_)
  have hw84 : w83 n = .inr (1, [.int (0 : Int32), .int (0 : Int32), .int (0 : Int32), .int (0 : Int32), .int (0 : Int32), .int (0 : Int32), .ref (ad4 (n + 1)), .ref (ad21 (n + 3)), .ref (ad38 (n + 5)), .ref (ad55 (n + 7)), .ref (ad72 (n + 9)), .null, .int (0 : Int32), .int (0 : Int32)]) := hw84
  refine lv_aload_n hx hb dX1_init_70 rfl (lv_at hl 0 rfl) ?_
  refine tw_new (ci := 8) (T := TX8) F hH rfl iw_X8 tyX8 tyX8_ok (tw_gl kw_152 rfl) (tw_gl kw_153 rfl) (tw_gl kw_8 rfl) kd_X8 (Nat.le_of_ble_eq_true rfl) (Nat.le_of_ble_eq_true rfl) dX1_init_71 (fun H locs ad89 w86 ha90 hw87 hne88 hH => ?_)
  refine lv_dup hx hb dX1_init_74 rfl ?_
  refine tw_calln F hH (tw_runI (r := (n + 11)) (As := []) (rest := [.ref (ad89 (n + 11)), .ref (ad n)]) F hH (c_X8_init l G (n + 11) ad89 w86 H.size hw87) (tw_gl kw_154 rfl) km_X8_init (tw_gl kw_155 rfl) rfl rfl rfl ⟨(Nat.le_of_ble_eq_true rfl), (Nat.le_of_ble_eq_true rfl)⟩ rfl hl.1 rfl (Nat.le_of_ble_eq_true rfl) dX1_init_75 ⟨(Nat.le_of_ble_eq_true rfl), (Nat.le_of_ble_eq_true rfl)⟩) (fun ad93 w91 H locs hp92 ha94 _ hH => ?_)
  obtain ⟨-, hw96, hw97, hw98, hw99, hw100, hw101, hfr102⟩ := hp92
  have hw103 : w91 n = .inr (1, [.int (0 : Int32), .int (0 : Int32), .int (0 : Int32), .int (0 : Int32), .int (0 : Int32), .int (0 : Int32), .ref (ad4 (n + 1)), .ref (ad21 (n + 3)), .ref (ad38 (n + 5)), .ref (ad55 (n + 7)), .ref (ad72 (n + 9)), .null, .int (0 : Int32), .int (0 : Int32)]) := (hfr102 n (by omega)).trans ((hne88 n (by omega)).trans (hw84))
  refine tw_put (r := n) F hH kf_RX1_35 kp_X1_11 ((((((((((((ha94 n (by omega)).trans (ha90 n (by omega))).trans (ha77 n (by omega))).trans (ha73 n (by omega))).trans (ha60 n (by omega))).trans (ha56 n (by omega))).trans (ha43 n (by omega))).trans (ha39 n (by omega))).trans (ha26 n (by omega))).trans (ha22 n (by omega))).trans (ha9 n (by omega))).trans (ha5 n (by omega))) (by omega) hw103 (Nat.le_of_ble_eq_true rfl) rfl rfl dX1_init_78 (fun H locs w104 hw105 hne106 hH => ?_)
  have hw105 : w104 n = .inr (1, [.int (0 : Int32), .int (0 : Int32), .int (0 : Int32), .int (0 : Int32), .int (0 : Int32), .int (0 : Int32), .ref (ad4 (n + 1)), .ref (ad21 (n + 3)), .ref (ad38 (n + 5)), .ref (ad55 (n + 7)), .ref (ad72 (n + 9)), .ref (ad89 (n + 11)), .int (0 : Int32), .int (0 : Int32)]) := hw105
  have hw107 : w104 (n + 1) = .inr (7, [.int (4 : Int32), .int (2 : Int32), .ref (ad8 (n + 2)), .int (0 : Int32)]) := (hne106 (n + 1) (by omega)).trans ((hfr102 (n + 1) (by omega)).trans ((hne88 (n + 1) (by omega)).trans ((hne85 (n + 1) (by omega)).trans ((hfr81 (n + 1) (by omega)).trans ((hne71 (n + 1) (by omega)).trans ((hne68 (n + 1) (by omega)).trans ((hfr64 (n + 1) (by omega)).trans ((hne54 (n + 1) (by omega)).trans ((hne51 (n + 1) (by omega)).trans ((hfr47 (n + 1) (by omega)).trans ((hne37 (n + 1) (by omega)).trans ((hne34 (n + 1) (by omega)).trans ((hfr30 (n + 1) (by omega)).trans ((hne20 (n + 1) (by omega)).trans ((hne17 (n + 1) (by omega)).trans (hw11))))))))))))))))
  have hw108 : w104 (n + 1) = .inr (7, [.int (4 : Int32), .int (2 : Int32), .ref (ad93 (n + 2)), .int (0 : Int32)]) := by rw [hw107]; rw [show ad8 (n + 2) = ad93 (n + 2) from ((((((((((ha94 (n + 2) (by omega)).trans (ha90 (n + 2) (by omega))).trans (ha77 (n + 2) (by omega))).trans (ha73 (n + 2) (by omega))).trans (ha60 (n + 2) (by omega))).trans (ha56 (n + 2) (by omega))).trans (ha43 (n + 2) (by omega))).trans (ha39 (n + 2) (by omega))).trans (ha26 (n + 2) (by omega))).trans (ha22 (n + 2) (by omega))).symm]
  have hw109 : w104 (n + 2) = .inl (G.2.1 0, 8, .inl (fun _ => 0)) := (hne106 (n + 2) (by omega)).trans ((hfr102 (n + 2) (by omega)).trans ((hne88 (n + 2) (by omega)).trans ((hne85 (n + 2) (by omega)).trans ((hfr81 (n + 2) (by omega)).trans ((hne71 (n + 2) (by omega)).trans ((hne68 (n + 2) (by omega)).trans ((hfr64 (n + 2) (by omega)).trans ((hne54 (n + 2) (by omega)).trans ((hne51 (n + 2) (by omega)).trans ((hfr47 (n + 2) (by omega)).trans ((hne37 (n + 2) (by omega)).trans ((hne34 (n + 2) (by omega)).trans ((hfr30 (n + 2) (by omega)).trans ((hne20 (n + 2) (by omega)).trans ((hne17 (n + 2) (by omega)).trans (hw12))))))))))))))))
  have hw110 : w104 n = .inr (1, [.int (0 : Int32), .int (0 : Int32), .int (0 : Int32), .int (0 : Int32), .int (0 : Int32), .int (0 : Int32), .ref (ad93 (n + 1)), .ref (ad93 (n + 3)), .ref (ad93 (n + 5)), .ref (ad93 (n + 7)), .ref (ad93 (n + 9)), .ref (ad93 (n + 11)), .int (0 : Int32), .int (0 : Int32)]) := by rw [hw105]; rw [show ad4 (n + 1) = ad93 (n + 1) from (((((((((((ha94 (n + 1) (by omega)).trans (ha90 (n + 1) (by omega))).trans (ha77 (n + 1) (by omega))).trans (ha73 (n + 1) (by omega))).trans (ha60 (n + 1) (by omega))).trans (ha56 (n + 1) (by omega))).trans (ha43 (n + 1) (by omega))).trans (ha39 (n + 1) (by omega))).trans (ha26 (n + 1) (by omega))).trans (ha22 (n + 1) (by omega))).trans (ha9 (n + 1) (by omega))).symm, show ad21 (n + 3) = ad93 (n + 3) from (((((((((ha94 (n + 3) (by omega)).trans (ha90 (n + 3) (by omega))).trans (ha77 (n + 3) (by omega))).trans (ha73 (n + 3) (by omega))).trans (ha60 (n + 3) (by omega))).trans (ha56 (n + 3) (by omega))).trans (ha43 (n + 3) (by omega))).trans (ha39 (n + 3) (by omega))).trans (ha26 (n + 3) (by omega))).symm, show ad38 (n + 5) = ad93 (n + 5) from (((((((ha94 (n + 5) (by omega)).trans (ha90 (n + 5) (by omega))).trans (ha77 (n + 5) (by omega))).trans (ha73 (n + 5) (by omega))).trans (ha60 (n + 5) (by omega))).trans (ha56 (n + 5) (by omega))).trans (ha43 (n + 5) (by omega))).symm, show ad55 (n + 7) = ad93 (n + 7) from (((((ha94 (n + 7) (by omega)).trans (ha90 (n + 7) (by omega))).trans (ha77 (n + 7) (by omega))).trans (ha73 (n + 7) (by omega))).trans (ha60 (n + 7) (by omega))).symm, show ad72 (n + 9) = ad93 (n + 9) from (((ha94 (n + 9) (by omega)).trans (ha90 (n + 9) (by omega))).trans (ha77 (n + 9) (by omega))).symm, show ad89 (n + 11) = ad93 (n + 11) from (ha94 (n + 11) (by omega)).symm]
  have hw111 : w104 (n + 3) = .inr (7, [.int (12 : Int32), .int (3 : Int32), .ref (ad25 (n + 4)), .int (0 : Int32)]) := (hne106 (n + 3) (by omega)).trans ((hfr102 (n + 3) (by omega)).trans ((hne88 (n + 3) (by omega)).trans ((hne85 (n + 3) (by omega)).trans ((hfr81 (n + 3) (by omega)).trans ((hne71 (n + 3) (by omega)).trans ((hne68 (n + 3) (by omega)).trans ((hfr64 (n + 3) (by omega)).trans ((hne54 (n + 3) (by omega)).trans ((hne51 (n + 3) (by omega)).trans ((hfr47 (n + 3) (by omega)).trans ((hne37 (n + 3) (by omega)).trans ((hne34 (n + 3) (by omega)).trans (hw28)))))))))))))
  have hw112 : w104 (n + 3) = .inr (7, [.int (12 : Int32), .int (3 : Int32), .ref (ad93 (n + 4)), .int (0 : Int32)]) := by rw [hw111]; rw [show ad25 (n + 4) = ad93 (n + 4) from ((((((((ha94 (n + 4) (by omega)).trans (ha90 (n + 4) (by omega))).trans (ha77 (n + 4) (by omega))).trans (ha73 (n + 4) (by omega))).trans (ha60 (n + 4) (by omega))).trans (ha56 (n + 4) (by omega))).trans (ha43 (n + 4) (by omega))).trans (ha39 (n + 4) (by omega))).symm]
  have hw113 : w104 (n + 4) = .inl (G.2.1 0, 36, .inl (fun _ => 0)) := (hne106 (n + 4) (by omega)).trans ((hfr102 (n + 4) (by omega)).trans ((hne88 (n + 4) (by omega)).trans ((hne85 (n + 4) (by omega)).trans ((hfr81 (n + 4) (by omega)).trans ((hne71 (n + 4) (by omega)).trans ((hne68 (n + 4) (by omega)).trans ((hfr64 (n + 4) (by omega)).trans ((hne54 (n + 4) (by omega)).trans ((hne51 (n + 4) (by omega)).trans ((hfr47 (n + 4) (by omega)).trans ((hne37 (n + 4) (by omega)).trans ((hne34 (n + 4) (by omega)).trans (hw29)))))))))))))
  have hw114 : w104 (n + 5) = .inr (7, [.int (5 : Int32), .int (3 : Int32), .ref (ad42 (n + 6)), .int (0 : Int32)]) := (hne106 (n + 5) (by omega)).trans ((hfr102 (n + 5) (by omega)).trans ((hne88 (n + 5) (by omega)).trans ((hne85 (n + 5) (by omega)).trans ((hfr81 (n + 5) (by omega)).trans ((hne71 (n + 5) (by omega)).trans ((hne68 (n + 5) (by omega)).trans ((hfr64 (n + 5) (by omega)).trans ((hne54 (n + 5) (by omega)).trans ((hne51 (n + 5) (by omega)).trans (hw45))))))))))
  have hw115 : w104 (n + 5) = .inr (7, [.int (5 : Int32), .int (3 : Int32), .ref (ad93 (n + 6)), .int (0 : Int32)]) := by rw [hw114]; rw [show ad42 (n + 6) = ad93 (n + 6) from ((((((ha94 (n + 6) (by omega)).trans (ha90 (n + 6) (by omega))).trans (ha77 (n + 6) (by omega))).trans (ha73 (n + 6) (by omega))).trans (ha60 (n + 6) (by omega))).trans (ha56 (n + 6) (by omega))).symm]
  have hw116 : w104 (n + 6) = .inl (G.2.1 0, 15, .inl (fun _ => 0)) := (hne106 (n + 6) (by omega)).trans ((hfr102 (n + 6) (by omega)).trans ((hne88 (n + 6) (by omega)).trans ((hne85 (n + 6) (by omega)).trans ((hfr81 (n + 6) (by omega)).trans ((hne71 (n + 6) (by omega)).trans ((hne68 (n + 6) (by omega)).trans ((hfr64 (n + 6) (by omega)).trans ((hne54 (n + 6) (by omega)).trans ((hne51 (n + 6) (by omega)).trans (hw46))))))))))
  have hw117 : w104 (n + 7) = .inr (7, [.int (4 : Int32), .int (2 : Int32), .ref (ad59 (n + 8)), .int (0 : Int32)]) := (hne106 (n + 7) (by omega)).trans ((hfr102 (n + 7) (by omega)).trans ((hne88 (n + 7) (by omega)).trans ((hne85 (n + 7) (by omega)).trans ((hfr81 (n + 7) (by omega)).trans ((hne71 (n + 7) (by omega)).trans ((hne68 (n + 7) (by omega)).trans (hw62)))))))
  have hw118 : w104 (n + 7) = .inr (7, [.int (4 : Int32), .int (2 : Int32), .ref (ad93 (n + 8)), .int (0 : Int32)]) := by rw [hw117]; rw [show ad59 (n + 8) = ad93 (n + 8) from ((((ha94 (n + 8) (by omega)).trans (ha90 (n + 8) (by omega))).trans (ha77 (n + 8) (by omega))).trans (ha73 (n + 8) (by omega))).symm]
  have hw119 : w104 (n + 8) = .inl (G.2.1 0, 8, .inl (fun _ => 0)) := (hne106 (n + 8) (by omega)).trans ((hfr102 (n + 8) (by omega)).trans ((hne88 (n + 8) (by omega)).trans ((hne85 (n + 8) (by omega)).trans ((hfr81 (n + 8) (by omega)).trans ((hne71 (n + 8) (by omega)).trans ((hne68 (n + 8) (by omega)).trans (hw63)))))))
  have hw120 : w104 (n + 9) = .inr (7, [.int (2 : Int32), .int (3 : Int32), .ref (ad76 (n + 10)), .int (0 : Int32)]) := (hne106 (n + 9) (by omega)).trans ((hfr102 (n + 9) (by omega)).trans ((hne88 (n + 9) (by omega)).trans ((hne85 (n + 9) (by omega)).trans (hw79))))
  have hw121 : w104 (n + 9) = .inr (7, [.int (2 : Int32), .int (3 : Int32), .ref (ad93 (n + 10)), .int (0 : Int32)]) := by rw [hw120]; rw [show ad76 (n + 10) = ad93 (n + 10) from ((ha94 (n + 10) (by omega)).trans (ha90 (n + 10) (by omega))).symm]
  have hw122 : w104 (n + 10) = .inl (G.2.1 0, 6, .inl (fun _ => 0)) := (hne106 (n + 10) (by omega)).trans ((hfr102 (n + 10) (by omega)).trans ((hne88 (n + 10) (by omega)).trans ((hne85 (n + 10) (by omega)).trans (hw80))))
  have hw123 : w104 (n + 11) = .inr (8, [.ref (ad93 (n + 12)), .int (0 : Int32), .ref (ad93 (n + 13)), .ref (ad93 (n + 14)), .ref (ad93 (n + 15)), .ref (ad93 (n + 16)), .int (0 : Int32), .int (0 : Int32)]) := (hne106 (n + 11) (by omega)).trans (hw97)
  have hw124 : w104 (n + 12) = .inl (G.2.1 0, 60, .inl (fun _ => 0)) := (hne106 (n + 12) (by omega)).trans (hw96)
  have hw125 : w104 (n + 13) = .inl (G.2.1 0, 21, .inl (fun _ => 0)) := (hne106 (n + 13) (by omega)).trans (hw98)
  have hw126 : w104 (n + 14) = .inl (G.2.1 0, 21, .inl (fun _ => 0)) := (hne106 (n + 14) (by omega)).trans (hw99)
  have hw127 : w104 (n + 15) = .inl (G.2.1 0, 21, .inl (fun _ => 0)) := (hne106 (n + 15) (by omega)).trans (hw100)
  have hw128 : w104 (n + 16) = .inl (G.2.1 0, 21, .inl (fun _ => 0)) := (hne106 (n + 16) (by omega)).trans (hw101)
  exact tw_nret F hH (fun k hk => ((ha94 k (by omega)).trans ((ha90 k (by omega)).trans ((ha77 k (by omega)).trans ((ha73 k (by omega)).trans ((ha60 k (by omega)).trans ((ha56 k (by omega)).trans ((ha43 k (by omega)).trans ((ha39 k (by omega)).trans ((ha26 k (by omega)).trans ((ha22 k (by omega)).trans ((ha9 k (by omega)).trans (ha5 k (by omega)))))))))))))) hret hlk (Nat.le_of_ble_eq_true rfl) (Nat.le_of_ble_eq_true rfl) dX1_init_81 (⟨trivial, hw108, hw109, hw110, hw112, hw113, hw115, hw116, hw118, hw119, hw121, hw122, hw123, hw124, hw125, hw126, hw127, hw128, fun k hk => ((hne106 k (by omega)).trans ((hfr102 k (by omega)).trans ((hne88 k (by omega)).trans ((hne85 k (by omega)).trans ((hfr81 k (by omega)).trans ((hne71 k (by omega)).trans ((hne68 k (by omega)).trans ((hfr64 k (by omega)).trans ((hne54 k (by omega)).trans ((hne51 k (by omega)).trans ((hfr47 k (by omega)).trans ((hne37 k (by omega)).trans ((hne34 k (by omega)).trans ((hfr30 k (by omega)).trans ((hne20 k (by omega)).trans ((hne17 k (by omega)).trans ((hfr13 k (by omega)).trans (hne3 k (by omega)))))))))))))))))))⟩)
