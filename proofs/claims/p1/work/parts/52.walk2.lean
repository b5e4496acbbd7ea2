set_option maxHeartbeats 4000000 in
set_option maxRecDepth 100000 in
theorem c_X3_init (l : Launch) (G : tw_G) (ad : Nat → Nat) (w : Nat → va_E) (sz : Nat) (hw_233 : w 233 = .inr (3, [.null, .int (0 : Int32), .null, .int (0 : Int32), .int (0 : Int32), .int (0 : Int32), .int (0 : Int32), .int (0 : Int32), .null])) : Met l yX3_init (tw_ws yX3_init cX3_init 1 none) ({ frames := 1, cells := 2, slots := 120, locals := 20 }) (tw_Pre G 234 ad w sz [.ref (ad 233)]) (tw_Qn G 234 2 ad (fun u => (True ∧ u.2 233 = .inr (3, [.ref (u.1 234), .int (0 : Int32), .ref (u.1 235), .int (0 : Int32), .int (0 : Int32), .int (0 : Int32), .int (0 : Int32), .int (0 : Int32), .null]) ∧ ∀ k, k < 233 → u.2 k = w k)) sz) 2 120 (tw_A 234 ad sz) := by
  refine tw_met (by decide) (Nat.le_of_ble_eq_true rfl) ?_
  intro p e s m args below meth c F hret hlk hin hargs hsz hH ls hl
  have hx := F.1.1
  have hb := F.1.2.1
  have hown := F.1.2.2.2.1
  have hts := F.1.2.2.2.2
  have hl : lv_has ls 1 [(0, .ref (ad 233))] := hl
  generalize hH0 : s.heap = H at hH ⊢
  refine lv_aload_n hx hb dX3_init_0 rfl (lv_at hl 0 rfl) ?_
  refine tw_objInit F (tw_gl kw_483 rfl) (tw_gl kw_32 rfl) (tw_gl kw_33 rfl) hl.1 ⟨(Nat.le_of_ble_eq_true rfl), (Nat.le_of_ble_eq_true rfl)⟩ (Nat.le_of_ble_eq_true rfl) dX3_init_1 ?_
  refine lv_aload_n hx hb dX3_init_4 rfl (lv_at hl 0 rfl) ?_
  refine lv_bipush (v := 60) hx hb dX3_init_5 (by decide) ?_
  refine tw_newa (t := 0) (atype := .int) (ty := .int) (n' := 60) (a0 := (60, .inl (fun _ => 0))) F hH rfl (fun C h => by cases h) (tw_gl kw_47 rfl) rfl (fun _ => rfl) (by decide) (Nat.le_of_ble_eq_true rfl) (Nat.le_of_ble_eq_true rfl) (Nat.le_of_ble_eq_true rfl) dX3_init_7 (fun H locs ad4 w1 ha5 hw2 hne3 hH => ?_)
  have hw6 : w1 233 = .inr (3, [.null, .int (0 : Int32), .null, .int (0 : Int32), .int (0 : Int32), .int (0 : Int32), .int (0 : Int32), .int (0 : Int32), .null]) := (hne3 233 (by decide)).trans (hw_233)
  refine tw_putF (r := 233) F hH kf_RX3_9 kp_X3_0 hin rfl (ha5 233 (by decide)) (by decide) hw6 (Nat.le_of_ble_eq_true rfl) rfl rfl dX3_init_9 (fun H locs w7 hw8 hne9 hH => ?_)
  have hw8 : w7 233 = .inr (3, [.ref (ad4 234), .int (0 : Int32), .null, .int (0 : Int32), .int (0 : Int32), .int (0 : Int32), .int (0 : Int32), .int (0 : Int32), .null]) := hw8
  refine lv_aload_n hx hb dX3_init_12 rfl (lv_at hl 0 rfl) ?_
  refine lv_bipush (v := 60) hx hb dX3_init_13 (by decide) ?_
  refine tw_newa (t := 1) (atype := .boolean) (ty := .boolean) (n' := 60) (a0 := (60, .inl (fun _ => 0))) F hH rfl (fun C h => by cases h) (tw_gl kw_83 rfl) rfl (fun _ => rfl) (by decide) (Nat.le_of_ble_eq_true rfl) (Nat.le_of_ble_eq_true rfl) (Nat.le_of_ble_eq_true rfl) dX3_init_15 (fun H locs ad13 w10 ha14 hw11 hne12 hH => ?_)
  have hw15 : w10 233 = .inr (3, [.ref (ad4 234), .int (0 : Int32), .null, .int (0 : Int32), .int (0 : Int32), .int (0 : Int32), .int (0 : Int32), .int (0 : Int32), .null]) := (hne12 233 (by decide)).trans (hw8)
  refine tw_putF (r := 233) F hH kf_RX3_15 kp_X3_2 hin rfl ((ha14 233 (by decide)).trans (ha5 233 (by decide))) (by decide) hw15 (Nat.le_of_ble_eq_true rfl) rfl rfl dX3_init_17 (fun H locs w16 hw17 hne18 hH => ?_)
  have hw17 : w16 233 = .inr (3, [.ref (ad4 234), .int (0 : Int32), .ref (ad13 235), .int (0 : Int32), .int (0 : Int32), .int (0 : Int32), .int (0 : Int32), .int (0 : Int32), .null]) := hw17
  have hw19 : w16 233 = .inr (3, [.ref (ad13 234), .int (0 : Int32), .ref (ad13 235), .int (0 : Int32), .int (0 : Int32), .int (0 : Int32), .int (0 : Int32), .int (0 : Int32), .null]) := by rw [hw17]; rw [show ad4 234 = ad13 234 from (ha14 234 (by decide)).symm]
  exact tw_nret F hH (fun k hk => ((ha14 k (by omega)).trans (ha5 k (by omega)))) hret hlk (Nat.le_of_ble_eq_true rfl) (Nat.le_of_ble_eq_true rfl) dX3_init_20 (⟨trivial, hw19, fun k hk => ((hne18 k (by omega)).trans ((hne12 k (by omega)).trans ((hne9 k (by omega)).trans (hne3 k (by omega)))))⟩)
set_option maxHeartbeats 4000000 in
set_option maxRecDepth 100000 in
theorem c_X11_init (l : Launch) (G : tw_G) (ad : Nat → Nat) (w : Nat → va_E) (sz : Nat) (hw_0 : w 0 = .inr (11, [.null, .null, .null, .null, .null, .null, .null, .int (0 : Int32), .null, .int (0 : Int32), .null])) : Met l yX11_init (tw_ws yX11_init cX11_init 2 none) ({ frames := 4, cells := 243, slots := 4658, locals := 86 }) (tw_Pre G 1 ad w sz [.ref (ad 0)]) (tw_Qn G 1 243 ad (fun u => (True ∧ u.2 4 = .inr (9, [.int (2 : Int32), .int (1 : Int32), .ref (u.1 5), .ref (u.1 6), .ref (u.1 7), .ref (u.1 8), .ref (u.1 9), .ref (u.1 10), .ref (u.1 12)]) ∧ u.2 5 = .inl (G.2.1 0, 5, .inl (upd (upd (upd (upd (upd (fun _ => 0) 0 (20000 : Int32)) 1 (20000 : Int32)) 2 (20000 : Int32)) 3 (20000 : Int32)) 4 (20000 : Int32))) ∧ u.2 6 = .inl (G.2.1 0, 5, .inl (upd (upd (upd (upd (upd (fun _ => 0) 0 (300 : Int32)) 1 (300 : Int32)) 2 (300 : Int32)) 3 (300 : Int32)) 4 (300 : Int32))) ∧ u.2 7 = .inl (G.2.1 1, 5, .inl (upd (upd (upd (upd (upd (fun _ => 0) 0 (0 : Int32)) 1 (0 : Int32)) 2 (0 : Int32)) 3 (0 : Int32)) 4 (0 : Int32))) ∧ u.2 8 = .inl (G.2.1 0, 24, .inl (upd (upd (upd (upd (upd (upd (upd (upd (upd (upd (upd (upd (upd (upd (upd (upd (upd (upd (upd (upd (upd (upd (upd (upd (fun _ => 0) 0 (0 : Int32)) 1 (10 : Int32)) 2 (40 : Int32)) 3 (1000 : Int32)) 4 (0 : Int32)) 5 (5 : Int32)) 6 (0 : Int32)) 7 (10 : Int32)) 8 (40 : Int32)) 9 (1000 : Int32)) 10 (0 : Int32)) 11 (5 : Int32)) 12 (0 : Int32)) 13 (10 : Int32)) 14 (40 : Int32)) 15 (1000 : Int32)) 16 (0 : Int32)) 17 (5 : Int32)) 18 (0 : Int32)) 19 (10 : Int32)) 20 (40 : Int32)) 21 (1000 : Int32)) 22 (0 : Int32)) 23 (5 : Int32))) ∧ u.2 9 = .inl (G.2.1 0, 8, .inl (upd (upd (upd (upd (upd (upd (upd (upd (fun _ => 0) 0 (500 : Int32)) 1 (5 : Int32)) 2 (200 : Int32)) 3 (15000 : Int32)) 4 (3000 : Int32)) 5 (50 : Int32)) 6 (300 : Int32)) 7 (0 : Int32))) ∧ u.2 10 = .inr (7, [.int (30 : Int32), .int (3 : Int32), .ref (u.1 11), .int (0 : Int32)]) ∧ u.2 11 = .inl (G.2.1 0, 90, .inl (fun _ => 0)) ∧ u.2 12 = .inr (7, [.int (20 : Int32), .int (4 : Int32), .ref (u.1 13), .int (0 : Int32)]) ∧ u.2 13 = .inl (G.2.1 0, 80, .inl (fun _ => 0)) ∧ u.2 0 = .inr (11, [.ref (u.1 4), .ref (u.1 14), .ref (u.1 156), .ref (u.1 221), .ref (u.1 225), .ref (u.1 233), .ref (u.1 236), .int (0 : Int32), .ref (u.1 237), .int (0 : Int32), .ref (u.1 238)]) ∧ u.2 14 = .inr (2, [.ref (u.1 4), .ref (u.1 1), .ref (u.1 15), .ref (u.1 16), .ref (u.1 17), .int (0 : Int32), .int (0 : Int32), .int (0 : Int32)]) ∧ u.2 15 = .inl (G.2.1 2, 6, .inr (.inr (.inr (.inr (va_up (va_up (va_up (va_up (va_up (va_up (fun _ => none) 0 (some (u.1 18))) 1 (some (u.1 41))) 2 (some (u.1 64))) 3 (some (u.1 87))) 4 (some (u.1 110))) 5 (some (u.1 133))))))) ∧ u.2 17 = .inl (G.2.1 0, 4, .inl (fun _ => 0)) ∧ u.2 18 = .inr (1, [.int (0 : Int32), .int (0 : Int32), .int (0 : Int32), .int (0 : Int32), .int (0 : Int32), .int (0 : Int32), .ref (u.1 19), .ref (u.1 21), .ref (u.1 23), .ref (u.1 25), .ref (u.1 27), .ref (u.1 29), .int (0 : Int32), .int (0 : Int32)]) ∧ u.2 19 = .inr (7, [.int (4 : Int32), .int (2 : Int32), .ref (u.1 20), .int (0 : Int32)]) ∧ u.2 21 = .inr (7, [.int (12 : Int32), .int (3 : Int32), .ref (u.1 22), .int (0 : Int32)]) ∧ u.2 23 = .inr (7, [.int (5 : Int32), .int (3 : Int32), .ref (u.1 24), .int (0 : Int32)]) ∧ u.2 25 = .inr (7, [.int (4 : Int32), .int (2 : Int32), .ref (u.1 26), .int (0 : Int32)]) ∧ u.2 156 = .inr (0, [.ref (u.1 1), .ref (u.1 157), .ref (u.1 158), .int (0 : Int32), .ref (u.1 159)]) ∧ u.2 159 = .inr (7, [.int (20 : Int32), .int (4 : Int32), .ref (u.1 160), .int (0 : Int32)]) ∧ u.2 221 = .inr (5, [.ref (u.1 14), .ref (u.1 156), .ref (u.1 222), .ref (u.1 223), .ref (u.1 224)]) ∧ u.2 233 = .inr (3, [.ref (u.1 234), .int (0 : Int32), .ref (u.1 235), .int (0 : Int32), .int (0 : Int32), .int (0 : Int32), .int (0 : Int32), .int (0 : Int32), .null]) ∧ u.2 236 = .inl (G.2.1 0, 100, .inl (fun _ => 0)) ∧ u.2 238 = .inr (8, [.ref (u.1 239), .int (0 : Int32), .ref (u.1 240), .ref (u.1 241), .ref (u.1 242), .ref (u.1 243), .int (0 : Int32), .int (0 : Int32)]) ∧ ∀ k, k < 0 → u.2 k = w k)) sz) 243 4658 (tw_A 1 ad sz) := by
  refine tw_met (by decide) (Nat.le_of_ble_eq_true rfl) ?_
  intro p e s m args below meth c F hret hlk hin hargs hsz hH ls hl
  have hx := F.1.1
  have hb := F.1.2.1
  have hown := F.1.2.2.2.1
  have hts := F.1.2.2.2.2
  have hl : lv_has ls 2 [(0, .ref (ad 0))] := hl
  generalize hH0 : s.heap = H at hH ⊢
  refine lv_aload_n hx hb dX11_init_0 rfl (lv_at hl 0 rfl) ?_
  refine tw_objInit F (tw_gl kw_31 rfl) (tw_gl kw_32 rfl) (tw_gl kw_33 rfl) hl.1 ⟨(Nat.le_of_ble_eq_true rfl), (Nat.le_of_ble_eq_true rfl)⟩ (Nat.le_of_ble_eq_true rfl) dX11_init_1 ?_
  refine tw_new (ci := 4) (T := TX4) F hH rfl iw_X4 tyX4 tyX4_ok (tw_gl kw_34 rfl) (tw_gl kw_35 rfl) (tw_gl kw_2 rfl) kd_X4 (Nat.le_of_ble_eq_true rfl) (Nat.le_of_ble_eq_true rfl) dX11_init_4 (fun H locs ad4 w1 ha5 hw2 hne3 hH => ?_)
  refine lv_dup hx hb dX11_init_7 rfl ?_
  refine tw_calln F hH (tw_runI (r := 1) (As := []) (rest := [.ref (ad4 1)]) F hH (c_X4_init l G 1 ad4 w1 H.size hw2) (tw_gl kw_36 rfl) km_X4_init (tw_gl kw_37 rfl) rfl rfl rfl ⟨(Nat.le_of_ble_eq_true rfl), (Nat.le_of_ble_eq_true rfl)⟩ rfl hl.1 rfl (Nat.le_of_ble_eq_true rfl) dX11_init_8 ⟨(Nat.le_of_ble_eq_true rfl), (Nat.le_of_ble_eq_true rfl)⟩) (fun ad8 w6 H locs hp7 ha9 _ hH => ?_)
  obtain ⟨-, hw11, hw12, hw13, hfr14⟩ := hp7
  refine lv_astore_n (lv' := [(1, .ref (ad4 1)), (0, .ref (ad 0))]) hx hb dX11_init_11 rfl hl (by decide) rfl (fun ls hl => ?_)
  refine lv_aload_n hx hb dX11_init_12 rfl (lv_at hl 1 rfl) ?_
  refine tw_new (ci := 9) (T := TX9) F hH rfl iw_X9 tyX9 tyX9_ok (tw_gl kw_48 rfl) (tw_gl kw_49 rfl) (tw_gl kw_3 rfl) kd_X9 (Nat.le_of_ble_eq_true rfl) (Nat.le_of_ble_eq_true rfl) dX11_init_13 (fun H locs ad18 w15 ha19 hw16 hne17 hH => ?_)
  refine lv_dup hx hb dX11_init_16 rfl ?_
  refine tw_calln F hH (tw_runI (r := 4) (As := []) (rest := [.ref (ad18 4), .ref (ad 0)]) F hH (c_X9_init l G ad18 w15 H.size hw16) (tw_gl kw_50 rfl) km_X9_init (tw_gl kw_51 rfl) rfl rfl rfl ⟨(Nat.le_of_ble_eq_true rfl), (Nat.le_of_ble_eq_true rfl)⟩ rfl hl.1 rfl (Nat.le_of_ble_eq_true rfl) dX11_init_17 ⟨(Nat.le_of_ble_eq_true rfl), (Nat.le_of_ble_eq_true rfl)⟩) (fun ad22 w20 H locs hp21 ha23 _ hH => ?_)
  obtain ⟨-, hw25, hw26, hw27, hw28, hw29, hw30, hw31, hw32, hw33, hw34, hfr35⟩ := hp21
  have hw36 : w20 0 = .inr (11, [.null, .null, .null, .null, .null, .null, .null, .int (0 : Int32), .null, .int (0 : Int32), .null]) := (hfr35 0 (by omega)).trans ((hne17 0 (by decide)).trans ((hfr14 0 (by omega)).trans ((hne3 0 (by decide)).trans (hw_0))))
  have ha40 : ad22 0 = ad 0 := ((((ha23 0 (by decide)).trans (ha19 0 (by decide))).trans (ha9 0 (by decide))).trans (ha5 0 (by decide)))
  refine tw_putF (r := 0) F hH kf_RX11_15 kp_X11_0 hin rfl ha40 (by decide) hw36 (Nat.le_of_ble_eq_true rfl) rfl rfl dX11_init_20 (fun H locs w37 hw38 hne39 hH => ?_)
  have hw38 : w37 0 = .inr (11, [.ref (ad18 4), .null, .null, .null, .null, .null, .null, .int (0 : Int32), .null, .int (0 : Int32), .null]) := hw38
  refine lv_aload_n hx hb dX11_init_23 rfl (lv_at hl 1 rfl) ?_
  refine tw_new (ci := 2) (T := TX2) F hH rfl iw_X2 tyX2 tyX2_ok (tw_gl kw_135 rfl) (tw_gl kw_136 rfl) (tw_gl kw_6 rfl) kd_X2 (Nat.le_of_ble_eq_true rfl) (Nat.le_of_ble_eq_true rfl) dX11_init_24 (fun H locs ad44 w41 ha45 hw42 hne43 hH => ?_)
  refine lv_dup hx hb dX11_init_27 rfl ?_
  refine lv_aload_n hx hb dX11_init_28 rfl (lv_at hl 1 rfl) ?_
  have hw46 : w41 0 = .inr (11, [.ref (ad18 4), .null, .null, .null, .null, .null, .null, .int (0 : Int32), .null, .int (0 : Int32), .null]) := (hne43 0 (by decide)).trans (hw38)
  have ha47 : ad44 0 = ad 0 := ((ha45 0 (by decide)).trans ha40)
  refine tw_get (r := 0) F hH kf_RX11_15 ha47 (by decide) hw46 rfl dX11_init_29 ?_
  refine lv_aload_n hx hb dX11_init_32 rfl (lv_at hl 0 rfl) ?_
  have ha48 : ad44 4 = ad18 4 := ((ha45 4 (by decide)).trans (ha23 4 (by decide)))
  rw [show ad18 4 = ad44 4 from ha48.symm]
  have ha49 : ad44 1 = ad4 1 := ((((ha45 1 (by decide)).trans (ha23 1 (by decide))).trans (ha19 1 (by decide))).trans (ha9 1 (by decide)))
  rw [show ad4 1 = ad44 1 from ha49.symm]
  refine tw_calln F hH (tw_runI (r := 14) (As := [.ref (ad44 4), .ref (ad44 1)]) (rest := [.ref (ad44 14), .ref (ad 0)]) F hH (c_X2_init l G ad44 w41 H.size hw42) (tw_gl kw_137 rfl) km_X2_init (tw_gl kw_138 rfl) rfl rfl rfl ⟨(Nat.le_of_ble_eq_true rfl), (Nat.le_of_ble_eq_true rfl)⟩ rfl hl.1 rfl (Nat.le_of_ble_eq_true rfl) dX11_init_33 ⟨(Nat.le_of_ble_eq_true rfl), (Nat.le_of_ble_eq_true rfl)⟩) (fun ad52 w50 H locs hp51 ha53 _ hH => ?_)
  obtain ⟨-, hw55, hw56, hw57, hw58, hw59, hw60, hw61, hw62, hfr63⟩ := hp51
  have hw64 : w50 0 = .inr (11, [.ref (ad18 4), .null, .null, .null, .null, .null, .null, .int (0 : Int32), .null, .int (0 : Int32), .null]) := (hfr63 0 (by omega)).trans (hw46)
  have ha68 : ad52 0 = ad 0 := ((ha53 0 (by decide)).trans ha47)
  refine tw_putF (r := 0) F hH kf_RX11_24 kp_X11_1 hin rfl ha68 (by decide) hw64 (Nat.le_of_ble_eq_true rfl) rfl rfl dX11_init_36 (fun H locs w65 hw66 hne67 hH => ?_)
  have hw66 : w65 0 = .inr (11, [.ref (ad18 4), .ref (ad44 14), .null, .null, .null, .null, .null, .int (0 : Int32), .null, .int (0 : Int32), .null]) := hw66
  refine lv_aload_n hx hb dX11_init_39 rfl (lv_at hl 1 rfl) ?_
  refine tw_new (ci := 0) (T := TX0) F hH rfl iw_X0 tyX0 tyX0_ok (tw_gl kw_383 rfl) (tw_gl kw_384 rfl) (tw_gl kw_10 rfl) kd_X0 (Nat.le_of_ble_eq_true rfl) (Nat.le_of_ble_eq_true rfl) dX11_init_40 (fun H locs ad72 w69 ha73 hw70 hne71 hH => ?_)
  refine lv_dup hx hb dX11_init_43 rfl ?_
  refine lv_aload_n hx hb dX11_init_44 rfl (lv_at hl 0 rfl) ?_
  have ha74 : ad72 1 = ad4 1 := (((ha73 1 (by decide)).trans (ha53 1 (by decide))).trans ha49)
  rw [show ad4 1 = ad72 1 from ha74.symm]
  refine tw_calln F hH (tw_runI (r := 156) (As := [.ref (ad72 1)]) (rest := [.ref (ad72 156), .ref (ad 0)]) F hH (c_X0_init l G ad72 w69 H.size hw70) (tw_gl kw_385 rfl) km_X0_init (tw_gl kw_386 rfl) rfl rfl rfl ⟨(Nat.le_of_ble_eq_true rfl), (Nat.le_of_ble_eq_true rfl)⟩ rfl hl.1 rfl (Nat.le_of_ble_eq_true rfl) dX11_init_45 ⟨(Nat.le_of_ble_eq_true rfl), (Nat.le_of_ble_eq_true rfl)⟩) (fun ad77 w75 H locs hp76 ha78 _ hH => ?_)
  obtain ⟨-, hw80, hw81, hfr82⟩ := hp76
  have hw83 : w75 0 = .inr (11, [.ref (ad18 4), .ref (ad44 14), .null, .null, .null, .null, .null, .int (0 : Int32), .null, .int (0 : Int32), .null]) := (hfr82 0 (by omega)).trans ((hne71 0 (by decide)).trans (hw66))
  have ha87 : ad77 0 = ad 0 := (((ha78 0 (by decide)).trans (ha73 0 (by decide))).trans ha68)
  refine tw_putF (r := 0) F hH kf_RX11_33 kp_X11_2 hin rfl ha87 (by decide) hw83 (Nat.le_of_ble_eq_true rfl) rfl rfl dX11_init_48 (fun H locs w84 hw85 hne86 hH => ?_)
  have hw85 : w84 0 = .inr (11, [.ref (ad18 4), .ref (ad44 14), .ref (ad72 156), .null, .null, .null, .null, .int (0 : Int32), .null, .int (0 : Int32), .null]) := hw85
  refine lv_aload_n hx hb dX11_init_51 rfl (lv_at hl 1 rfl) ?_
  refine tw_new (ci := 5) (T := TX5) F hH rfl iw_X5 tyX5 tyX5_ok (tw_gl kw_412 rfl) (tw_gl kw_413 rfl) (tw_gl kw_11 rfl) kd_X5 (Nat.le_of_ble_eq_true rfl) (Nat.le_of_ble_eq_true rfl) dX11_init_52 (fun H locs ad91 w88 ha92 hw89 hne90 hH => ?_)
  refine lv_dup hx hb dX11_init_55 rfl ?_
  refine lv_aload_n hx hb dX11_init_56 rfl (lv_at hl 1 rfl) ?_
  have hw93 : w88 0 = .inr (11, [.ref (ad18 4), .ref (ad44 14), .ref (ad72 156), .null, .null, .null, .null, .int (0 : Int32), .null, .int (0 : Int32), .null]) := (hne90 0 (by decide)).trans (hw85)
  have ha94 : ad91 0 = ad 0 := ((ha92 0 (by decide)).trans ha87)
  refine tw_get (r := 0) F hH kf_RX11_24 ha94 (by decide) hw93 rfl dX11_init_57 ?_
  refine lv_aload_n hx hb dX11_init_60 rfl (lv_at hl 1 rfl) ?_
  refine tw_get (r := 0) F hH kf_RX11_33 ha94 (by decide) hw93 rfl dX11_init_61 ?_
  have ha95 : ad91 14 = ad44 14 := ((((ha92 14 (by decide)).trans (ha78 14 (by decide))).trans (ha73 14 (by decide))).trans (ha53 14 (by decide)))
  rw [show ad44 14 = ad91 14 from ha95.symm]
  have ha96 : ad91 156 = ad72 156 := ((ha92 156 (by decide)).trans (ha78 156 (by decide)))
  rw [show ad72 156 = ad91 156 from ha96.symm]
  refine tw_calln F hH (tw_runI (r := 221) (As := [.ref (ad91 14), .ref (ad91 156)]) (rest := [.ref (ad91 221), .ref (ad 0)]) F hH (c_X5_init l G ad91 w88 H.size hw89) (tw_gl kw_414 rfl) km_X5_init (tw_gl kw_415 rfl) rfl rfl rfl ⟨(Nat.le_of_ble_eq_true rfl), (Nat.le_of_ble_eq_true rfl)⟩ rfl hl.1 rfl (Nat.le_of_ble_eq_true rfl) dX11_init_64 ⟨(Nat.le_of_ble_eq_true rfl), (Nat.le_of_ble_eq_true rfl)⟩) (fun ad99 w97 H locs hp98 ha100 _ hH => ?_)
  obtain ⟨-, hw102, hfr103⟩ := hp98
  have hw104 : w97 0 = .inr (11, [.ref (ad18 4), .ref (ad44 14), .ref (ad72 156), .null, .null, .null, .null, .int (0 : Int32), .null, .int (0 : Int32), .null]) := (hfr103 0 (by omega)).trans (hw93)
  have ha108 : ad99 0 = ad 0 := ((ha100 0 (by decide)).trans ha94)
  refine tw_putF (r := 0) F hH kf_RX11_42 kp_X11_3 hin rfl ha108 (by decide) hw104 (Nat.le_of_ble_eq_true rfl) rfl rfl dX11_init_67 (fun H locs w105 hw106 hne107 hH => ?_)
  have hw106 : w105 0 = .inr (11, [.ref (ad18 4), .ref (ad44 14), .ref (ad72 156), .ref (ad91 221), .null, .null, .null, .int (0 : Int32), .null, .int (0 : Int32), .null]) := hw106
  refine lv_aload_n hx hb dX11_init_70 rfl (lv_at hl 1 rfl) ?_
  refine tw_new (ci := 10) (T := TX10) F hH rfl iw_X10 tyX10 tyX10_ok (tw_gl kw_436 rfl) (tw_gl kw_437 rfl) (tw_gl kw_12 rfl) kd_X10 (Nat.le_of_ble_eq_true rfl) (Nat.le_of_ble_eq_true rfl) dX11_init_71 (fun H locs ad112 w109 ha113 hw110 hne111 hH => ?_)
  refine lv_dup hx hb dX11_init_74 rfl ?_
  refine lv_aload_n hx hb dX11_init_75 rfl (lv_at hl 1 rfl) ?_
  have hw114 : w109 0 = .inr (11, [.ref (ad18 4), .ref (ad44 14), .ref (ad72 156), .ref (ad91 221), .null, .null, .null, .int (0 : Int32), .null, .int (0 : Int32), .null]) := (hne111 0 (by decide)).trans (hw106)
  have ha115 : ad112 0 = ad 0 := ((ha113 0 (by decide)).trans ha108)
  refine tw_get (r := 0) F hH kf_RX11_24 ha115 (by decide) hw114 rfl dX11_init_76 ?_
  refine lv_aload_n hx hb dX11_init_79 rfl (lv_at hl 1 rfl) ?_
  refine tw_get (r := 0) F hH kf_RX11_42 ha115 (by decide) hw114 rfl dX11_init_80 ?_
  have ha116 : ad112 14 = ad44 14 := (((ha113 14 (by decide)).trans (ha100 14 (by decide))).trans ha95)
  rw [show ad44 14 = ad112 14 from ha116.symm]
  have ha117 : ad112 221 = ad91 221 := ((ha113 221 (by decide)).trans (ha100 221 (by decide)))
  rw [show ad91 221 = ad112 221 from ha117.symm]
  refine tw_calln F hH (tw_runI (r := 225) (As := [.ref (ad112 14), .ref (ad112 221)]) (rest := [.ref (ad112 225), .ref (ad 0)]) F hH (c_X10_init l G ad112 w109 H.size hw110) (tw_gl kw_438 rfl) km_X10_init (tw_gl kw_439 rfl) rfl rfl rfl ⟨(Nat.le_of_ble_eq_true rfl), (Nat.le_of_ble_eq_true rfl)⟩ rfl hl.1 rfl (Nat.le_of_ble_eq_true rfl) dX11_init_83 ⟨(Nat.le_of_ble_eq_true rfl), (Nat.le_of_ble_eq_true rfl)⟩) (fun ad120 w118 H locs hp119 ha121 _ hH => ?_)
  obtain ⟨-, hfr123⟩ := hp119
  have hw124 : w118 0 = .inr (11, [.ref (ad18 4), .ref (ad44 14), .ref (ad72 156), .ref (ad91 221), .null, .null, .null, .int (0 : Int32), .null, .int (0 : Int32), .null]) := (hfr123 0 (by omega)).trans (hw114)
  have ha128 : ad120 0 = ad 0 := ((ha121 0 (by decide)).trans ha115)
  refine tw_putF (r := 0) F hH kf_RX11_51 kp_X11_4 hin rfl ha128 (by decide) hw124 (Nat.le_of_ble_eq_true rfl) rfl rfl dX11_init_86 (fun H locs w125 hw126 hne127 hH => ?_)
  have hw126 : w125 0 = .inr (11, [.ref (ad18 4), .ref (ad44 14), .ref (ad72 156), .ref (ad91 221), .ref (ad112 225), .null, .null, .int (0 : Int32), .null, .int (0 : Int32), .null]) := hw126
  refine lv_aload_n hx hb dX11_init_89 rfl (lv_at hl 1 rfl) ?_
  refine tw_new (ci := 3) (T := TX3) F hH rfl iw_X3 tyX3 tyX3_ok (tw_gl kw_478 rfl) (tw_gl kw_479 rfl) (tw_gl kw_13 rfl) kd_X3 (Nat.le_of_ble_eq_true rfl) (Nat.le_of_ble_eq_true rfl) dX11_init_90 (fun H locs ad132 w129 ha133 hw130 hne131 hH => ?_)
  refine lv_dup hx hb dX11_init_93 rfl ?_
  refine tw_calln F hH (tw_runI (r := 233) (As := []) (rest := [.ref (ad132 233), .ref (ad 0)]) F hH (c_X3_init l G ad132 w129 H.size hw130) (tw_gl kw_480 rfl) km_X3_init (tw_gl kw_481 rfl) rfl rfl rfl ⟨(Nat.le_of_ble_eq_true rfl), (Nat.le_of_ble_eq_true rfl)⟩ rfl hl.1 rfl (Nat.le_of_ble_eq_true rfl) dX11_init_94 ⟨(Nat.le_of_ble_eq_true rfl), (Nat.le_of_ble_eq_true rfl)⟩) (fun ad136 w134 H locs hp135 ha137 _ hH => ?_)
  obtain ⟨-, hw139, hfr140⟩ := hp135
  have hw141 : w134 0 = .inr (11, [.ref (ad18 4), .ref (ad44 14), .ref (ad72 156), .ref (ad91 221), .ref (ad112 225), .null, .null, .int (0 : Int32), .null, .int (0 : Int32), .null]) := (hfr140 0 (by omega)).trans ((hne131 0 (by decide)).trans (hw126))
  have ha145 : ad136 0 = ad 0 := (((ha137 0 (by decide)).trans (ha133 0 (by decide))).trans ha128)
  refine tw_putF (r := 0) F hH kf_RX11_58 kp_X11_5 hin rfl ha145 (by decide) hw141 (Nat.le_of_ble_eq_true rfl) rfl rfl dX11_init_97 (fun H locs w142 hw143 hne144 hH => ?_)
  have hw143 : w142 0 = .inr (11, [.ref (ad18 4), .ref (ad44 14), .ref (ad72 156), .ref (ad91 221), .ref (ad112 225), .ref (ad132 233), .null, .int (0 : Int32), .null, .int (0 : Int32), .null]) := hw143
  refine lv_aload_n hx hb dX11_init_100 rfl (lv_at hl 1 rfl) ?_
  refine lv_bipush (v := 100) hx hb dX11_init_101 (by decide) ?_
  refine tw_newa (t := 0) (atype := .int) (ty := .int) (n' := 100) (a0 := (100, .inl (fun _ => 0))) F hH rfl (fun C h => by cases h) (tw_gl kw_47 rfl) rfl (fun _ => rfl) (by decide) (Nat.le_of_ble_eq_true rfl) (Nat.le_of_ble_eq_true rfl) (Nat.le_of_ble_eq_true rfl) dX11_init_103 (fun H locs ad149 w146 ha150 hw147 hne148 hH => ?_)
  have hw151 : w146 0 = .inr (11, [.ref (ad18 4), .ref (ad44 14), .ref (ad72 156), .ref (ad91 221), .ref (ad112 225), .ref (ad132 233), .null, .int (0 : Int32), .null, .int (0 : Int32), .null]) := (hne148 0 (by decide)).trans (hw143)
  have ha155 : ad149 0 = ad 0 := ((ha150 0 (by decide)).trans ha145)
  refine tw_putF (r := 0) F hH kf_RX11_62 kp_X11_6 hin rfl ha155 (by decide) hw151 (Nat.le_of_ble_eq_true rfl) rfl rfl dX11_init_105 (fun H locs w152 hw153 hne154 hH => ?_)
  have hw153 : w152 0 = .inr (11, [.ref (ad18 4), .ref (ad44 14), .ref (ad72 156), .ref (ad91 221), .ref (ad112 225), .ref (ad132 233), .ref (ad149 236), .int (0 : Int32), .null, .int (0 : Int32), .null]) := hw153
  refine lv_aload_n hx hb dX11_init_108 rfl (lv_at hl 1 rfl) ?_
  refine lv_bipush (v := 6) hx hb dX11_init_109 (by decide) ?_
  refine tw_newa (t := 0) (atype := .int) (ty := .int) (n' := 6) (a0 := (6, .inl (fun _ => 0))) F hH rfl (fun C h => by cases h) (tw_gl kw_47 rfl) rfl (fun _ => rfl) (by decide) (Nat.le_of_ble_eq_true rfl) (Nat.le_of_ble_eq_true rfl) (Nat.le_of_ble_eq_true rfl) dX11_init_111 (fun H locs ad159 w156 ha160 hw157 hne158 hH => ?_)
  have hw161 : w156 0 = .inr (11, [.ref (ad18 4), .ref (ad44 14), .ref (ad72 156), .ref (ad91 221), .ref (ad112 225), .ref (ad132 233), .ref (ad149 236), .int (0 : Int32), .null, .int (0 : Int32), .null]) := (hne158 0 (by decide)).trans (hw153)
  have ha165 : ad159 0 = ad 0 := ((ha160 0 (by decide)).trans ha155)
  refine tw_putF (r := 0) F hH kf_RX11_66 kp_X11_8 hin rfl ha165 (by decide) hw161 (Nat.le_of_ble_eq_true rfl) rfl rfl dX11_init_113 (fun H locs w162 hw163 hne164 hH => ?_)
  have hw163 : w162 0 = .inr (11, [.ref (ad18 4), .ref (ad44 14), .ref (ad72 156), .ref (ad91 221), .ref (ad112 225), .ref (ad132 233), .ref (ad149 236), .int (0 : Int32), .ref (ad159 237), .int (0 : Int32), .null]) := hw163
  refine lv_aload_n hx hb dX11_init_116 rfl (lv_at hl 1 rfl) ?_
  refine tw_new (ci := 8) (T := TX8) F hH rfl iw_X8 tyX8 tyX8_ok (tw_gl kw_512 rfl) (tw_gl kw_153 rfl) (tw_gl kw_8 rfl) kd_X8 (Nat.le_of_ble_eq_true rfl) (Nat.le_of_ble_eq_true rfl) dX11_init_117 (fun H locs ad169 w166 ha170 hw167 hne168 hH => ?_)
  refine lv_dup hx hb dX11_init_120 rfl ?_
  refine tw_calln F hH (tw_runI (r := 238) (As := []) (rest := [.ref (ad169 238), .ref (ad 0)]) F hH (c_X8_init l G 238 ad169 w166 H.size hw167) (tw_gl kw_513 rfl) km_X8_init (tw_gl kw_155 rfl) rfl rfl rfl ⟨(Nat.le_of_ble_eq_true rfl), (Nat.le_of_ble_eq_true rfl)⟩ rfl hl.1 rfl (Nat.le_of_ble_eq_true rfl) dX11_init_121 ⟨(Nat.le_of_ble_eq_true rfl), (Nat.le_of_ble_eq_true rfl)⟩) (fun ad173 w171 H locs hp172 ha174 _ hH => ?_)
  obtain ⟨-, hw176, hw177, hw178, hw179, hw180, hw181, hfr182⟩ := hp172
  have hw183 : w171 0 = .inr (11, [.ref (ad18 4), .ref (ad44 14), .ref (ad72 156), .ref (ad91 221), .ref (ad112 225), .ref (ad132 233), .ref (ad149 236), .int (0 : Int32), .ref (ad159 237), .int (0 : Int32), .null]) := (hfr182 0 (by omega)).trans ((hne168 0 (by decide)).trans (hw163))
  have ha187 : ad173 0 = ad 0 := (((ha174 0 (by decide)).trans (ha170 0 (by decide))).trans ha165)
  refine tw_put (r := 0) F hH kf_RX11_72 kp_X11_10 ha187 (by decide) hw183 (Nat.le_of_ble_eq_true rfl) rfl rfl dX11_init_124 (fun H locs w184 hw185 hne186 hH => ?_)
  have hw185 : w184 0 = .inr (11, [.ref (ad18 4), .ref (ad44 14), .ref (ad72 156), .ref (ad91 221), .ref (ad112 225), .ref (ad132 233), .ref (ad149 236), .int (0 : Int32), .ref (ad159 237), .int (0 : Int32), .ref (ad169 238)]) := hw185
  have hw188 : w184 4 = .inr (9, [.int (2 : Int32), .int (1 : Int32), .ref (ad22 5), .ref (ad22 6), .ref (ad22 7), .ref (ad22 8), .ref (ad22 9), .ref (ad22 10), .ref (ad22 12)]) := (hne186 4 (by decide)).trans ((hfr182 4 (by omega)).trans ((hne168 4 (by decide)).trans ((hne164 4 (by decide)).trans ((hne158 4 (by decide)).trans ((hne154 4 (by decide)).trans ((hne148 4 (by decide)).trans ((hne144 4 (by decide)).trans ((hfr140 4 (by omega)).trans ((hne131 4 (by decide)).trans ((hne127 4 (by decide)).trans ((hfr123 4 (by omega)).trans ((hne111 4 (by decide)).trans ((hne107 4 (by decide)).trans ((hfr103 4 (by omega)).trans ((hne90 4 (by decide)).trans ((hne86 4 (by decide)).trans ((hfr82 4 (by omega)).trans ((hne71 4 (by decide)).trans ((hne67 4 (by decide)).trans ((hfr63 4 (by omega)).trans ((hne43 4 (by decide)).trans ((hne39 4 (by decide)).trans (hw26)))))))))))))))))))))))
  have ha189 : ad173 5 = ad22 5 := ((((((((((((((ha174 5 (by decide)).trans (ha170 5 (by decide))).trans (ha160 5 (by decide))).trans (ha150 5 (by decide))).trans (ha137 5 (by decide))).trans (ha133 5 (by decide))).trans (ha121 5 (by decide))).trans (ha113 5 (by decide))).trans (ha100 5 (by decide))).trans (ha92 5 (by decide))).trans (ha78 5 (by decide))).trans (ha73 5 (by decide))).trans (ha53 5 (by decide))).trans (ha45 5 (by decide)))
  have ha190 : ad173 6 = ad22 6 := ((((((((((((((ha174 6 (by decide)).trans (ha170 6 (by decide))).trans (ha160 6 (by decide))).trans (ha150 6 (by decide))).trans (ha137 6 (by decide))).trans (ha133 6 (by decide))).trans (ha121 6 (by decide))).trans (ha113 6 (by decide))).trans (ha100 6 (by decide))).trans (ha92 6 (by decide))).trans (ha78 6 (by decide))).trans (ha73 6 (by decide))).trans (ha53 6 (by decide))).trans (ha45 6 (by decide)))
  have ha191 : ad173 7 = ad22 7 := ((((((((((((((ha174 7 (by decide)).trans (ha170 7 (by decide))).trans (ha160 7 (by decide))).trans (ha150 7 (by decide))).trans (ha137 7 (by decide))).trans (ha133 7 (by decide))).trans (ha121 7 (by decide))).trans (ha113 7 (by decide))).trans (ha100 7 (by decide))).trans (ha92 7 (by decide))).trans (ha78 7 (by decide))).trans (ha73 7 (by decide))).trans (ha53 7 (by decide))).trans (ha45 7 (by decide)))
  have ha192 : ad173 8 = ad22 8 := ((((((((((((((ha174 8 (by decide)).trans (ha170 8 (by decide))).trans (ha160 8 (by decide))).trans (ha150 8 (by decide))).trans (ha137 8 (by decide))).trans (ha133 8 (by decide))).trans (ha121 8 (by decide))).trans (ha113 8 (by decide))).trans (ha100 8 (by decide))).trans (ha92 8 (by decide))).trans (ha78 8 (by decide))).trans (ha73 8 (by decide))).trans (ha53 8 (by decide))).trans (ha45 8 (by decide)))
  have ha193 : ad173 9 = ad22 9 := ((((((((((((((ha174 9 (by decide)).trans (ha170 9 (by decide))).trans (ha160 9 (by decide))).trans (ha150 9 (by decide))).trans (ha137 9 (by decide))).trans (ha133 9 (by decide))).trans (ha121 9 (by decide))).trans (ha113 9 (by decide))).trans (ha100 9 (by decide))).trans (ha92 9 (by decide))).trans (ha78 9 (by decide))).trans (ha73 9 (by decide))).trans (ha53 9 (by decide))).trans (ha45 9 (by decide)))
  have ha194 : ad173 10 = ad22 10 := ((((((((((((((ha174 10 (by decide)).trans (ha170 10 (by decide))).trans (ha160 10 (by decide))).trans (ha150 10 (by decide))).trans (ha137 10 (by decide))).trans (ha133 10 (by decide))).trans (ha121 10 (by decide))).trans (ha113 10 (by decide))).trans (ha100 10 (by decide))).trans (ha92 10 (by decide))).trans (ha78 10 (by decide))).trans (ha73 10 (by decide))).trans (ha53 10 (by decide))).trans (ha45 10 (by decide)))
  have ha195 : ad173 12 = ad22 12 := ((((((((((((((ha174 12 (by decide)).trans (ha170 12 (by decide))).trans (ha160 12 (by decide))).trans (ha150 12 (by decide))).trans (ha137 12 (by decide))).trans (ha133 12 (by decide))).trans (ha121 12 (by decide))).trans (ha113 12 (by decide))).trans (ha100 12 (by decide))).trans (ha92 12 (by decide))).trans (ha78 12 (by decide))).trans (ha73 12 (by decide))).trans (ha53 12 (by decide))).trans (ha45 12 (by decide)))
  have hw196 : w184 4 = .inr (9, [.int (2 : Int32), .int (1 : Int32), .ref (ad173 5), .ref (ad173 6), .ref (ad173 7), .ref (ad173 8), .ref (ad173 9), .ref (ad173 10), .ref (ad173 12)]) := by rw [hw188]; rw [show ad22 5 = ad173 5 from ha189.symm, show ad22 6 = ad173 6 from ha190.symm, show ad22 7 = ad173 7 from ha191.symm, show ad22 8 = ad173 8 from ha192.symm, show ad22 9 = ad173 9 from ha193.symm, show ad22 10 = ad173 10 from ha194.symm, show ad22 12 = ad173 12 from ha195.symm]
  have hw197 : w184 5 = .inl (G.2.1 0, 5, .inl (upd (upd (upd (upd (upd (fun _ => 0) 0 (20000 : Int32)) 1 (20000 : Int32)) 2 (20000 : Int32)) 3 (20000 : Int32)) 4 (20000 : Int32))) := (hne186 5 (by decide)).trans ((hfr182 5 (by omega)).trans ((hne168 5 (by decide)).trans ((hne164 5 (by decide)).trans ((hne158 5 (by decide)).trans ((hne154 5 (by decide)).trans ((hne148 5 (by decide)).trans ((hne144 5 (by decide)).trans ((hfr140 5 (by omega)).trans ((hne131 5 (by decide)).trans ((hne127 5 (by decide)).trans ((hfr123 5 (by omega)).trans ((hne111 5 (by decide)).trans ((hne107 5 (by decide)).trans ((hfr103 5 (by omega)).trans ((hne90 5 (by decide)).trans ((hne86 5 (by decide)).trans ((hfr82 5 (by omega)).trans ((hne71 5 (by decide)).trans ((hne67 5 (by decide)).trans ((hfr63 5 (by omega)).trans ((hne43 5 (by decide)).trans ((hne39 5 (by decide)).trans (hw25)))))))))))))))))))))))
  have hw198 : w184 6 = .inl (G.2.1 0, 5, .inl (upd (upd (upd (upd (upd (fun _ => 0) 0 (300 : Int32)) 1 (300 : Int32)) 2 (300 : Int32)) 3 (300 : Int32)) 4 (300 : Int32))) := (hne186 6 (by decide)).trans ((hfr182 6 (by omega)).trans ((hne168 6 (by decide)).trans ((hne164 6 (by decide)).trans ((hne158 6 (by decide)).trans ((hne154 6 (by decide)).trans ((hne148 6 (by decide)).trans ((hne144 6 (by decide)).trans ((hfr140 6 (by omega)).trans ((hne131 6 (by decide)).trans ((hne127 6 (by decide)).trans ((hfr123 6 (by omega)).trans ((hne111 6 (by decide)).trans ((hne107 6 (by decide)).trans ((hfr103 6 (by omega)).trans ((hne90 6 (by decide)).trans ((hne86 6 (by decide)).trans ((hfr82 6 (by omega)).trans ((hne71 6 (by decide)).trans ((hne67 6 (by decide)).trans ((hfr63 6 (by omega)).trans ((hne43 6 (by decide)).trans ((hne39 6 (by decide)).trans (hw27)))))))))))))))))))))))
  have hw199 : w184 7 = .inl (G.2.1 1, 5, .inl (upd (upd (upd (upd (upd (fun _ => 0) 0 (0 : Int32)) 1 (0 : Int32)) 2 (0 : Int32)) 3 (0 : Int32)) 4 (0 : Int32))) := (hne186 7 (by decide)).trans ((hfr182 7 (by omega)).trans ((hne168 7 (by decide)).trans ((hne164 7 (by decide)).trans ((hne158 7 (by decide)).trans ((hne154 7 (by decide)).trans ((hne148 7 (by decide)).trans ((hne144 7 (by decide)).trans ((hfr140 7 (by omega)).trans ((hne131 7 (by decide)).trans ((hne127 7 (by decide)).trans ((hfr123 7 (by omega)).trans ((hne111 7 (by decide)).trans ((hne107 7 (by decide)).trans ((hfr103 7 (by omega)).trans ((hne90 7 (by decide)).trans ((hne86 7 (by decide)).trans ((hfr82 7 (by omega)).trans ((hne71 7 (by decide)).trans ((hne67 7 (by decide)).trans ((hfr63 7 (by omega)).trans ((hne43 7 (by decide)).trans ((hne39 7 (by decide)).trans (hw28)))))))))))))))))))))))
  have hw200 : w184 8 = .inl (G.2.1 0, 24, .inl (upd (upd (upd (upd (upd (upd (upd (upd (upd (upd (upd (upd (upd (upd (upd (upd (upd (upd (upd (upd (upd (upd (upd (upd (fun _ => 0) 0 (0 : Int32)) 1 (10 : Int32)) 2 (40 : Int32)) 3 (1000 : Int32)) 4 (0 : Int32)) 5 (5 : Int32)) 6 (0 : Int32)) 7 (10 : Int32)) 8 (40 : Int32)) 9 (1000 : Int32)) 10 (0 : Int32)) 11 (5 : Int32)) 12 (0 : Int32)) 13 (10 : Int32)) 14 (40 : Int32)) 15 (1000 : Int32)) 16 (0 : Int32)) 17 (5 : Int32)) 18 (0 : Int32)) 19 (10 : Int32)) 20 (40 : Int32)) 21 (1000 : Int32)) 22 (0 : Int32)) 23 (5 : Int32))) := (hne186 8 (by decide)).trans ((hfr182 8 (by omega)).trans ((hne168 8 (by decide)).trans ((hne164 8 (by decide)).trans ((hne158 8 (by decide)).trans ((hne154 8 (by decide)).trans ((hne148 8 (by decide)).trans ((hne144 8 (by decide)).trans ((hfr140 8 (by omega)).trans ((hne131 8 (by decide)).trans ((hne127 8 (by decide)).trans ((hfr123 8 (by omega)).trans ((hne111 8 (by decide)).trans ((hne107 8 (by decide)).trans ((hfr103 8 (by omega)).trans ((hne90 8 (by decide)).trans ((hne86 8 (by decide)).trans ((hfr82 8 (by omega)).trans ((hne71 8 (by decide)).trans ((hne67 8 (by decide)).trans ((hfr63 8 (by omega)).trans ((hne43 8 (by decide)).trans ((hne39 8 (by decide)).trans (hw29)))))))))))))))))))))))
  have hw201 : w184 9 = .inl (G.2.1 0, 8, .inl (upd (upd (upd (upd (upd (upd (upd (upd (fun _ => 0) 0 (500 : Int32)) 1 (5 : Int32)) 2 (200 : Int32)) 3 (15000 : Int32)) 4 (3000 : Int32)) 5 (50 : Int32)) 6 (300 : Int32)) 7 (0 : Int32))) := (hne186 9 (by decide)).trans ((hfr182 9 (by omega)).trans ((hne168 9 (by decide)).trans ((hne164 9 (by decide)).trans ((hne158 9 (by decide)).trans ((hne154 9 (by decide)).trans ((hne148 9 (by decide)).trans ((hne144 9 (by decide)).trans ((hfr140 9 (by omega)).trans ((hne131 9 (by decide)).trans ((hne127 9 (by decide)).trans ((hfr123 9 (by omega)).trans ((hne111 9 (by decide)).trans ((hne107 9 (by decide)).trans ((hfr103 9 (by omega)).trans ((hne90 9 (by decide)).trans ((hne86 9 (by decide)).trans ((hfr82 9 (by omega)).trans ((hne71 9 (by decide)).trans ((hne67 9 (by decide)).trans ((hfr63 9 (by omega)).trans ((hne43 9 (by decide)).trans ((hne39 9 (by decide)).trans (hw30)))))))))))))))))))))))
  have hw202 : w184 10 = .inr (7, [.int (30 : Int32), .int (3 : Int32), .ref (ad22 11), .int (0 : Int32)]) := (hne186 10 (by decide)).trans ((hfr182 10 (by omega)).trans ((hne168 10 (by decide)).trans ((hne164 10 (by decide)).trans ((hne158 10 (by decide)).trans ((hne154 10 (by decide)).trans ((hne148 10 (by decide)).trans ((hne144 10 (by decide)).trans ((hfr140 10 (by omega)).trans ((hne131 10 (by decide)).trans ((hne127 10 (by decide)).trans ((hfr123 10 (by omega)).trans ((hne111 10 (by decide)).trans ((hne107 10 (by decide)).trans ((hfr103 10 (by omega)).trans ((hne90 10 (by decide)).trans ((hne86 10 (by decide)).trans ((hfr82 10 (by omega)).trans ((hne71 10 (by decide)).trans ((hne67 10 (by decide)).trans ((hfr63 10 (by omega)).trans ((hne43 10 (by decide)).trans ((hne39 10 (by decide)).trans (hw31)))))))))))))))))))))))
  have ha203 : ad173 11 = ad22 11 := ((((((((((((((ha174 11 (by decide)).trans (ha170 11 (by decide))).trans (ha160 11 (by decide))).trans (ha150 11 (by decide))).trans (ha137 11 (by decide))).trans (ha133 11 (by decide))).trans (ha121 11 (by decide))).trans (ha113 11 (by decide))).trans (ha100 11 (by decide))).trans (ha92 11 (by decide))).trans (ha78 11 (by decide))).trans (ha73 11 (by decide))).trans (ha53 11 (by decide))).trans (ha45 11 (by decide)))
  have hw204 : w184 10 = .inr (7, [.int (30 : Int32), .int (3 : Int32), .ref (ad173 11), .int (0 : Int32)]) := by rw [hw202]; rw [show ad22 11 = ad173 11 from ha203.symm]
  have hw205 : w184 11 = .inl (G.2.1 0, 90, .inl (fun _ => 0)) := (hne186 11 (by decide)).trans ((hfr182 11 (by omega)).trans ((hne168 11 (by decide)).trans ((hne164 11 (by decide)).trans ((hne158 11 (by decide)).trans ((hne154 11 (by decide)).trans ((hne148 11 (by decide)).trans ((hne144 11 (by decide)).trans ((hfr140 11 (by omega)).trans ((hne131 11 (by decide)).trans ((hne127 11 (by decide)).trans ((hfr123 11 (by omega)).trans ((hne111 11 (by decide)).trans ((hne107 11 (by decide)).trans ((hfr103 11 (by omega)).trans ((hne90 11 (by decide)).trans ((hne86 11 (by decide)).trans ((hfr82 11 (by omega)).trans ((hne71 11 (by decide)).trans ((hne67 11 (by decide)).trans ((hfr63 11 (by omega)).trans ((hne43 11 (by decide)).trans ((hne39 11 (by decide)).trans (hw32)))))))))))))))))))))))
  have hw206 : w184 12 = .inr (7, [.int (20 : Int32), .int (4 : Int32), .ref (ad22 13), .int (0 : Int32)]) := (hne186 12 (by decide)).trans ((hfr182 12 (by omega)).trans ((hne168 12 (by decide)).trans ((hne164 12 (by decide)).trans ((hne158 12 (by decide)).trans ((hne154 12 (by decide)).trans ((hne148 12 (by decide)).trans ((hne144 12 (by decide)).trans ((hfr140 12 (by omega)).trans ((hne131 12 (by decide)).trans ((hne127 12 (by decide)).trans ((hfr123 12 (by omega)).trans ((hne111 12 (by decide)).trans ((hne107 12 (by decide)).trans ((hfr103 12 (by omega)).trans ((hne90 12 (by decide)).trans ((hne86 12 (by decide)).trans ((hfr82 12 (by omega)).trans ((hne71 12 (by decide)).trans ((hne67 12 (by decide)).trans ((hfr63 12 (by omega)).trans ((hne43 12 (by decide)).trans ((hne39 12 (by decide)).trans (hw33)))))))))))))))))))))))
  have ha207 : ad173 13 = ad22 13 := ((((((((((((((ha174 13 (by decide)).trans (ha170 13 (by decide))).trans (ha160 13 (by decide))).trans (ha150 13 (by decide))).trans (ha137 13 (by decide))).trans (ha133 13 (by decide))).trans (ha121 13 (by decide))).trans (ha113 13 (by decide))).trans (ha100 13 (by decide))).trans (ha92 13 (by decide))).trans (ha78 13 (by decide))).trans (ha73 13 (by decide))).trans (ha53 13 (by decide))).trans (ha45 13 (by decide)))
  have hw208 : w184 12 = .inr (7, [.int (20 : Int32), .int (4 : Int32), .ref (ad173 13), .int (0 : Int32)]) := by rw [hw206]; rw [show ad22 13 = ad173 13 from ha207.symm]
  have hw209 : w184 13 = .inl (G.2.1 0, 80, .inl (fun _ => 0)) := (hne186 13 (by decide)).trans ((hfr182 13 (by omega)).trans ((hne168 13 (by decide)).trans ((hne164 13 (by decide)).trans ((hne158 13 (by decide)).trans ((hne154 13 (by decide)).trans ((hne148 13 (by decide)).trans ((hne144 13 (by decide)).trans ((hfr140 13 (by omega)).trans ((hne131 13 (by decide)).trans ((hne127 13 (by decide)).trans ((hfr123 13 (by omega)).trans ((hne111 13 (by decide)).trans ((hne107 13 (by decide)).trans ((hfr103 13 (by omega)).trans ((hne90 13 (by decide)).trans ((hne86 13 (by decide)).trans ((hfr82 13 (by omega)).trans ((hne71 13 (by decide)).trans ((hne67 13 (by decide)).trans ((hfr63 13 (by omega)).trans ((hne43 13 (by decide)).trans ((hne39 13 (by decide)).trans (hw34)))))))))))))))))))))))
  have ha210 : ad173 4 = ad18 4 := ((((((((((((((ha174 4 (by decide)).trans (ha170 4 (by decide))).trans (ha160 4 (by decide))).trans (ha150 4 (by decide))).trans (ha137 4 (by decide))).trans (ha133 4 (by decide))).trans (ha121 4 (by decide))).trans (ha113 4 (by decide))).trans (ha100 4 (by decide))).trans (ha92 4 (by decide))).trans (ha78 4 (by decide))).trans (ha73 4 (by decide))).trans (ha53 4 (by decide))).trans ha48)
  have ha211 : ad173 14 = ad44 14 := ((((((((ha174 14 (by decide)).trans (ha170 14 (by decide))).trans (ha160 14 (by decide))).trans (ha150 14 (by decide))).trans (ha137 14 (by decide))).trans (ha133 14 (by decide))).trans (ha121 14 (by decide))).trans ha116)
  have ha212 : ad173 156 = ad72 156 := ((((((((((ha174 156 (by decide)).trans (ha170 156 (by decide))).trans (ha160 156 (by decide))).trans (ha150 156 (by decide))).trans (ha137 156 (by decide))).trans (ha133 156 (by decide))).trans (ha121 156 (by decide))).trans (ha113 156 (by decide))).trans (ha100 156 (by decide))).trans ha96)
  have ha213 : ad173 221 = ad91 221 := ((((((((ha174 221 (by decide)).trans (ha170 221 (by decide))).trans (ha160 221 (by decide))).trans (ha150 221 (by decide))).trans (ha137 221 (by decide))).trans (ha133 221 (by decide))).trans (ha121 221 (by decide))).trans ha117)
  have ha214 : ad173 225 = ad112 225 := (((((((ha174 225 (by decide)).trans (ha170 225 (by decide))).trans (ha160 225 (by decide))).trans (ha150 225 (by decide))).trans (ha137 225 (by decide))).trans (ha133 225 (by decide))).trans (ha121 225 (by decide)))
  have ha215 : ad173 233 = ad132 233 := (((((ha174 233 (by decide)).trans (ha170 233 (by decide))).trans (ha160 233 (by decide))).trans (ha150 233 (by decide))).trans (ha137 233 (by decide)))
  have ha216 : ad173 236 = ad149 236 := (((ha174 236 (by decide)).trans (ha170 236 (by decide))).trans (ha160 236 (by decide)))
  have ha217 : ad173 237 = ad159 237 := ((ha174 237 (by decide)).trans (ha170 237 (by decide)))
  have ha218 : ad173 238 = ad169 238 := (ha174 238 (by decide))
  have hw219 : w184 0 = .inr (11, [.ref (ad173 4), .ref (ad173 14), .ref (ad173 156), .ref (ad173 221), .ref (ad173 225), .ref (ad173 233), .ref (ad173 236), .int (0 : Int32), .ref (ad173 237), .int (0 : Int32), .ref (ad173 238)]) := by rw [hw185]; rw [show ad18 4 = ad173 4 from ha210.symm, show ad44 14 = ad173 14 from ha211.symm, show ad72 156 = ad173 156 from ha212.symm, show ad91 221 = ad173 221 from ha213.symm, show ad112 225 = ad173 225 from ha214.symm, show ad132 233 = ad173 233 from ha215.symm, show ad149 236 = ad173 236 from ha216.symm, show ad159 237 = ad173 237 from ha217.symm, show ad169 238 = ad173 238 from ha218.symm]
  have hw220 : w184 14 = .inr (2, [.ref (ad52 4), .ref (ad52 1), .ref (ad52 15), .ref (ad52 16), .ref (ad52 17), .int (0 : Int32), .int (0 : Int32), .int (0 : Int32)]) := (hne186 14 (by decide)).trans ((hfr182 14 (by omega)).trans ((hne168 14 (by decide)).trans ((hne164 14 (by decide)).trans ((hne158 14 (by decide)).trans ((hne154 14 (by decide)).trans ((hne148 14 (by decide)).trans ((hne144 14 (by decide)).trans ((hfr140 14 (by omega)).trans ((hne131 14 (by decide)).trans ((hne127 14 (by decide)).trans ((hfr123 14 (by omega)).trans ((hne111 14 (by decide)).trans ((hne107 14 (by decide)).trans ((hfr103 14 (by omega)).trans ((hne90 14 (by decide)).trans ((hne86 14 (by decide)).trans ((hfr82 14 (by omega)).trans ((hne71 14 (by decide)).trans ((hne67 14 (by decide)).trans (hw55))))))))))))))))))))
  have ha221 : ad173 4 = ad52 4 := ((((((((((((ha174 4 (by decide)).trans (ha170 4 (by decide))).trans (ha160 4 (by decide))).trans (ha150 4 (by decide))).trans (ha137 4 (by decide))).trans (ha133 4 (by decide))).trans (ha121 4 (by decide))).trans (ha113 4 (by decide))).trans (ha100 4 (by decide))).trans (ha92 4 (by decide))).trans (ha78 4 (by decide))).trans (ha73 4 (by decide)))
  have ha222 : ad173 1 = ad52 1 := ((((((((((((ha174 1 (by decide)).trans (ha170 1 (by decide))).trans (ha160 1 (by decide))).trans (ha150 1 (by decide))).trans (ha137 1 (by decide))).trans (ha133 1 (by decide))).trans (ha121 1 (by decide))).trans (ha113 1 (by decide))).trans (ha100 1 (by decide))).trans (ha92 1 (by decide))).trans (ha78 1 (by decide))).trans (ha73 1 (by decide)))
  have ha223 : ad173 15 = ad52 15 := ((((((((((((ha174 15 (by decide)).trans (ha170 15 (by decide))).trans (ha160 15 (by decide))).trans (ha150 15 (by decide))).trans (ha137 15 (by decide))).trans (ha133 15 (by decide))).trans (ha121 15 (by decide))).trans (ha113 15 (by decide))).trans (ha100 15 (by decide))).trans (ha92 15 (by decide))).trans (ha78 15 (by decide))).trans (ha73 15 (by decide)))
  have ha224 : ad173 16 = ad52 16 := ((((((((((((ha174 16 (by decide)).trans (ha170 16 (by decide))).trans (ha160 16 (by decide))).trans (ha150 16 (by decide))).trans (ha137 16 (by decide))).trans (ha133 16 (by decide))).trans (ha121 16 (by decide))).trans (ha113 16 (by decide))).trans (ha100 16 (by decide))).trans (ha92 16 (by decide))).trans (ha78 16 (by decide))).trans (ha73 16 (by decide)))
  have ha225 : ad173 17 = ad52 17 := ((((((((((((ha174 17 (by decide)).trans (ha170 17 (by decide))).trans (ha160 17 (by decide))).trans (ha150 17 (by decide))).trans (ha137 17 (by decide))).trans (ha133 17 (by decide))).trans (ha121 17 (by decide))).trans (ha113 17 (by decide))).trans (ha100 17 (by decide))).trans (ha92 17 (by decide))).trans (ha78 17 (by decide))).trans (ha73 17 (by decide)))
  have hw226 : w184 14 = .inr (2, [.ref (ad173 4), .ref (ad173 1), .ref (ad173 15), .ref (ad173 16), .ref (ad173 17), .int (0 : Int32), .int (0 : Int32), .int (0 : Int32)]) := by rw [hw220]; rw [show ad52 4 = ad173 4 from ha221.symm, show ad52 1 = ad173 1 from ha222.symm, show ad52 15 = ad173 15 from ha223.symm, show ad52 16 = ad173 16 from ha224.symm, show ad52 17 = ad173 17 from ha225.symm]
  have hw227 : w184 15 = .inl (G.2.1 2, 6, .inr (.inr (.inr (.inr (va_up (va_up (va_up (va_up (va_up (va_up (fun _ => none) 0 (some (ad52 18))) 1 (some (ad52 41))) 2 (some (ad52 64))) 3 (some (ad52 87))) 4 (some (ad52 110))) 5 (some (ad52 133))))))) := (hne186 15 (by decide)).trans ((hfr182 15 (by omega)).trans ((hne168 15 (by decide)).trans ((hne164 15 (by decide)).trans ((hne158 15 (by decide)).trans ((hne154 15 (by decide)).trans ((hne148 15 (by decide)).trans ((hne144 15 (by decide)).trans ((hfr140 15 (by omega)).trans ((hne131 15 (by decide)).trans ((hne127 15 (by decide)).trans ((hfr123 15 (by omega)).trans ((hne111 15 (by decide)).trans ((hne107 15 (by decide)).trans ((hfr103 15 (by omega)).trans ((hne90 15 (by decide)).trans ((hne86 15 (by decide)).trans ((hfr82 15 (by omega)).trans ((hne71 15 (by decide)).trans ((hne67 15 (by decide)).trans (hw56))))))))))))))))))))
  have ha228 : ad173 18 = ad52 18 := ((((((((((((ha174 18 (by decide)).trans (ha170 18 (by decide))).trans (ha160 18 (by decide))).trans (ha150 18 (by decide))).trans (ha137 18 (by decide))).trans (ha133 18 (by decide))).trans (ha121 18 (by decide))).trans (ha113 18 (by decide))).trans (ha100 18 (by decide))).trans (ha92 18 (by decide))).trans (ha78 18 (by decide))).trans (ha73 18 (by decide)))
  have ha229 : ad173 41 = ad52 41 := ((((((((((((ha174 41 (by decide)).trans (ha170 41 (by decide))).trans (ha160 41 (by decide))).trans (ha150 41 (by decide))).trans (ha137 41 (by decide))).trans (ha133 41 (by decide))).trans (ha121 41 (by decide))).trans (ha113 41 (by decide))).trans (ha100 41 (by decide))).trans (ha92 41 (by decide))).trans (ha78 41 (by decide))).trans (ha73 41 (by decide)))
  have ha230 : ad173 64 = ad52 64 := ((((((((((((ha174 64 (by decide)).trans (ha170 64 (by decide))).trans (ha160 64 (by decide))).trans (ha150 64 (by decide))).trans (ha137 64 (by decide))).trans (ha133 64 (by decide))).trans (ha121 64 (by decide))).trans (ha113 64 (by decide))).trans (ha100 64 (by decide))).trans (ha92 64 (by decide))).trans (ha78 64 (by decide))).trans (ha73 64 (by decide)))
  have ha231 : ad173 87 = ad52 87 := ((((((((((((ha174 87 (by decide)).trans (ha170 87 (by decide))).trans (ha160 87 (by decide))).trans (ha150 87 (by decide))).trans (ha137 87 (by decide))).trans (ha133 87 (by decide))).trans (ha121 87 (by decide))).trans (ha113 87 (by decide))).trans (ha100 87 (by decide))).trans (ha92 87 (by decide))).trans (ha78 87 (by decide))).trans (ha73 87 (by decide)))
  have ha232 : ad173 110 = ad52 110 := ((((((((((((ha174 110 (by decide)).trans (ha170 110 (by decide))).trans (ha160 110 (by decide))).trans (ha150 110 (by decide))).trans (ha137 110 (by decide))).trans (ha133 110 (by decide))).trans (ha121 110 (by decide))).trans (ha113 110 (by decide))).trans (ha100 110 (by decide))).trans (ha92 110 (by decide))).trans (ha78 110 (by decide))).trans (ha73 110 (by decide)))
  have ha233 : ad173 133 = ad52 133 := ((((((((((((ha174 133 (by decide)).trans (ha170 133 (by decide))).trans (ha160 133 (by decide))).trans (ha150 133 (by decide))).trans (ha137 133 (by decide))).trans (ha133 133 (by decide))).trans (ha121 133 (by decide))).trans (ha113 133 (by decide))).trans (ha100 133 (by decide))).trans (ha92 133 (by decide))).trans (ha78 133 (by decide))).trans (ha73 133 (by decide)))
  have hw234 : w184 15 = .inl (G.2.1 2, 6, .inr (.inr (.inr (.inr (va_up (va_up (va_up (va_up (va_up (va_up (fun _ => none) 0 (some (ad173 18))) 1 (some (ad173 41))) 2 (some (ad173 64))) 3 (some (ad173 87))) 4 (some (ad173 110))) 5 (some (ad173 133))))))) := by rw [hw227]; rw [show ad52 18 = ad173 18 from ha228.symm, show ad52 41 = ad173 41 from ha229.symm, show ad52 64 = ad173 64 from ha230.symm, show ad52 87 = ad173 87 from ha231.symm, show ad52 110 = ad173 110 from ha232.symm, show ad52 133 = ad173 133 from ha233.symm]
  have hw235 : w184 17 = .inl (G.2.1 0, 4, .inl (fun _ => 0)) := (hne186 17 (by decide)).trans ((hfr182 17 (by omega)).trans ((hne168 17 (by decide)).trans ((hne164 17 (by decide)).trans ((hne158 17 (by decide)).trans ((hne154 17 (by decide)).trans ((hne148 17 (by decide)).trans ((hne144 17 (by decide)).trans ((hfr140 17 (by omega)).trans ((hne131 17 (by decide)).trans ((hne127 17 (by decide)).trans ((hfr123 17 (by omega)).trans ((hne111 17 (by decide)).trans ((hne107 17 (by decide)).trans ((hfr103 17 (by omega)).trans ((hne90 17 (by decide)).trans ((hne86 17 (by decide)).trans ((hfr82 17 (by omega)).trans ((hne71 17 (by decide)).trans ((hne67 17 (by decide)).trans (hw57))))))))))))))))))))
  have hw236 : w184 18 = .inr (1, [.int (0 : Int32), .int (0 : Int32), .int (0 : Int32), .int (0 : Int32), .int (0 : Int32), .int (0 : Int32), .ref (ad52 19), .ref (ad52 21), .ref (ad52 23), .ref (ad52 25), .ref (ad52 27), .ref (ad52 29), .int (0 : Int32), .int (0 : Int32)]) := (hne186 18 (by decide)).trans ((hfr182 18 (by omega)).trans ((hne168 18 (by decide)).trans ((hne164 18 (by decide)).trans ((hne158 18 (by decide)).trans ((hne154 18 (by decide)).trans ((hne148 18 (by decide)).trans ((hne144 18 (by decide)).trans ((hfr140 18 (by omega)).trans ((hne131 18 (by decide)).trans ((hne127 18 (by decide)).trans ((hfr123 18 (by omega)).trans ((hne111 18 (by decide)).trans ((hne107 18 (by decide)).trans ((hfr103 18 (by omega)).trans ((hne90 18 (by decide)).trans ((hne86 18 (by decide)).trans ((hfr82 18 (by omega)).trans ((hne71 18 (by decide)).trans ((hne67 18 (by decide)).trans (hw58))))))))))))))))))))
  have ha237 : ad173 19 = ad52 19 := ((((((((((((ha174 19 (by decide)).trans (ha170 19 (by decide))).trans (ha160 19 (by decide))).trans (ha150 19 (by decide))).trans (ha137 19 (by decide))).trans (ha133 19 (by decide))).trans (ha121 19 (by decide))).trans (ha113 19 (by decide))).trans (ha100 19 (by decide))).trans (ha92 19 (by decide))).trans (ha78 19 (by decide))).trans (ha73 19 (by decide)))
  have ha238 : ad173 21 = ad52 21 := ((((((((((((ha174 21 (by decide)).trans (ha170 21 (by decide))).trans (ha160 21 (by decide))).trans (ha150 21 (by decide))).trans (ha137 21 (by decide))).trans (ha133 21 (by decide))).trans (ha121 21 (by decide))).trans (ha113 21 (by decide))).trans (ha100 21 (by decide))).trans (ha92 21 (by decide))).trans (ha78 21 (by decide))).trans (ha73 21 (by decide)))
  have ha239 : ad173 23 = ad52 23 := ((((((((((((ha174 23 (by decide)).trans (ha170 23 (by decide))).trans (ha160 23 (by decide))).trans (ha150 23 (by decide))).trans (ha137 23 (by decide))).trans (ha133 23 (by decide))).trans (ha121 23 (by decide))).trans (ha113 23 (by decide))).trans (ha100 23 (by decide))).trans (ha92 23 (by decide))).trans (ha78 23 (by decide))).trans (ha73 23 (by decide)))
  have ha240 : ad173 25 = ad52 25 := ((((((((((((ha174 25 (by decide)).trans (ha170 25 (by decide))).trans (ha160 25 (by decide))).trans (ha150 25 (by decide))).trans (ha137 25 (by decide))).trans (ha133 25 (by decide))).trans (ha121 25 (by decide))).trans (ha113 25 (by decide))).trans (ha100 25 (by decide))).trans (ha92 25 (by decide))).trans (ha78 25 (by decide))).trans (ha73 25 (by decide)))
  have ha241 : ad173 27 = ad52 27 := ((((((((((((ha174 27 (by decide)).trans (ha170 27 (by decide))).trans (ha160 27 (by decide))).trans (ha150 27 (by decide))).trans (ha137 27 (by decide))).trans (ha133 27 (by decide))).trans (ha121 27 (by decide))).trans (ha113 27 (by decide))).trans (ha100 27 (by decide))).trans (ha92 27 (by decide))).trans (ha78 27 (by decide))).trans (ha73 27 (by decide)))
  have ha242 : ad173 29 = ad52 29 := ((((((((((((ha174 29 (by decide)).trans (ha170 29 (by decide))).trans (ha160 29 (by decide))).trans (ha150 29 (by decide))).trans (ha137 29 (by decide))).trans (ha133 29 (by decide))).trans (ha121 29 (by decide))).trans (ha113 29 (by decide))).trans (ha100 29 (by decide))).trans (ha92 29 (by decide))).trans (ha78 29 (by decide))).trans (ha73 29 (by decide)))
  have hw243 : w184 18 = .inr (1, [.int (0 : Int32), .int (0 : Int32), .int (0 : Int32), .int (0 : Int32), .int (0 : Int32), .int (0 : Int32), .ref (ad173 19), .ref (ad173 21), .ref (ad173 23), .ref (ad173 25), .ref (ad173 27), .ref (ad173 29), .int (0 : Int32), .int (0 : Int32)]) := by rw [hw236]; rw [show ad52 19 = ad173 19 from ha237.symm, show ad52 21 = ad173 21 from ha238.symm, show ad52 23 = ad173 23 from ha239.symm, show ad52 25 = ad173 25 from ha240.symm, show ad52 27 = ad173 27 from ha241.symm, show ad52 29 = ad173 29 from ha242.symm]
  have hw244 : w184 19 = .inr (7, [.int (4 : Int32), .int (2 : Int32), .ref (ad52 20), .int (0 : Int32)]) := (hne186 19 (by decide)).trans ((hfr182 19 (by omega)).trans ((hne168 19 (by decide)).trans ((hne164 19 (by decide)).trans ((hne158 19 (by decide)).trans ((hne154 19 (by decide)).trans ((hne148 19 (by decide)).trans ((hne144 19 (by decide)).trans ((hfr140 19 (by omega)).trans ((hne131 19 (by decide)).trans ((hne127 19 (by decide)).trans ((hfr123 19 (by omega)).trans ((hne111 19 (by decide)).trans ((hne107 19 (by decide)).trans ((hfr103 19 (by omega)).trans ((hne90 19 (by decide)).trans ((hne86 19 (by decide)).trans ((hfr82 19 (by omega)).trans ((hne71 19 (by decide)).trans ((hne67 19 (by decide)).trans (hw59))))))))))))))))))))
  have ha245 : ad173 20 = ad52 20 := ((((((((((((ha174 20 (by decide)).trans (ha170 20 (by decide))).trans (ha160 20 (by decide))).trans (ha150 20 (by decide))).trans (ha137 20 (by decide))).trans (ha133 20 (by decide))).trans (ha121 20 (by decide))).trans (ha113 20 (by decide))).trans (ha100 20 (by decide))).trans (ha92 20 (by decide))).trans (ha78 20 (by decide))).trans (ha73 20 (by decide)))
  have hw246 : w184 19 = .inr (7, [.int (4 : Int32), .int (2 : Int32), .ref (ad173 20), .int (0 : Int32)]) := by rw [hw244]; rw [show ad52 20 = ad173 20 from ha245.symm]
  have hw247 : w184 21 = .inr (7, [.int (12 : Int32), .int (3 : Int32), .ref (ad52 22), .int (0 : Int32)]) := (hne186 21 (by decide)).trans ((hfr182 21 (by omega)).trans ((hne168 21 (by decide)).trans ((hne164 21 (by decide)).trans ((hne158 21 (by decide)).trans ((hne154 21 (by decide)).trans ((hne148 21 (by decide)).trans ((hne144 21 (by decide)).trans ((hfr140 21 (by omega)).trans ((hne131 21 (by decide)).trans ((hne127 21 (by decide)).trans ((hfr123 21 (by omega)).trans ((hne111 21 (by decide)).trans ((hne107 21 (by decide)).trans ((hfr103 21 (by omega)).trans ((hne90 21 (by decide)).trans ((hne86 21 (by decide)).trans ((hfr82 21 (by omega)).trans ((hne71 21 (by decide)).trans ((hne67 21 (by decide)).trans (hw60))))))))))))))))))))
  have ha248 : ad173 22 = ad52 22 := ((((((((((((ha174 22 (by decide)).trans (ha170 22 (by decide))).trans (ha160 22 (by decide))).trans (ha150 22 (by decide))).trans (ha137 22 (by decide))).trans (ha133 22 (by decide))).trans (ha121 22 (by decide))).trans (ha113 22 (by decide))).trans (ha100 22 (by decide))).trans (ha92 22 (by decide))).trans (ha78 22 (by decide))).trans (ha73 22 (by decide)))
  have hw249 : w184 21 = .inr (7, [.int (12 : Int32), .int (3 : Int32), .ref (ad173 22), .int (0 : Int32)]) := by rw [hw247]; rw [show ad52 22 = ad173 22 from ha248.symm]
  have hw250 : w184 23 = .inr (7, [.int (5 : Int32), .int (3 : Int32), .ref (ad52 24), .int (0 : Int32)]) := (hne186 23 (by decide)).trans ((hfr182 23 (by omega)).trans ((hne168 23 (by decide)).trans ((hne164 23 (by decide)).trans ((hne158 23 (by decide)).trans ((hne154 23 (by decide)).trans ((hne148 23 (by decide)).trans ((hne144 23 (by decide)).trans ((hfr140 23 (by omega)).trans ((hne131 23 (by decide)).trans ((hne127 23 (by decide)).trans ((hfr123 23 (by omega)).trans ((hne111 23 (by decide)).trans ((hne107 23 (by decide)).trans ((hfr103 23 (by omega)).trans ((hne90 23 (by decide)).trans ((hne86 23 (by decide)).trans ((hfr82 23 (by omega)).trans ((hne71 23 (by decide)).trans ((hne67 23 (by decide)).trans (hw61))))))))))))))))))))
  have ha251 : ad173 24 = ad52 24 := ((((((((((((ha174 24 (by decide)).trans (ha170 24 (by decide))).trans (ha160 24 (by decide))).trans (ha150 24 (by decide))).trans (ha137 24 (by decide))).trans (ha133 24 (by decide))).trans (ha121 24 (by decide))).trans (ha113 24 (by decide))).trans (ha100 24 (by decide))).trans (ha92 24 (by decide))).trans (ha78 24 (by decide))).trans (ha73 24 (by decide)))
  have hw252 : w184 23 = .inr (7, [.int (5 : Int32), .int (3 : Int32), .ref (ad173 24), .int (0 : Int32)]) := by rw [hw250]; rw [show ad52 24 = ad173 24 from ha251.symm]
  have hw253 : w184 25 = .inr (7, [.int (4 : Int32), .int (2 : Int32), .ref (ad52 26), .int (0 : Int32)]) := (hne186 25 (by decide)).trans ((hfr182 25 (by omega)).trans ((hne168 25 (by decide)).trans ((hne164 25 (by decide)).trans ((hne158 25 (by decide)).trans ((hne154 25 (by decide)).trans ((hne148 25 (by decide)).trans ((hne144 25 (by decide)).trans ((hfr140 25 (by omega)).trans ((hne131 25 (by decide)).trans ((hne127 25 (by decide)).trans ((hfr123 25 (by omega)).trans ((hne111 25 (by decide)).trans ((hne107 25 (by decide)).trans ((hfr103 25 (by omega)).trans ((hne90 25 (by decide)).trans ((hne86 25 (by decide)).trans ((hfr82 25 (by omega)).trans ((hne71 25 (by decide)).trans ((hne67 25 (by decide)).trans (hw62))))))))))))))))))))
  have ha254 : ad173 26 = ad52 26 := ((((((((((((ha174 26 (by decide)).trans (ha170 26 (by decide))).trans (ha160 26 (by decide))).trans (ha150 26 (by decide))).trans (ha137 26 (by decide))).trans (ha133 26 (by decide))).trans (ha121 26 (by decide))).trans (ha113 26 (by decide))).trans (ha100 26 (by decide))).trans (ha92 26 (by decide))).trans (ha78 26 (by decide))).trans (ha73 26 (by decide)))
  have hw255 : w184 25 = .inr (7, [.int (4 : Int32), .int (2 : Int32), .ref (ad173 26), .int (0 : Int32)]) := by rw [hw253]; rw [show ad52 26 = ad173 26 from ha254.symm]
  have hw256 : w184 156 = .inr (0, [.ref (ad77 1), .ref (ad77 157), .ref (ad77 158), .int (0 : Int32), .ref (ad77 159)]) := (hne186 156 (by decide)).trans ((hfr182 156 (by omega)).trans ((hne168 156 (by decide)).trans ((hne164 156 (by decide)).trans ((hne158 156 (by decide)).trans ((hne154 156 (by decide)).trans ((hne148 156 (by decide)).trans ((hne144 156 (by decide)).trans ((hfr140 156 (by omega)).trans ((hne131 156 (by decide)).trans ((hne127 156 (by decide)).trans ((hfr123 156 (by omega)).trans ((hne111 156 (by decide)).trans ((hne107 156 (by decide)).trans ((hfr103 156 (by omega)).trans ((hne90 156 (by decide)).trans ((hne86 156 (by decide)).trans (hw80)))))))))))))))))
  have ha257 : ad173 1 = ad77 1 := ((((((((((ha174 1 (by decide)).trans (ha170 1 (by decide))).trans (ha160 1 (by decide))).trans (ha150 1 (by decide))).trans (ha137 1 (by decide))).trans (ha133 1 (by decide))).trans (ha121 1 (by decide))).trans (ha113 1 (by decide))).trans (ha100 1 (by decide))).trans (ha92 1 (by decide)))
  have ha258 : ad173 157 = ad77 157 := ((((((((((ha174 157 (by decide)).trans (ha170 157 (by decide))).trans (ha160 157 (by decide))).trans (ha150 157 (by decide))).trans (ha137 157 (by decide))).trans (ha133 157 (by decide))).trans (ha121 157 (by decide))).trans (ha113 157 (by decide))).trans (ha100 157 (by decide))).trans (ha92 157 (by decide)))
  have ha259 : ad173 158 = ad77 158 := ((((((((((ha174 158 (by decide)).trans (ha170 158 (by decide))).trans (ha160 158 (by decide))).trans (ha150 158 (by decide))).trans (ha137 158 (by decide))).trans (ha133 158 (by decide))).trans (ha121 158 (by decide))).trans (ha113 158 (by decide))).trans (ha100 158 (by decide))).trans (ha92 158 (by decide)))
  have ha260 : ad173 159 = ad77 159 := ((((((((((ha174 159 (by decide)).trans (ha170 159 (by decide))).trans (ha160 159 (by decide))).trans (ha150 159 (by decide))).trans (ha137 159 (by decide))).trans (ha133 159 (by decide))).trans (ha121 159 (by decide))).trans (ha113 159 (by decide))).trans (ha100 159 (by decide))).trans (ha92 159 (by decide)))
  have hw261 : w184 156 = .inr (0, [.ref (ad173 1), .ref (ad173 157), .ref (ad173 158), .int (0 : Int32), .ref (ad173 159)]) := by rw [hw256]; rw [show ad77 1 = ad173 1 from ha257.symm, show ad77 157 = ad173 157 from ha258.symm, show ad77 158 = ad173 158 from ha259.symm, show ad77 159 = ad173 159 from ha260.symm]
  have hw262 : w184 159 = .inr (7, [.int (20 : Int32), .int (4 : Int32), .ref (ad77 160), .int (0 : Int32)]) := (hne186 159 (by decide)).trans ((hfr182 159 (by omega)).trans ((hne168 159 (by decide)).trans ((hne164 159 (by decide)).trans ((hne158 159 (by decide)).trans ((hne154 159 (by decide)).trans ((hne148 159 (by decide)).trans ((hne144 159 (by decide)).trans ((hfr140 159 (by omega)).trans ((hne131 159 (by decide)).trans ((hne127 159 (by decide)).trans ((hfr123 159 (by omega)).trans ((hne111 159 (by decide)).trans ((hne107 159 (by decide)).trans ((hfr103 159 (by omega)).trans ((hne90 159 (by decide)).trans ((hne86 159 (by decide)).trans (hw81)))))))))))))))))
  have ha263 : ad173 160 = ad77 160 := ((((((((((ha174 160 (by decide)).trans (ha170 160 (by decide))).trans (ha160 160 (by decide))).trans (ha150 160 (by decide))).trans (ha137 160 (by decide))).trans (ha133 160 (by decide))).trans (ha121 160 (by decide))).trans (ha113 160 (by decide))).trans (ha100 160 (by decide))).trans (ha92 160 (by decide)))
  have hw264 : w184 159 = .inr (7, [.int (20 : Int32), .int (4 : Int32), .ref (ad173 160), .int (0 : Int32)]) := by rw [hw262]; rw [show ad77 160 = ad173 160 from ha263.symm]
  have hw265 : w184 221 = .inr (5, [.ref (ad99 14), .ref (ad99 156), .ref (ad99 222), .ref (ad99 223), .ref (ad99 224)]) := (hne186 221 (by decide)).trans ((hfr182 221 (by omega)).trans ((hne168 221 (by decide)).trans ((hne164 221 (by decide)).trans ((hne158 221 (by decide)).trans ((hne154 221 (by decide)).trans ((hne148 221 (by decide)).trans ((hne144 221 (by decide)).trans ((hfr140 221 (by omega)).trans ((hne131 221 (by decide)).trans ((hne127 221 (by decide)).trans ((hfr123 221 (by omega)).trans ((hne111 221 (by decide)).trans ((hne107 221 (by decide)).trans (hw102))))))))))))))
  have ha266 : ad173 14 = ad99 14 := ((((((((ha174 14 (by decide)).trans (ha170 14 (by decide))).trans (ha160 14 (by decide))).trans (ha150 14 (by decide))).trans (ha137 14 (by decide))).trans (ha133 14 (by decide))).trans (ha121 14 (by decide))).trans (ha113 14 (by decide)))
  have ha267 : ad173 156 = ad99 156 := ((((((((ha174 156 (by decide)).trans (ha170 156 (by decide))).trans (ha160 156 (by decide))).trans (ha150 156 (by decide))).trans (ha137 156 (by decide))).trans (ha133 156 (by decide))).trans (ha121 156 (by decide))).trans (ha113 156 (by decide)))
  have ha268 : ad173 222 = ad99 222 := ((((((((ha174 222 (by decide)).trans (ha170 222 (by decide))).trans (ha160 222 (by decide))).trans (ha150 222 (by decide))).trans (ha137 222 (by decide))).trans (ha133 222 (by decide))).trans (ha121 222 (by decide))).trans (ha113 222 (by decide)))
  have ha269 : ad173 223 = ad99 223 := ((((((((ha174 223 (by decide)).trans (ha170 223 (by decide))).trans (ha160 223 (by decide))).trans (ha150 223 (by decide))).trans (ha137 223 (by decide))).trans (ha133 223 (by decide))).trans (ha121 223 (by decide))).trans (ha113 223 (by decide)))
  have ha270 : ad173 224 = ad99 224 := ((((((((ha174 224 (by decide)).trans (ha170 224 (by decide))).trans (ha160 224 (by decide))).trans (ha150 224 (by decide))).trans (ha137 224 (by decide))).trans (ha133 224 (by decide))).trans (ha121 224 (by decide))).trans (ha113 224 (by decide)))
  have hw271 : w184 221 = .inr (5, [.ref (ad173 14), .ref (ad173 156), .ref (ad173 222), .ref (ad173 223), .ref (ad173 224)]) := by rw [hw265]; rw [show ad99 14 = ad173 14 from ha266.symm, show ad99 156 = ad173 156 from ha267.symm, show ad99 222 = ad173 222 from ha268.symm, show ad99 223 = ad173 223 from ha269.symm, show ad99 224 = ad173 224 from ha270.symm]
  have hw272 : w184 233 = .inr (3, [.ref (ad136 234), .int (0 : Int32), .ref (ad136 235), .int (0 : Int32), .int (0 : Int32), .int (0 : Int32), .int (0 : Int32), .int (0 : Int32), .null]) := (hne186 233 (by decide)).trans ((hfr182 233 (by omega)).trans ((hne168 233 (by decide)).trans ((hne164 233 (by decide)).trans ((hne158 233 (by decide)).trans ((hne154 233 (by decide)).trans ((hne148 233 (by decide)).trans ((hne144 233 (by decide)).trans (hw139))))))))
  have ha273 : ad173 234 = ad136 234 := ((((ha174 234 (by decide)).trans (ha170 234 (by decide))).trans (ha160 234 (by decide))).trans (ha150 234 (by decide)))
  have ha274 : ad173 235 = ad136 235 := ((((ha174 235 (by decide)).trans (ha170 235 (by decide))).trans (ha160 235 (by decide))).trans (ha150 235 (by decide)))
  have hw275 : w184 233 = .inr (3, [.ref (ad173 234), .int (0 : Int32), .ref (ad173 235), .int (0 : Int32), .int (0 : Int32), .int (0 : Int32), .int (0 : Int32), .int (0 : Int32), .null]) := by rw [hw272]; rw [show ad136 234 = ad173 234 from ha273.symm, show ad136 235 = ad173 235 from ha274.symm]
  have hw276 : w184 236 = .inl (G.2.1 0, 100, .inl (fun _ => 0)) := (hne186 236 (by decide)).trans ((hfr182 236 (by omega)).trans ((hne168 236 (by decide)).trans ((hne164 236 (by decide)).trans ((hne158 236 (by decide)).trans ((hne154 236 (by decide)).trans (hw147))))))
  have hw277 : w184 238 = .inr (8, [.ref (ad173 239), .int (0 : Int32), .ref (ad173 240), .ref (ad173 241), .ref (ad173 242), .ref (ad173 243), .int (0 : Int32), .int (0 : Int32)]) := (hne186 238 (by decide)).trans (hw177)
  exact tw_nret F hH (fun k hk => ((ha174 k (by omega)).trans ((ha170 k (by omega)).trans ((ha160 k (by omega)).trans ((ha150 k (by omega)).trans ((ha137 k (by omega)).trans ((ha133 k (by omega)).trans ((ha121 k (by omega)).trans ((ha113 k (by omega)).trans ((ha100 k (by omega)).trans ((ha92 k (by omega)).trans ((ha78 k (by omega)).trans ((ha73 k (by omega)).trans ((ha53 k (by omega)).trans ((ha45 k (by omega)).trans ((ha23 k (by omega)).trans ((ha19 k (by omega)).trans ((ha9 k (by omega)).trans (ha5 k (by omega)))))))))))))))))))) hret hlk (Nat.le_of_ble_eq_true rfl) (Nat.le_of_ble_eq_true rfl) dX11_init_127 (⟨trivial, hw196, hw197, hw198, hw199, hw200, hw201, hw204, hw205, hw208, hw209, hw219, hw226, hw234, hw235, hw243, hw246, hw249, hw252, hw255, hw261, hw264, hw271, hw275, hw276, hw277, fun k hk => absurd hk (Nat.not_lt_zero k)⟩)
set_option maxHeartbeats 4000000 in
set_option maxRecDepth 100000 in
theorem c_X9_layAnew_v2 (l : Launch) (G : tw_G) (ad : Nat → Nat) (w : Nat → va_E) (sz : Nat) (x1 : Int32) (z1 : Int) (e1 : x1.toInt = z1) (x2 : Int32) (z2 : Int) (e2 : x2.toInt = z2) (hw_4 : w 4 = .inr (9, [.int (2 : Int32), .int (1 : Int32), .ref (ad 5), .ref (ad 6), .ref (ad 7), .ref (ad 8), .ref (ad 9), .ref (ad 10), .ref (ad 12)])) (hw_5 : w 5 = .inl (G.2.1 0, 5, .inl (upd (upd (upd (upd (upd (fun _ => 0) 0 (20000 : Int32)) 1 (20000 : Int32)) 2 (20000 : Int32)) 3 (20000 : Int32)) 4 (20000 : Int32)))) (hw_6 : w 6 = .inl (G.2.1 0, 5, .inl (upd (upd (upd (upd (upd (fun _ => 0) 0 (300 : Int32)) 1 (300 : Int32)) 2 (300 : Int32)) 3 (300 : Int32)) 4 (300 : Int32)))) (hw_7 : w 7 = .inl (G.2.1 1, 5, .inl (upd (upd (upd (upd (upd (fun _ => 0) 0 (0 : Int32)) 1 (0 : Int32)) 2 (0 : Int32)) 3 (0 : Int32)) 4 (0 : Int32)))) (hw_10 : w 10 = .inr (7, [.int (30 : Int32), .int (3 : Int32), .ref (ad 11), .int (0 : Int32)])) (hw_12 : w 12 = .inr (7, [.int (20 : Int32), .int (4 : Int32), .ref (ad 13), .int (0 : Int32)])) : Met l yX9_layAnew (tw_ws yX9_layAnew cX9_layAnew 4 none) ({ frames := 0, cells := 0, slots := 0, locals := 0 }) (tw_Pre G 244 ad w sz [.ref (ad 4), .int x1, .int x2]) (tw_Qv G 244 ad (fun w1 => (True ∧ w1 4 = .inr (9, [.int x1, .int x2, .ref (ad 5), .ref (ad 6), .ref (ad 7), .ref (ad 8), .ref (ad 9), .ref (ad 10), .ref (ad 12)]) ∧ w1 5 = .inl (G.2.1 0, 5, .inl (upd (upd (upd (upd (upd (upd (upd (upd (upd (upd (fun _ => 0) 0 (20000 : Int32)) 1 (20000 : Int32)) 2 (20000 : Int32)) 3 (20000 : Int32)) 4 (20000 : Int32)) 0 (20000 : Int32)) 1 (20000 : Int32)) 2 (20000 : Int32)) 3 (20000 : Int32)) 4 (20000 : Int32))) ∧ w1 6 = .inl (G.2.1 0, 5, .inl (upd (upd (upd (upd (upd (upd (upd (upd (upd (upd (fun _ => 0) 0 (300 : Int32)) 1 (300 : Int32)) 2 (300 : Int32)) 3 (300 : Int32)) 4 (300 : Int32)) 0 (300 : Int32)) 1 (300 : Int32)) 2 (300 : Int32)) 3 (300 : Int32)) 4 (300 : Int32))) ∧ w1 7 = .inl (G.2.1 1, 5, .inl (upd (upd (upd (upd (upd (upd (upd (upd (upd (upd (fun _ => 0) 0 (0 : Int32)) 1 (0 : Int32)) 2 (0 : Int32)) 3 (0 : Int32)) 4 (0 : Int32)) 0 (0 : Int32)) 1 (0 : Int32)) 2 (0 : Int32)) 3 (0 : Int32)) 4 (0 : Int32))) ∧ w1 10 = .inr (7, [.int (30 : Int32), .int (3 : Int32), .ref (ad 11), .int (0 : Int32)]) ∧ w1 12 = .inr (7, [.int (20 : Int32), .int (4 : Int32), .ref (ad 13), .int (0 : Int32)]) ∧ ∀ k, k ≠ 4 → k ≠ 5 → k ≠ 6 → k ≠ 7 → k ≠ 10 → k ≠ 12 → w1 k = w k)) sz) 0 0 (tw_A 244 ad sz) := by
  refine tw_met (by decide) (Nat.le_of_ble_eq_true rfl) ?_
  intro p e s m args below meth c F hret hlk hin hargs hsz hH ls hl
  have hx := F.1.1
  have hb := F.1.2.1
  have hown := F.1.2.2.2.1
  have hts := F.1.2.2.2.2
  have hl : lv_has ls 4 [(0, .ref (ad 4)), (1, .int x1), (2, .int x2)] := hl
  generalize hH0 : s.heap = H at hH ⊢
  refine lv_aload_n hx hb dX9_layAnew_0 rfl (lv_at hl 0 rfl) ?_
  refine lv_iload_n hx hb dX9_layAnew_1 rfl (lv_at hl 1 rfl) ?_
  refine tw_put (r := 4) F hH kf_RX9_49 kp_X9_0 rfl (by decide) hw_4 (Nat.le_of_ble_eq_true rfl) rfl rfl dX9_layAnew_2 (fun H locs w1 hw2 hne3 hH => ?_)
  have hw2 : w1 4 = .inr (9, [.int x1, .int (1 : Int32), .ref (ad 5), .ref (ad 6), .ref (ad 7), .ref (ad 8), .ref (ad 9), .ref (ad 10), .ref (ad 12)]) := hw2
  refine lv_aload_n hx hb dX9_layAnew_5 rfl (lv_at hl 0 rfl) ?_
  refine lv_iload_n hx hb dX9_layAnew_6 rfl (lv_at hl 2 rfl) ?_
  refine tw_put (r := 4) F hH kf_RX9_53 kp_X9_1 rfl (by decide) hw2 (Nat.le_of_ble_eq_true rfl) rfl rfl dX9_layAnew_7 (fun H locs w4 hw5 hne6 hH => ?_)
  have hw5 : w4 4 = .inr (9, [.int x1, .int x2, .ref (ad 5), .ref (ad 6), .ref (ad 7), .ref (ad 8), .ref (ad 9), .ref (ad 10), .ref (ad 12)]) := hw5
  refine lv_iconst (v := 0) hx hb dX9_layAnew_10 (by decide) ?_
  refine lv_istore_n (lv' := [(3, .int (0 : Int32)), (0, .ref (ad 4)), (1, .int x1), (2, .int x2)]) hx hb dX9_layAnew_11 rfl hl (by decide) rfl (fun ls hl => ?_)
  refine lv_iload_n hx hb dX9_layAnew_12 rfl (lv_at hl 0 rfl) ?_
  refine lv_iconst (v := 5) hx hb dX9_layAnew_13 (by decide) ?_
  refine lv_icmp_ge (tgt := 48) hx hb dX9_layAnew_14 (by decide) (fun c => absurd c (by decide)) (fun _ => ?_)
  refine lv_aload_n hx hb dX9_layAnew_17 rfl (lv_at hl 1 rfl) ?_
  refine tw_get (r := 4) F hH kf_RX9_9 rfl (by decide) hw5 rfl dX9_layAnew_18 ?_
  refine lv_iload_n hx hb dX9_layAnew_21 rfl (lv_at hl 0 rfl) ?_
  refine lv_sipush (v := 20000) hx hb dX9_layAnew_22 (by decide) ?_
  have hw8 : w4 5 = .inl (G.2.1 0, 5, .inl (upd (upd (upd (upd (upd (fun _ => 0) 0 (20000 : Int32)) 1 (20000 : Int32)) 2 (20000 : Int32)) 3 (20000 : Int32)) 4 (20000 : Int32))) := (hne6 5 (by decide)).trans ((hne3 5 (by decide)).trans (hw_5))
  refine tw_iast (r := 5) (j := 0) F hH rfl (by decide) hw8 (by decide) (by decide) dX9_layAnew_25 (fun H locs w9 hw10 hne11 hH => ?_)
  refine lv_aload_n hx hb dX9_layAnew_26 rfl (lv_at hl 1 rfl) ?_
  have hw12 : w9 4 = .inr (9, [.int x1, .int x2, .ref (ad 5), .ref (ad 6), .ref (ad 7), .ref (ad 8), .ref (ad 9), .ref (ad 10), .ref (ad 12)]) := (hne11 4 (by decide)).trans (hw5)
  refine tw_get (r := 4) F hH kf_RX9_15 rfl (by decide) hw12 rfl dX9_layAnew_27 ?_
  refine lv_iload_n hx hb dX9_layAnew_30 rfl (lv_at hl 0 rfl) ?_
  refine lv_sipush (v := 300) hx hb dX9_layAnew_31 (by decide) ?_
  have hw13 : w9 6 = .inl (G.2.1 0, 5, .inl (upd (upd (upd (upd (upd (fun _ => 0) 0 (300 : Int32)) 1 (300 : Int32)) 2 (300 : Int32)) 3 (300 : Int32)) 4 (300 : Int32))) := (hne11 6 (by decide)).trans ((hne6 6 (by decide)).trans ((hne3 6 (by decide)).trans (hw_6)))
  refine tw_iast (r := 6) (j := 0) F hH rfl (by decide) hw13 (by decide) (by decide) dX9_layAnew_34 (fun H locs w14 hw15 hne16 hH => ?_)
  refine lv_aload_n hx hb dX9_layAnew_35 rfl (lv_at hl 1 rfl) ?_
  have hw17 : w14 4 = .inr (9, [.int x1, .int x2, .ref (ad 5), .ref (ad 6), .ref (ad 7), .ref (ad 8), .ref (ad 9), .ref (ad 10), .ref (ad 12)]) := (hne16 4 (by decide)).trans (hw12)
  refine tw_get (r := 4) F hH kf_RX9_18 rfl (by decide) hw17 rfl dX9_layAnew_36 ?_
  refine lv_iload_n hx hb dX9_layAnew_39 rfl (lv_at hl 0 rfl) ?_
  refine lv_iconst (v := 0) hx hb dX9_layAnew_40 (by decide) ?_
  have hw18 : w14 7 = .inl (G.2.1 1, 5, .inl (upd (upd (upd (upd (upd (fun _ => 0) 0 (0 : Int32)) 1 (0 : Int32)) 2 (0 : Int32)) 3 (0 : Int32)) 4 (0 : Int32))) := (hne16 7 (by decide)).trans ((hne11 7 (by decide)).trans ((hne6 7 (by decide)).trans ((hne3 7 (by decide)).trans (hw_7))))
  refine tw_zast (r := 7) (j := 0) F hH rfl (by decide) hw18 (by decide) (by decide) (by decide) dX9_layAnew_41 (fun H locs w19 hw20 hne21 hH => ?_)
  refine lv_iinc (v := (1 : Int32)) (lv' := [(3, .int (1 : Int32)), (0, .ref (ad 4)), (1, .int x1), (2, .int x2)]) hx hb dX9_layAnew_42 hl (k := 0) rfl (by decide) (by decide) rfl (fun ls hl => ?_)
  refine lv_goto (tgt := 12) hx hb dX9_layAnew_45 (by decide) ?_
  refine lv_iload_n hx hb dX9_layAnew_12 rfl (lv_at hl 0 rfl) ?_
  refine lv_iconst (v := 5) hx hb dX9_layAnew_13 (by decide) ?_
  refine lv_icmp_ge (tgt := 48) hx hb dX9_layAnew_14 (by decide) (fun c => absurd c (by decide)) (fun _ => ?_)
  refine lv_aload_n hx hb dX9_layAnew_17 rfl (lv_at hl 1 rfl) ?_
  have hw23 : w19 4 = .inr (9, [.int x1, .int x2, .ref (ad 5), .ref (ad 6), .ref (ad 7), .ref (ad 8), .ref (ad 9), .ref (ad 10), .ref (ad 12)]) := (hne21 4 (by decide)).trans (hw17)
  refine tw_get (r := 4) F hH kf_RX9_9 rfl (by decide) hw23 rfl dX9_layAnew_18 ?_
  refine lv_iload_n hx hb dX9_layAnew_21 rfl (lv_at hl 0 rfl) ?_
  refine lv_sipush (v := 20000) hx hb dX9_layAnew_22 (by decide) ?_
  have hw24 : w19 5 = .inl (G.2.1 0, 5, .inl (upd (upd (upd (upd (upd (upd (fun _ => 0) 0 (20000 : Int32)) 1 (20000 : Int32)) 2 (20000 : Int32)) 3 (20000 : Int32)) 4 (20000 : Int32)) 0 (20000 : Int32))) := (hne21 5 (by decide)).trans ((hne16 5 (by decide)).trans (hw10))
  refine tw_iast (r := 5) (j := 1) F hH rfl (by decide) hw24 (by decide) (by decide) dX9_layAnew_25 (fun H locs w25 hw26 hne27 hH => ?_)
  refine lv_aload_n hx hb dX9_layAnew_26 rfl (lv_at hl 1 rfl) ?_
  have hw28 : w25 4 = .inr (9, [.int x1, .int x2, .ref (ad 5), .ref (ad 6), .ref (ad 7), .ref (ad 8), .ref (ad 9), .ref (ad 10), .ref (ad 12)]) := (hne27 4 (by decide)).trans (hw23)
  refine tw_get (r := 4) F hH kf_RX9_15 rfl (by decide) hw28 rfl dX9_layAnew_27 ?_
  refine lv_iload_n hx hb dX9_layAnew_30 rfl (lv_at hl 0 rfl) ?_
  refine lv_sipush (v := 300) hx hb dX9_layAnew_31 (by decide) ?_
  have hw29 : w25 6 = .inl (G.2.1 0, 5, .inl (upd (upd (upd (upd (upd (upd (fun _ => 0) 0 (300 : Int32)) 1 (300 : Int32)) 2 (300 : Int32)) 3 (300 : Int32)) 4 (300 : Int32)) 0 (300 : Int32))) := (hne27 6 (by decide)).trans ((hne21 6 (by decide)).trans (hw15))
  refine tw_iast (r := 6) (j := 1) F hH rfl (by decide) hw29 (by decide) (by decide) dX9_layAnew_34 (fun H locs w30 hw31 hne32 hH => ?_)
  refine lv_aload_n hx hb dX9_layAnew_35 rfl (lv_at hl 1 rfl) ?_
  have hw33 : w30 4 = .inr (9, [.int x1, .int x2, .ref (ad 5), .ref (ad 6), .ref (ad 7), .ref (ad 8), .ref (ad 9), .ref (ad 10), .ref (ad 12)]) := (hne32 4 (by decide)).trans (hw28)
  refine tw_get (r := 4) F hH kf_RX9_18 rfl (by decide) hw33 rfl dX9_layAnew_36 ?_
  refine lv_iload_n hx hb dX9_layAnew_39 rfl (lv_at hl 0 rfl) ?_
  refine lv_iconst (v := 0) hx hb dX9_layAnew_40 (by decide) ?_
  have hw34 : w30 7 = .inl (G.2.1 1, 5, .inl (upd (upd (upd (upd (upd (upd (fun _ => 0) 0 (0 : Int32)) 1 (0 : Int32)) 2 (0 : Int32)) 3 (0 : Int32)) 4 (0 : Int32)) 0 (0 : Int32))) := (hne32 7 (by decide)).trans ((hne27 7 (by decide)).trans (hw20))
  refine tw_zast (r := 7) (j := 1) F hH rfl (by decide) hw34 (by decide) (by decide) (by decide) dX9_layAnew_41 (fun H locs w35 hw36 hne37 hH => ?_)
  refine lv_iinc (v := (2 : Int32)) (lv' := [(3, .int (2 : Int32)), (0, .ref (ad 4)), (1, .int x1), (2, .int x2)]) hx hb dX9_layAnew_42 hl (k := 0) rfl (by decide) (by decide) rfl (fun ls hl => ?_)
  refine lv_goto (tgt := 12) hx hb dX9_layAnew_45 (by decide) ?_
  refine lv_iload_n hx hb dX9_layAnew_12 rfl (lv_at hl 0 rfl) ?_
  refine lv_iconst (v := 5) hx hb dX9_layAnew_13 (by decide) ?_
  refine lv_icmp_ge (tgt := 48) hx hb dX9_layAnew_14 (by decide) (fun c => absurd c (by decide)) (fun _ => ?_)
  refine lv_aload_n hx hb dX9_layAnew_17 rfl (lv_at hl 1 rfl) ?_
  have hw39 : w35 4 = .inr (9, [.int x1, .int x2, .ref (ad 5), .ref (ad 6), .ref (ad 7), .ref (ad 8), .ref (ad 9), .ref (ad 10), .ref (ad 12)]) := (hne37 4 (by decide)).trans (hw33)
  refine tw_get (r := 4) F hH kf_RX9_9 rfl (by decide) hw39 rfl dX9_layAnew_18 ?_
  refine lv_iload_n hx hb dX9_layAnew_21 rfl (lv_at hl 0 rfl) ?_
  refine lv_sipush (v := 20000) hx hb dX9_layAnew_22 (by decide) ?_
  have hw40 : w35 5 = .inl (G.2.1 0, 5, .inl (upd (upd (upd (upd (upd (upd (upd (fun _ => 0) 0 (20000 : Int32)) 1 (20000 : Int32)) 2 (20000 : Int32)) 3 (20000 : Int32)) 4 (20000 : Int32)) 0 (20000 : Int32)) 1 (20000 : Int32))) := (hne37 5 (by decide)).trans ((hne32 5 (by decide)).trans (hw26))
  refine tw_iast (r := 5) (j := 2) F hH rfl (by decide) hw40 (by decide) (by decide) dX9_layAnew_25 (fun H locs w41 hw42 hne43 hH => ?_)
  refine lv_aload_n hx hb dX9_layAnew_26 rfl (lv_at hl 1 rfl) ?_
  have hw44 : w41 4 = .inr (9, [.int x1, .int x2, .ref (ad 5), .ref (ad 6), .ref (ad 7), .ref (ad 8), .ref (ad 9), .ref (ad 10), .ref (ad 12)]) := (hne43 4 (by decide)).trans (hw39)
  refine tw_get (r := 4) F hH kf_RX9_15 rfl (by decide) hw44 rfl dX9_layAnew_27 ?_
  refine lv_iload_n hx hb dX9_layAnew_30 rfl (lv_at hl 0 rfl) ?_
  refine lv_sipush (v := 300) hx hb dX9_layAnew_31 (by decide) ?_
  have hw45 : w41 6 = .inl (G.2.1 0, 5, .inl (upd (upd (upd (upd (upd (upd (upd (fun _ => 0) 0 (300 : Int32)) 1 (300 : Int32)) 2 (300 : Int32)) 3 (300 : Int32)) 4 (300 : Int32)) 0 (300 : Int32)) 1 (300 : Int32))) := (hne43 6 (by decide)).trans ((hne37 6 (by decide)).trans (hw31))
  refine tw_iast (r := 6) (j := 2) F hH rfl (by decide) hw45 (by decide) (by decide) dX9_layAnew_34 (fun H locs w46 hw47 hne48 hH => ?_)
  refine lv_aload_n hx hb dX9_layAnew_35 rfl (lv_at hl 1 rfl) ?_
  have hw49 : w46 4 = .inr (9, [.int x1, .int x2, .ref (ad 5), .ref (ad 6), .ref (ad 7), .ref (ad 8), .ref (ad 9), .ref (ad 10), .ref (ad 12)]) := (hne48 4 (by decide)).trans (hw44)
  refine tw_get (r := 4) F hH kf_RX9_18 rfl (by decide) hw49 rfl dX9_layAnew_36 ?_
  refine lv_iload_n hx hb dX9_layAnew_39 rfl (lv_at hl 0 rfl) ?_
  refine lv_iconst (v := 0) hx hb dX9_layAnew_40 (by decide) ?_
  have hw50 : w46 7 = .inl (G.2.1 1, 5, .inl (upd (upd (upd (upd (upd (upd (upd (fun _ => 0) 0 (0 : Int32)) 1 (0 : Int32)) 2 (0 : Int32)) 3 (0 : Int32)) 4 (0 : Int32)) 0 (0 : Int32)) 1 (0 : Int32))) := (hne48 7 (by decide)).trans ((hne43 7 (by decide)).trans (hw36))
  refine tw_zast (r := 7) (j := 2) F hH rfl (by decide) hw50 (by decide) (by decide) (by decide) dX9_layAnew_41 (fun H locs w51 hw52 hne53 hH => ?_)
  refine lv_iinc (v := (3 : Int32)) (lv' := [(3, .int (3 : Int32)), (0, .ref (ad 4)), (1, .int x1), (2, .int x2)]) hx hb dX9_layAnew_42 hl (k := 0) rfl (by decide) (by decide) rfl (fun ls hl => ?_)
  refine lv_goto (tgt := 12) hx hb dX9_layAnew_45 (by decide) ?_
  refine lv_iload_n hx hb dX9_layAnew_12 rfl (lv_at hl 0 rfl) ?_
  refine lv_iconst (v := 5) hx hb dX9_layAnew_13 (by decide) ?_
  refine lv_icmp_ge (tgt := 48) hx hb dX9_layAnew_14 (by decide) (fun c => absurd c (by decide)) (fun _ => ?_)
  refine lv_aload_n hx hb dX9_layAnew_17 rfl (lv_at hl 1 rfl) ?_
  have hw55 : w51 4 = .inr (9, [.int x1, .int x2, .ref (ad 5), .ref (ad 6), .ref (ad 7), .ref (ad 8), .ref (ad 9), .ref (ad 10), .ref (ad 12)]) := (hne53 4 (by decide)).trans (hw49)
  refine tw_get (r := 4) F hH kf_RX9_9 rfl (by decide) hw55 rfl dX9_layAnew_18 ?_
  refine lv_iload_n hx hb dX9_layAnew_21 rfl (lv_at hl 0 rfl) ?_
  refine lv_sipush (v := 20000) hx hb dX9_layAnew_22 (by decide) ?_
  have hw56 : w51 5 = .inl (G.2.1 0, 5, .inl (upd (upd (upd (upd (upd (upd (upd (upd (fun _ => 0) 0 (20000 : Int32)) 1 (20000 : Int32)) 2 (20000 : Int32)) 3 (20000 : Int32)) 4 (20000 : Int32)) 0 (20000 : Int32)) 1 (20000 : Int32)) 2 (20000 : Int32))) := (hne53 5 (by decide)).trans ((hne48 5 (by decide)).trans (hw42))
  refine tw_iast (r := 5) (j := 3) F hH rfl (by decide) hw56 (by decide) (by decide) dX9_layAnew_25 (fun H locs w57 hw58 hne59 hH => ?_)
  refine lv_aload_n hx hb dX9_layAnew_26 rfl (lv_at hl 1 rfl) ?_
  have hw60 : w57 4 = .inr (9, [.int x1, .int x2, .ref (ad 5), .ref (ad 6), .ref (ad 7), .ref (ad 8), .ref (ad 9), .ref (ad 10), .ref (ad 12)]) := (hne59 4 (by decide)).trans (hw55)
  refine tw_get (r := 4) F hH kf_RX9_15 rfl (by decide) hw60 rfl dX9_layAnew_27 ?_
  refine lv_iload_n hx hb dX9_layAnew_30 rfl (lv_at hl 0 rfl) ?_
  refine lv_sipush (v := 300) hx hb dX9_layAnew_31 (by decide) ?_
  have hw61 : w57 6 = .inl (G.2.1 0, 5, .inl (upd (upd (upd (upd (upd (upd (upd (upd (fun _ => 0) 0 (300 : Int32)) 1 (300 : Int32)) 2 (300 : Int32)) 3 (300 : Int32)) 4 (300 : Int32)) 0 (300 : Int32)) 1 (300 : Int32)) 2 (300 : Int32))) := (hne59 6 (by decide)).trans ((hne53 6 (by decide)).trans (hw47))
  refine tw_iast (r := 6) (j := 3) F hH rfl (by decide) hw61 (by decide) (by decide) dX9_layAnew_34 (fun H locs w62 hw63 hne64 hH => ?_)
  refine lv_aload_n hx hb dX9_layAnew_35 rfl (lv_at hl 1 rfl) ?_
  have hw65 : w62 4 = .inr (9, [.int x1, .int x2, .ref (ad 5), .ref (ad 6), .ref (ad 7), .ref (ad 8), .ref (ad 9), .ref (ad 10), .ref (ad 12)]) := (hne64 4 (by decide)).trans (hw60)
  refine tw_get (r := 4) F hH kf_RX9_18 rfl (by decide) hw65 rfl dX9_layAnew_36 ?_
  refine lv_iload_n hx hb dX9_layAnew_39 rfl (lv_at hl 0 rfl) ?_
  refine lv_iconst (v := 0) hx hb dX9_layAnew_40 (by decide) ?_
  have hw66 : w62 7 = .inl (G.2.1 1, 5, .inl (upd (upd (upd (upd (upd (upd (upd (upd (fun _ => 0) 0 (0 : Int32)) 1 (0 : Int32)) 2 (0 : Int32)) 3 (0 : Int32)) 4 (0 : Int32)) 0 (0 : Int32)) 1 (0 : Int32)) 2 (0 : Int32))) := (hne64 7 (by decide)).trans ((hne59 7 (by decide)).trans (hw52))
  refine tw_zast (r := 7) (j := 3) F hH rfl (by decide) hw66 (by decide) (by decide) (by decide) dX9_layAnew_41 (fun H locs w67 hw68 hne69 hH => ?_)
  refine lv_iinc (v := (4 : Int32)) (lv' := [(3, .int (4 : Int32)), (0, .ref (ad 4)), (1, .int x1), (2, .int x2)]) hx hb dX9_layAnew_42 hl (k := 0) rfl (by decide) (by decide) rfl (fun ls hl => ?_)
  refine lv_goto (tgt := 12) hx hb dX9_layAnew_45 (by decide) ?_
  refine lv_iload_n hx hb dX9_layAnew_12 rfl (lv_at hl 0 rfl) ?_
  refine lv_iconst (v := 5) hx hb dX9_layAnew_13 (by decide) ?_
  refine lv_icmp_ge (tgt := 48) hx hb dX9_layAnew_14 (by decide) (fun c => absurd c (by decide)) (fun _ => ?_)
  refine lv_aload_n hx hb dX9_layAnew_17 rfl (lv_at hl 1 rfl) ?_
  have hw71 : w67 4 = .inr (9, [.int x1, .int x2, .ref (ad 5), .ref (ad 6), .ref (ad 7), .ref (ad 8), .ref (ad 9), .ref (ad 10), .ref (ad 12)]) := (hne69 4 (by decide)).trans (hw65)
  refine tw_get (r := 4) F hH kf_RX9_9 rfl (by decide) hw71 rfl dX9_layAnew_18 ?_
  refine lv_iload_n hx hb dX9_layAnew_21 rfl (lv_at hl 0 rfl) ?_
  refine lv_sipush (v := 20000) hx hb dX9_layAnew_22 (by decide) ?_
  have hw72 : w67 5 = .inl (G.2.1 0, 5, .inl (upd (upd (upd (upd (upd (upd (upd (upd (upd (fun _ => 0) 0 (20000 : Int32)) 1 (20000 : Int32)) 2 (20000 : Int32)) 3 (20000 : Int32)) 4 (20000 : Int32)) 0 (20000 : Int32)) 1 (20000 : Int32)) 2 (20000 : Int32)) 3 (20000 : Int32))) := (hne69 5 (by decide)).trans ((hne64 5 (by decide)).trans (hw58))
  refine tw_iast (r := 5) (j := 4) F hH rfl (by decide) hw72 (by decide) (by decide) dX9_layAnew_25 (fun H locs w73 hw74 hne75 hH => ?_)
  refine lv_aload_n hx hb dX9_layAnew_26 rfl (lv_at hl 1 rfl) ?_
  have hw76 : w73 4 = .inr (9, [.int x1, .int x2, .ref (ad 5), .ref (ad 6), .ref (ad 7), .ref (ad 8), .ref (ad 9), .ref (ad 10), .ref (ad 12)]) := (hne75 4 (by decide)).trans (hw71)
  refine tw_get (r := 4) F hH kf_RX9_15 rfl (by decide) hw76 rfl dX9_layAnew_27 ?_
  refine lv_iload_n hx hb dX9_layAnew_30 rfl (lv_at hl 0 rfl) ?_
  refine lv_sipush (v := 300) hx hb dX9_layAnew_31 (by decide) ?_
  have hw77 : w73 6 = .inl (G.2.1 0, 5, .inl (upd (upd (upd (upd (upd (upd (upd (upd (upd (fun _ => 0) 0 (300 : Int32)) 1 (300 : Int32)) 2 (300 : Int32)) 3 (300 : Int32)) 4 (300 : Int32)) 0 (300 : Int32)) 1 (300 : Int32)) 2 (300 : Int32)) 3 (300 : Int32))) := (hne75 6 (by decide)).trans ((hne69 6 (by decide)).trans (hw63))
  refine tw_iast (r := 6) (j := 4) F hH rfl (by decide) hw77 (by decide) (by decide) dX9_layAnew_34 (fun H locs w78 hw79 hne80 hH => ?_)
  refine lv_aload_n hx hb dX9_layAnew_35 rfl (lv_at hl 1 rfl) ?_
  have hw81 : w78 4 = .inr (9, [.int x1, .int x2, .ref (ad 5), .ref (ad 6), .ref (ad 7), .ref (ad 8), .ref (ad 9), .ref (ad 10), .ref (ad 12)]) := (hne80 4 (by decide)).trans (hw76)
  refine tw_get (r := 4) F hH kf_RX9_18 rfl (by decide) hw81 rfl dX9_layAnew_36 ?_
  refine lv_iload_n hx hb dX9_layAnew_39 rfl (lv_at hl 0 rfl) ?_
  refine lv_iconst (v := 0) hx hb dX9_layAnew_40 (by decide) ?_
  have hw82 : w78 7 = .inl (G.2.1 1, 5, .inl (upd (upd (upd (upd (upd (upd (upd (upd (upd (fun _ => 0) 0 (0 : Int32)) 1 (0 : Int32)) 2 (0 : Int32)) 3 (0 : Int32)) 4 (0 : Int32)) 0 (0 : Int32)) 1 (0 : Int32)) 2 (0 : Int32)) 3 (0 : Int32))) := (hne80 7 (by decide)).trans ((hne75 7 (by decide)).trans (hw68))
  refine tw_zast (r := 7) (j := 4) F hH rfl (by decide) hw82 (by decide) (by decide) (by decide) dX9_layAnew_41 (fun H locs w83 hw84 hne85 hH => ?_)
  refine lv_iinc (v := (5 : Int32)) (lv' := [(3, .int (5 : Int32)), (0, .ref (ad 4)), (1, .int x1), (2, .int x2)]) hx hb dX9_layAnew_42 hl (k := 0) rfl (by decide) (by decide) rfl (fun ls hl => ?_)
  refine lv_goto (tgt := 12) hx hb dX9_layAnew_45 (by decide) ?_
  refine lv_iload_n hx hb dX9_layAnew_12 rfl (lv_at hl 0 rfl) ?_
  refine lv_iconst (v := 5) hx hb dX9_layAnew_13 (by decide) ?_
  refine lv_icmp_ge (tgt := 48) hx hb dX9_layAnew_14 (by decide) (fun _ => ?_) (fun c => absurd c (by decide))
  refine lv_aload_n hx hb dX9_layAnew_48 rfl (lv_at hl 1 rfl) ?_
  have hw87 : w83 4 = .inr (9, [.int x1, .int x2, .ref (ad 5), .ref (ad 6), .ref (ad 7), .ref (ad 8), .ref (ad 9), .ref (ad 10), .ref (ad 12)]) := (hne85 4 (by decide)).trans (hw81)
  refine tw_get (r := 4) F hH kf_RX9_33 rfl (by decide) hw87 rfl dX9_layAnew_49 ?_
  refine lv_iconst (v := 0) hx hb dX9_layAnew_52 (by decide) ?_
  have hw88 : w83 10 = .inr (7, [.int (30 : Int32), .int (3 : Int32), .ref (ad 11), .int (0 : Int32)]) := (hne85 10 (by decide)).trans ((hne80 10 (by decide)).trans ((hne75 10 (by decide)).trans ((hne69 10 (by decide)).trans ((hne64 10 (by decide)).trans ((hne59 10 (by decide)).trans ((hne53 10 (by decide)).trans ((hne48 10 (by decide)).trans ((hne43 10 (by decide)).trans ((hne37 10 (by decide)).trans ((hne32 10 (by decide)).trans ((hne27 10 (by decide)).trans ((hne21 10 (by decide)).trans ((hne16 10 (by decide)).trans ((hne11 10 (by decide)).trans ((hne6 10 (by decide)).trans ((hne3 10 (by decide)).trans (hw_10)))))))))))))))))
  refine tw_put (r := 10) F hH kf_RX9_56 kp_X7_3 rfl (by decide) hw88 (Nat.le_of_ble_eq_true rfl) rfl rfl dX9_layAnew_53 (fun H locs w89 hw90 hne91 hH => ?_)
  have hw90 : w89 10 = .inr (7, [.int (30 : Int32), .int (3 : Int32), .ref (ad 11), .int (0 : Int32)]) := hw90
  refine lv_aload_n hx hb dX9_layAnew_56 rfl (lv_at hl 1 rfl) ?_
  have hw92 : w89 4 = .inr (9, [.int x1, .int x2, .ref (ad 5), .ref (ad 6), .ref (ad 7), .ref (ad 8), .ref (ad 9), .ref (ad 10), .ref (ad 12)]) := (hne91 4 (by decide)).trans (hw87)
  refine tw_get (r := 4) F hH kf_RX9_37 rfl (by decide) hw92 rfl dX9_layAnew_57 ?_
  refine lv_iconst (v := 0) hx hb dX9_layAnew_60 (by decide) ?_
  have hw93 : w89 12 = .inr (7, [.int (20 : Int32), .int (4 : Int32), .ref (ad 13), .int (0 : Int32)]) := (hne91 12 (by decide)).trans ((hne85 12 (by decide)).trans ((hne80 12 (by decide)).trans ((hne75 12 (by decide)).trans ((hne69 12 (by decide)).trans ((hne64 12 (by decide)).trans ((hne59 12 (by decide)).trans ((hne53 12 (by decide)).trans ((hne48 12 (by decide)).trans ((hne43 12 (by decide)).trans ((hne37 12 (by decide)).trans ((hne32 12 (by decide)).trans ((hne27 12 (by decide)).trans ((hne21 12 (by decide)).trans ((hne16 12 (by decide)).trans ((hne11 12 (by decide)).trans ((hne6 12 (by decide)).trans ((hne3 12 (by decide)).trans (hw_12))))))))))))))))))
  refine tw_put (r := 12) F hH kf_RX9_56 kp_X7_3 rfl (by decide) hw93 (Nat.le_of_ble_eq_true rfl) rfl rfl dX9_layAnew_61 (fun H locs w94 hw95 hne96 hH => ?_)
  have hw95 : w94 12 = .inr (7, [.int (20 : Int32), .int (4 : Int32), .ref (ad 13), .int (0 : Int32)]) := hw95
  have hw97 : w94 4 = .inr (9, [.int x1, .int x2, .ref (ad 5), .ref (ad 6), .ref (ad 7), .ref (ad 8), .ref (ad 9), .ref (ad 10), .ref (ad 12)]) := (hne96 4 (by decide)).trans (hw92)
  have hw98 : w94 5 = .inl (G.2.1 0, 5, .inl (upd (upd (upd (upd (upd (upd (upd (upd (upd (upd (fun _ => 0) 0 (20000 : Int32)) 1 (20000 : Int32)) 2 (20000 : Int32)) 3 (20000 : Int32)) 4 (20000 : Int32)) 0 (20000 : Int32)) 1 (20000 : Int32)) 2 (20000 : Int32)) 3 (20000 : Int32)) 4 (20000 : Int32))) := (hne96 5 (by decide)).trans ((hne91 5 (by decide)).trans ((hne85 5 (by decide)).trans ((hne80 5 (by decide)).trans (hw74))))
  have hw99 : w94 6 = .inl (G.2.1 0, 5, .inl (upd (upd (upd (upd (upd (upd (upd (upd (upd (upd (fun _ => 0) 0 (300 : Int32)) 1 (300 : Int32)) 2 (300 : Int32)) 3 (300 : Int32)) 4 (300 : Int32)) 0 (300 : Int32)) 1 (300 : Int32)) 2 (300 : Int32)) 3 (300 : Int32)) 4 (300 : Int32))) := (hne96 6 (by decide)).trans ((hne91 6 (by decide)).trans ((hne85 6 (by decide)).trans (hw79)))
  have hw100 : w94 7 = .inl (G.2.1 1, 5, .inl (upd (upd (upd (upd (upd (upd (upd (upd (upd (upd (fun _ => 0) 0 (0 : Int32)) 1 (0 : Int32)) 2 (0 : Int32)) 3 (0 : Int32)) 4 (0 : Int32)) 0 (0 : Int32)) 1 (0 : Int32)) 2 (0 : Int32)) 3 (0 : Int32)) 4 (0 : Int32))) := (hne96 7 (by decide)).trans ((hne91 7 (by decide)).trans (hw84))
  have hw101 : w94 10 = .inr (7, [.int (30 : Int32), .int (3 : Int32), .ref (ad 11), .int (0 : Int32)]) := (hne96 10 (by decide)).trans (hw90)
  exact tw_vret F hH hret hlk (Nat.le_of_ble_eq_true rfl) (Nat.le_of_ble_eq_true rfl) dX9_layAnew_64 (⟨trivial, hw97, hw98, hw99, hw100, hw101, hw95, fun k h0 h1 h2 h3 h4 h5 => ((hne96 k (by omega)).trans ((hne91 k (by omega)).trans ((hne85 k (by omega)).trans ((hne80 k (by omega)).trans ((hne75 k (by omega)).trans ((hne69 k (by omega)).trans ((hne64 k (by omega)).trans ((hne59 k (by omega)).trans ((hne53 k (by omega)).trans ((hne48 k (by omega)).trans ((hne43 k (by omega)).trans ((hne37 k (by omega)).trans ((hne32 k (by omega)).trans ((hne27 k (by omega)).trans ((hne21 k (by omega)).trans ((hne16 k (by omega)).trans ((hne11 k (by omega)).trans ((hne6 k (by omega)).trans (hne3 k (by omega))))))))))))))))))))⟩)
set_option maxHeartbeats 4000000 in
set_option maxRecDepth 100000 in
theorem c_X11_track (l : Launch) (G : tw_G) (ad : Nat → Nat) (w : Nat → va_E) (sz : Nat) (x1 : Int32) (z1 : Int) (e1 : x1.toInt = z1) (x2 : Int32) (z2 : Int) (e2 : x2.toInt = z2) (hw_0 : w 0 = .inr (11, [.ref (ad 4), .ref (ad 14), .ref (ad 156), .ref (ad 221), .ref (ad 225), .ref (ad 233), .ref (ad 236), .int (0 : Int32), .ref (ad 237), .int (0 : Int32), .ref (ad 238)])) (hw_4 : w 4 = .inr (9, [.int (2 : Int32), .int (1 : Int32), .ref (ad 5), .ref (ad 6), .ref (ad 7), .ref (ad 8), .ref (ad 9), .ref (ad 10), .ref (ad 12)])) (hw_5 : w 5 = .inl (G.2.1 0, 5, .inl (upd (upd (upd (upd (upd (fun _ => 0) 0 (20000 : Int32)) 1 (20000 : Int32)) 2 (20000 : Int32)) 3 (20000 : Int32)) 4 (20000 : Int32)))) (hw_6 : w 6 = .inl (G.2.1 0, 5, .inl (upd (upd (upd (upd (upd (fun _ => 0) 0 (300 : Int32)) 1 (300 : Int32)) 2 (300 : Int32)) 3 (300 : Int32)) 4 (300 : Int32)))) (hw_7 : w 7 = .inl (G.2.1 1, 5, .inl (upd (upd (upd (upd (upd (fun _ => 0) 0 (0 : Int32)) 1 (0 : Int32)) 2 (0 : Int32)) 3 (0 : Int32)) 4 (0 : Int32)))) (hw_10 : w 10 = .inr (7, [.int (30 : Int32), .int (3 : Int32), .ref (ad 11), .int (0 : Int32)])) (hw_12 : w 12 = .inr (7, [.int (20 : Int32), .int (4 : Int32), .ref (ad 13), .int (0 : Int32)])) (hw_14 : w 14 = .inr (2, [.ref (ad 4), .ref (ad 1), .ref (ad 15), .ref (ad 16), .ref (ad 17), .int (0 : Int32), .int (0 : Int32), .int (0 : Int32)])) (hw_156 : w 156 = .inr (0, [.ref (ad 1), .ref (ad 157), .ref (ad 158), .int (0 : Int32), .ref (ad 159)])) (hw_159 : w 159 = .inr (7, [.int (20 : Int32), .int (4 : Int32), .ref (ad 160), .int (0 : Int32)])) : Met l yX11_track (tw_ws yX11_track cX11_track 3 (some .boolean)) ({ frames := 1, cells := 0, slots := 0, locals := 23 }) (tw_Pre G 244 ad w sz [.ref (ad 0), .int x1, .int x2]) (tw_Qi G 244 ad (fun r w1 => ((0 : Int32) = r ∧ (((z1 < 2)) ∨ ((¬ (z1 < 2)) ∧ (5 < z1)) ∨ ((¬ (z1 < 2)) ∧ (¬ (5 < z1)) ∧ (z2 < 1)) ∨ ((¬ (z1 < 2)) ∧ (¬ (5 < z1)) ∧ (¬ (z2 < 1)) ∧ (¬ (z2 ≤ 12))))) ∨ ((1 : Int32) = r ∧ ((¬ (z1 < 2)) ∧ (¬ (5 < z1)) ∧ (¬ (z2 < 1)) ∧ (z2 ≤ 12)))) sz) 0 0 (tw_A 244 ad sz) := by
  refine tw_met (by decide) (Nat.le_of_ble_eq_true rfl) ?_
  intro p e s m args below meth c F hret hlk hin hargs hsz hH ls hl
  have hx := F.1.1
  have hb := F.1.2.1
  have hown := F.1.2.2.2.1
  have hts := F.1.2.2.2.2
  have hl : lv_has ls 3 [(0, .ref (ad 0)), (1, .int x1), (2, .int x2)] := hl
  generalize hH0 : s.heap = H at hH ⊢
  refine lv_iload_n hx hb dX11_track_0 rfl (lv_at hl 1 rfl) ?_
  refine lv_iconst (v := 2) hx hb dX11_track_1 (by decide) ?_
  refine lv_icmp_lt (tgt := 21) hx hb dX11_track_2 (by decide) (fun c1 => ?_) (fun c1 => ?_)
  · have c1 := (tw_lt e1 (by decide : (2 : Int32).toInt = 2)).mp c1
    refine lv_iconst (v := 0) hx hb dX11_track_21 (by decide) ?_
    exact tw_iret F hH hret hlk rfl (Nat.le_of_ble_eq_true rfl) (Nat.le_of_ble_eq_true rfl) dX11_track_22 (Or.inl (⟨rfl, (Or.inl (by omega))⟩))
  · have c1 := mt (tw_lt e1 (by decide : (2 : Int32).toInt = 2)).mpr c1
    refine lv_iload_n hx hb dX11_track_5 rfl (lv_at hl 1 rfl) ?_
    refine lv_iconst (v := 5) hx hb dX11_track_6 (by decide) ?_
    refine lv_icmp_gt (tgt := 21) hx hb dX11_track_7 (by decide) (fun c2 => ?_) (fun c2 => ?_)
    · have c2 := (tw_lt (by decide : (5 : Int32).toInt = 5) e1).mp c2
      refine lv_iconst (v := 0) hx hb dX11_track_21 (by decide) ?_
      exact tw_iret F hH hret hlk rfl (Nat.le_of_ble_eq_true rfl) (Nat.le_of_ble_eq_true rfl) dX11_track_22 (Or.inl (⟨rfl, (Or.inr (Or.inl (by omega)))⟩))
    · have c2 := mt (tw_lt (by decide : (5 : Int32).toInt = 5) e1).mpr c2
      refine lv_iload_n hx hb dX11_track_10 rfl (lv_at hl 2 rfl) ?_
      refine lv_iconst (v := 1) hx hb dX11_track_11 (by decide) ?_
      refine lv_icmp_lt (tgt := 21) hx hb dX11_track_12 (by decide) (fun c3 => ?_) (fun c3 => ?_)
      · have c3 := (tw_lt e2 (by decide : (1 : Int32).toInt = 1)).mp c3
        refine lv_iconst (v := 0) hx hb dX11_track_21 (by decide) ?_
        exact tw_iret F hH hret hlk rfl (Nat.le_of_ble_eq_true rfl) (Nat.le_of_ble_eq_true rfl) dX11_track_22 (Or.inl (⟨rfl, (Or.inr (Or.inr (Or.inl (by omega))))⟩))
      · have c3 := mt (tw_lt e2 (by decide : (1 : Int32).toInt = 1)).mpr c3
        refine lv_iload_n hx hb dX11_track_15 rfl (lv_at hl 2 rfl) ?_
        refine lv_bipush (v := 12) hx hb dX11_track_16 (by decide) ?_
        refine lv_icmp_le (tgt := 23) hx hb dX11_track_18 (by decide) (fun c4 => ?_) (fun c4 => ?_)
        · have c4 := (tw_le e2 (by decide : (12 : Int32).toInt = 12)).mp c4
          refine lv_aload_n hx hb dX11_track_23 rfl (lv_at hl 0 rfl) ?_
          refine tw_get (r := 0) F hH kf_RX11_15 rfl (by decide) hw_0 rfl dX11_track_24 ?_
          refine lv_iload_n hx hb dX11_track_27 rfl (lv_at hl 1 rfl) ?_
          refine lv_iload_n hx hb dX11_track_28 rfl (lv_at hl 2 rfl) ?_
          refine tw_callv F hH (tw_runV (r := 4) (As := [.int x1, .int x2]) (rest := []) F hH (c_X9_layAnew_v2 l G ad w H.size x1 (z1) e1 x2 (z2) e2 hw_4 hw_5 hw_6 hw_7 hw_10 hw_12) (tw_gl kw_552 rfl) km_X9_layAnew kv_X9_layAnew rfl rfl ⟨(Nat.le_of_ble_eq_true rfl), (Nat.le_of_ble_eq_true rfl)⟩ (by decide) hw_4 rfl rfl hl.1 rfl (Nat.le_of_ble_eq_true rfl) dX11_track_29 ⟨(Nat.le_of_ble_eq_true rfl), (Nat.le_of_ble_eq_true rfl)⟩) (fun w5 H locs hp6 _ hH => ?_)
          obtain ⟨-, hw8, hw9, hw10, hw11, hw12, hw13, hfr14⟩ := hp6
          refine lv_aload_n hx hb dX11_track_32 rfl (lv_at hl 0 rfl) ?_
          have hw15 : w5 0 = .inr (11, [.ref (ad 4), .ref (ad 14), .ref (ad 156), .ref (ad 221), .ref (ad 225), .ref (ad 233), .ref (ad 236), .int (0 : Int32), .ref (ad 237), .int (0 : Int32), .ref (ad 238)]) := (hfr14 0 (by omega) (by omega) (by omega) (by omega) (by omega) (by omega)).trans (hw_0)
          refine tw_get (r := 0) F hH kf_RX11_24 rfl (by decide) hw15 rfl dX11_track_33 ?_
          refine lv_iconst (v := 0) hx hb dX11_track_36 (by decide) ?_
          have hw16 : w5 14 = .inr (2, [.ref (ad 4), .ref (ad 1), .ref (ad 15), .ref (ad 16), .ref (ad 17), .int (0 : Int32), .int (0 : Int32), .int (0 : Int32)]) := (hfr14 14 (by omega) (by omega) (by omega) (by omega) (by omega) (by omega)).trans (hw_14)
          refine tw_put (r := 14) F hH kf_RX11_80 kp_X2_5 rfl (by decide) hw16 (Nat.le_of_ble_eq_true rfl) rfl rfl dX11_track_37 (fun H locs w17 hw18 hne19 hH => ?_)
          have hw18 : w17 14 = .inr (2, [.ref (ad 4), .ref (ad 1), .ref (ad 15), .ref (ad 16), .ref (ad 17), .int (0 : Int32), .int (0 : Int32), .int (0 : Int32)]) := hw18
          refine lv_aload_n hx hb dX11_track_40 rfl (lv_at hl 0 rfl) ?_
          have hw20 : w17 0 = .inr (11, [.ref (ad 4), .ref (ad 14), .ref (ad 156), .ref (ad 221), .ref (ad 225), .ref (ad 233), .ref (ad 236), .int (0 : Int32), .ref (ad 237), .int (0 : Int32), .ref (ad 238)]) := (hne19 0 (by decide)).trans (hw15)
          refine tw_get (r := 0) F hH kf_RX11_24 rfl (by decide) hw20 rfl dX11_track_41 ?_
          refine lv_iconst (v := 0) hx hb dX11_track_44 (by decide) ?_
          refine tw_put (r := 14) F hH kf_RX11_84 kp_X2_7 rfl (by decide) hw18 (Nat.le_of_ble_eq_true rfl) rfl rfl dX11_track_45 (fun H locs w21 hw22 hne23 hH => ?_)
          have hw22 : w21 14 = .inr (2, [.ref (ad 4), .ref (ad 1), .ref (ad 15), .ref (ad 16), .ref (ad 17), .int (0 : Int32), .int (0 : Int32), .int (0 : Int32)]) := hw22
          refine lv_aload_n hx hb dX11_track_48 rfl (lv_at hl 0 rfl) ?_
          have hw24 : w21 0 = .inr (11, [.ref (ad 4), .ref (ad 14), .ref (ad 156), .ref (ad 221), .ref (ad 225), .ref (ad 233), .ref (ad 236), .int (0 : Int32), .ref (ad 237), .int (0 : Int32), .ref (ad 238)]) := (hne23 0 (by decide)).trans (hw20)
          refine tw_get (r := 0) F hH kf_RX11_33 rfl (by decide) hw24 rfl dX11_track_49 ?_
          refine lv_iconst (v := 0) hx hb dX11_track_52 (by decide) ?_
          have hw25 : w21 156 = .inr (0, [.ref (ad 1), .ref (ad 157), .ref (ad 158), .int (0 : Int32), .ref (ad 159)]) := (hne23 156 (by decide)).trans ((hne19 156 (by decide)).trans ((hfr14 156 (by omega) (by omega) (by omega) (by omega) (by omega) (by omega)).trans (hw_156)))
          refine tw_put (r := 156) F hH kf_RX11_88 kp_X0_3 rfl (by decide) hw25 (Nat.le_of_ble_eq_true rfl) rfl rfl dX11_track_53 (fun H locs w26 hw27 hne28 hH => ?_)
          have hw27 : w26 156 = .inr (0, [.ref (ad 1), .ref (ad 157), .ref (ad 158), .int (0 : Int32), .ref (ad 159)]) := hw27
          refine lv_aload_n hx hb dX11_track_56 rfl (lv_at hl 0 rfl) ?_
          have hw29 : w26 0 = .inr (11, [.ref (ad 4), .ref (ad 14), .ref (ad 156), .ref (ad 221), .ref (ad 225), .ref (ad 233), .ref (ad 236), .int (0 : Int32), .ref (ad 237), .int (0 : Int32), .ref (ad 238)]) := (hne28 0 (by decide)).trans (hw24)
          refine tw_get (r := 0) F hH kf_RX11_33 rfl (by decide) hw29 rfl dX11_track_57 ?_
          refine tw_get (r := 156) F hH kf_RX11_91 rfl (by decide) hw27 rfl dX11_track_60 ?_
          refine lv_iconst (v := 0) hx hb dX11_track_63 (by decide) ?_
          have hw30 : w26 159 = .inr (7, [.int (20 : Int32), .int (4 : Int32), .ref (ad 160), .int (0 : Int32)]) := (hne28 159 (by decide)).trans ((hne23 159 (by decide)).trans ((hne19 159 (by decide)).trans ((hfr14 159 (by omega) (by omega) (by omega) (by omega) (by omega) (by omega)).trans (hw_159))))
          refine tw_put (r := 159) F hH kf_RX11_95 kp_X7_3 rfl (by decide) hw30 (Nat.le_of_ble_eq_true rfl) rfl rfl dX11_track_64 (fun H locs w31 hw32 hne33 hH => ?_)
          have hw32 : w31 159 = .inr (7, [.int (20 : Int32), .int (4 : Int32), .ref (ad 160), .int (0 : Int32)]) := hw32
          refine lv_iconst (v := 1) hx hb dX11_track_67 (by decide) ?_
          exact tw_iret F hH hret hlk rfl (Nat.le_of_ble_eq_true rfl) (Nat.le_of_ble_eq_true rfl) dX11_track_68 (Or.inr (⟨rfl, (by omega)⟩))
        · have c4 := mt (tw_le e2 (by decide : (12 : Int32).toInt = 12)).mpr c4
          refine lv_iconst (v := 0) hx hb dX11_track_21 (by decide) ?_
          exact tw_iret F hH hret hlk rfl (Nat.le_of_ble_eq_true rfl) (Nat.le_of_ble_eq_true rfl) dX11_track_22 (Or.inl (⟨rfl, (Or.inr (Or.inr (Or.inr (by omega))))⟩))
set_option maxHeartbeats 4000000 in
set_option maxRecDepth 100000 in
theorem c_X11_isIndex (l : Launch) (G : tw_G) (N : Nat) (ad : Nat → Nat) (w : Nat → va_E) (sz : Nat) (x0 : Int32) (z0 : Int) (e0 : x0.toInt = z0) (x1 : Int32) (z1 : Int) (e1 : x1.toInt = z1) : Met l yX11_isIndex (tw_ws yX11_isIndex cX11_isIndex 2 (some .boolean)) ({ frames := 0, cells := 0, slots := 0, locals := 0 }) (tw_Pre G N ad w sz [.int x0, .int x1]) (tw_Qi G N ad (fun r w1 => ((0 : Int32) = r ∧ (((z0 < 0)) ∨ ((¬ (z0 < 0)) ∧ (z1 ≤ z0))) ∧ w = w1) ∨ ((1 : Int32) = r ∧ ((¬ (z0 < 0)) ∧ (¬ (z1 ≤ z0))) ∧ w = w1)) sz) 0 0 (tw_A N ad sz) := by
  refine tw_met (by decide) (Nat.le_of_ble_eq_true rfl) ?_
  intro p e s m args below meth c F hret hlk hin hargs hsz hH ls hl
  have hx := F.1.1
  have hb := F.1.2.1
  have hown := F.1.2.2.2.1
  have hts := F.1.2.2.2.2
  have hl : lv_has ls 2 [(0, .int x0), (1, .int x1)] := hl
  generalize hH0 : s.heap = H at hH ⊢
  refine lv_iload_n hx hb dX11_isIndex_0 rfl (lv_at hl 0 rfl) ?_
  refine lv_if_lt (tgt := 13) hx hb dX11_isIndex_1 (by decide) (fun c1 => ?_) (fun c1 => ?_)
  · have c1 := (tw_lt e0 (by decide : (0 : Int32).toInt = 0)).mp c1
    refine lv_iconst (v := 0) hx hb dX11_isIndex_13 (by decide) ?_
    exact tw_iret F hH hret hlk rfl (Nat.le_of_ble_eq_true rfl) (Nat.le_of_ble_eq_true rfl) dX11_isIndex_14 (Or.inl (⟨rfl, (Or.inl (by omega)), rfl⟩))
  · have c1 := mt (tw_lt e0 (by decide : (0 : Int32).toInt = 0)).mpr c1
    refine lv_iload_n hx hb dX11_isIndex_4 rfl (lv_at hl 0 rfl) ?_
    refine lv_iload_n hx hb dX11_isIndex_5 rfl (lv_at hl 1 rfl) ?_
    refine lv_icmp_ge (tgt := 13) hx hb dX11_isIndex_6 (by decide) (fun c2 => ?_) (fun c2 => ?_)
    · have c2 := (tw_le e1 e0).mp c2
      refine lv_iconst (v := 0) hx hb dX11_isIndex_13 (by decide) ?_
      exact tw_iret F hH hret hlk rfl (Nat.le_of_ble_eq_true rfl) (Nat.le_of_ble_eq_true rfl) dX11_isIndex_14 (Or.inl (⟨rfl, (Or.inr (by omega)), rfl⟩))
    · have c2 := mt (tw_le e1 e0).mpr c2
      refine lv_iconst (v := 1) hx hb dX11_isIndex_9 (by decide) ?_
      refine lv_goto (tgt := 14) hx hb dX11_isIndex_10 (by decide) ?_
      exact tw_iret F hH hret hlk rfl (Nat.le_of_ble_eq_true rfl) (Nat.le_of_ble_eq_true rfl) dX11_isIndex_14 (Or.inr (⟨rfl, (by omega), rfl⟩))
set_option maxHeartbeats 4000000 in
set_option maxRecDepth 100000 in
theorem c_X9_hasSector (l : Launch) (G : tw_G) (ad : Nat → Nat) (w : Nat → va_E) (sz : Nat) (x1 : Int32) (z1 : Int) (e1 : x1.toInt = z1) (hw_4 : w 4 = .inr (9, [.int (2 : Int32), .int (1 : Int32), .ref (ad 5), .ref (ad 6), .ref (ad 7), .ref (ad 8), .ref (ad 9), .ref (ad 10), .ref (ad 12)])) : Met l yX9_hasSector (tw_ws yX9_hasSector cX9_hasSector 2 (some .boolean)) ({ frames := 1, cells := 0, slots := 0, locals := 21 }) (tw_Pre G 244 ad w sz [.ref (ad 4), .int x1]) (tw_Qi G 244 ad (fun r w1 => ((0 : Int32) = r ∧ (((z1 < 0)) ∨ ((¬ (z1 < 0)) ∧ (2 ≤ z1))) ∧ w = w1) ∨ ((1 : Int32) = r ∧ ((¬ (z1 < 0)) ∧ (¬ (2 ≤ z1))) ∧ w = w1)) sz) 0 0 (tw_A 244 ad sz) := by
  refine tw_met (by decide) (Nat.le_of_ble_eq_true rfl) ?_
  intro p e s m args below meth c F hret hlk hin hargs hsz hH ls hl
  have hx := F.1.1
  have hb := F.1.2.1
  have hown := F.1.2.2.2.1
  have hts := F.1.2.2.2.2
  have hl : lv_has ls 2 [(0, .ref (ad 4)), (1, .int x1)] := hl
  generalize hH0 : s.heap = H at hH ⊢
  refine lv_iload_n hx hb dX9_hasSector_0 rfl (lv_at hl 1 rfl) ?_
  refine lv_aload_n hx hb dX9_hasSector_1 rfl (lv_at hl 0 rfl) ?_
  refine tw_get (r := 4) F hH kf_RX9_49 rfl (by decide) hw_4 rfl dX9_hasSector_2 ?_
  refine tw_calli F hH (tw_runSN (host := "RaceByLaps") (As := [.int x1, .int (2 : Int32)]) (rest := []) F hH (c_X11_isIndex l G 244 ad w H.size x1 (z1) e1 (2 : Int32) 2 (by decide : (2 : Int32).toInt = 2)) (by decide) km_X11_isIndex (tw_gl kw_562 rfl) rfl rfl ⟨(Nat.le_of_ble_eq_true rfl), (Nat.le_of_ble_eq_true rfl)⟩ rfl hl.1 rfl (Nat.le_of_ble_eq_true rfl) dX9_hasSector_5 ⟨(Nat.le_of_ble_eq_true rfl), (Nat.le_of_ble_eq_true rfl)⟩) (fun r3 w1 H locs hp2 _ hH => ?_)
  rcases hp2 with ⟨rfl, hc4, rfl⟩ | ⟨rfl, hc5, rfl⟩
  · skip
    exact tw_iret F hH hret hlk rfl (Nat.le_of_ble_eq_true rfl) (Nat.le_of_ble_eq_true rfl) dX9_hasSector_8 (Or.inl (⟨rfl, (by omega), rfl⟩))
  · skip
    exact tw_iret F hH hret hlk rfl (Nat.le_of_ble_eq_true rfl) (Nat.le_of_ble_eq_true rfl) dX9_hasSector_8 (Or.inr (⟨rfl, (by omega), rfl⟩))
set_option maxHeartbeats 4000000 in
set_option maxRecDepth 100000 in
theorem c_X11_isWithin (l : Launch) (G : tw_G) (N : Nat) (ad : Nat → Nat) (w : Nat → va_E) (sz : Nat) (x0 : Int32) (z0 : Int) (e0 : x0.toInt = z0) (x1 : Int32) (z1 : Int) (e1 : x1.toInt = z1) (x2 : Int32) (z2 : Int) (e2 : x2.toInt = z2) : Met l yX11_isWithin (tw_ws yX11_isWithin cX11_isWithin 3 (some .boolean)) ({ frames := 0, cells := 0, slots := 0, locals := 0 }) (tw_Pre G N ad w sz [.int x0, .int x1, .int x2]) (tw_Qi G N ad (fun r w1 => ((0 : Int32) = r ∧ (((z0 < z1)) ∨ ((¬ (z0 < z1)) ∧ (z2 < z0))) ∧ w = w1) ∨ ((1 : Int32) = r ∧ ((¬ (z0 < z1)) ∧ (¬ (z2 < z0))) ∧ w = w1)) sz) 0 0 (tw_A N ad sz) := by
  refine tw_met (by decide) (Nat.le_of_ble_eq_true rfl) ?_
  intro p e s m args below meth c F hret hlk hin hargs hsz hH ls hl
  have hx := F.1.1
  have hb := F.1.2.1
  have hown := F.1.2.2.2.1
  have hts := F.1.2.2.2.2
  have hl : lv_has ls 3 [(0, .int x0), (1, .int x1), (2, .int x2)] := hl
  generalize hH0 : s.heap = H at hH ⊢
  refine lv_iload_n hx hb dX11_isWithin_0 rfl (lv_at hl 0 rfl) ?_
  refine lv_iload_n hx hb dX11_isWithin_1 rfl (lv_at hl 1 rfl) ?_
  refine lv_icmp_lt (tgt := 14) hx hb dX11_isWithin_2 (by decide) (fun c1 => ?_) (fun c1 => ?_)
  · have c1 := (tw_lt e0 e1).mp c1
    refine lv_iconst (v := 0) hx hb dX11_isWithin_14 (by decide) ?_
    exact tw_iret F hH hret hlk rfl (Nat.le_of_ble_eq_true rfl) (Nat.le_of_ble_eq_true rfl) dX11_isWithin_15 (Or.inl (⟨rfl, (Or.inl (by omega)), rfl⟩))
  · have c1 := mt (tw_lt e0 e1).mpr c1
    refine lv_iload_n hx hb dX11_isWithin_5 rfl (lv_at hl 0 rfl) ?_
    refine lv_iload_n hx hb dX11_isWithin_6 rfl (lv_at hl 2 rfl) ?_
    refine lv_icmp_gt (tgt := 14) hx hb dX11_isWithin_7 (by decide) (fun c2 => ?_) (fun c2 => ?_)
    · have c2 := (tw_lt e2 e0).mp c2
      refine lv_iconst (v := 0) hx hb dX11_isWithin_14 (by decide) ?_
      exact tw_iret F hH hret hlk rfl (Nat.le_of_ble_eq_true rfl) (Nat.le_of_ble_eq_true rfl) dX11_isWithin_15 (Or.inl (⟨rfl, (Or.inr (by omega)), rfl⟩))
    · have c2 := mt (tw_lt e2 e0).mpr c2
      refine lv_iconst (v := 1) hx hb dX11_isWithin_10 (by decide) ?_
      refine lv_goto (tgt := 15) hx hb dX11_isWithin_11 (by decide) ?_
      exact tw_iret F hH hret hlk rfl (Nat.le_of_ble_eq_true rfl) (Nat.le_of_ble_eq_true rfl) dX11_isWithin_15 (Or.inr (⟨rfl, (by omega), rfl⟩))
set_option maxHeartbeats 4000000 in
set_option maxRecDepth 100000 in
theorem c_X11_sector (l : Launch) (G : tw_G) (ad : Nat → Nat) (w : Nat → va_E) (sz : Nat) (x1 : Int32) (z1 : Int) (e1 : x1.toInt = z1) (x2 : Int32) (z2 : Int) (e2 : x2.toInt = z2) (x3 : Int32) (z3 : Int) (e3 : x3.toInt = z3) (hw_0 : w 0 = .inr (11, [.ref (ad 4), .ref (ad 14), .ref (ad 156), .ref (ad 221), .ref (ad 225), .ref (ad 233), .ref (ad 236), .int (0 : Int32), .ref (ad 237), .int (0 : Int32), .ref (ad 238)])) (hw_4 : w 4 = .inr (9, [.int (2 : Int32), .int (1 : Int32), .ref (ad 5), .ref (ad 6), .ref (ad 7), .ref (ad 8), .ref (ad 9), .ref (ad 10), .ref (ad 12)])) (hw_5 : w 5 = .inl (G.2.1 0, 5, .inl (upd (upd (upd (upd (upd (fun _ => 0) 0 (20000 : Int32)) 1 (20000 : Int32)) 2 (20000 : Int32)) 3 (20000 : Int32)) 4 (20000 : Int32)))) (hw_6 : w 6 = .inl (G.2.1 0, 5, .inl (upd (upd (upd (upd (upd (fun _ => 0) 0 (300 : Int32)) 1 (300 : Int32)) 2 (300 : Int32)) 3 (300 : Int32)) 4 (300 : Int32)))) (hw_14 : w 14 = .inr (2, [.ref (ad 4), .ref (ad 1), .ref (ad 15), .ref (ad 16), .ref (ad 17), .int (0 : Int32), .int (0 : Int32), .int (0 : Int32)])) : Met l yX11_sector (tw_ws yX11_sector cX11_sector 4 (some .boolean)) ({ frames := 2, cells := 0, slots := 0, locals := 42 }) (tw_Pre G 244 ad w sz [.ref (ad 0), .int x1, .int x2, .int x3]) (tw_Qi G 244 ad (fun r w1 => ((0 : Int32) = r ∧ ((((((z1 < 0)) ∨ ((¬ (z1 < 0)) ∧ (2 ≤ z1))))) ∨ ((((¬ (z1 < 0)) ∧ (¬ (2 ≤ z1)))) ∧ (((z2 < 5000)) ∨ ((¬ (z2 < 5000)) ∧ (60000 < z2)))) ∨ ((((¬ (z1 < 0)) ∧ (¬ (2 ≤ z1)))) ∧ ((¬ (z2 < 5000)) ∧ (¬ (60000 < z2))) ∧ (((z3 < (-1))) ∨ ((¬ (z3 < (-1))) ∧ (5000 < z3)))))) ∨ ((1 : Int32) = r ∧ (((((¬ (z1 < 0)) ∧ (¬ (2 ≤ z1)))) ∧ ((¬ (z2 < 5000)) ∧ (¬ (60000 < z2))) ∧ ((¬ (z3 < (-1))) ∧ (¬ (5000 < z3))) ∧ (z1 = 0)) ∨ ((((¬ (z1 < 0)) ∧ (¬ (2 ≤ z1)))) ∧ ((¬ (z2 < 5000)) ∧ (¬ (60000 < z2))) ∧ ((¬ (z3 < (-1))) ∧ (¬ (5000 < z3))) ∧ (z1 = 1))))) sz) 0 0 (tw_A 244 ad sz) := by
  refine tw_met (by decide) (Nat.le_of_ble_eq_true rfl) ?_
  intro p e s m args below meth c F hret hlk hin hargs hsz hH ls hl
  have hx := F.1.1
  have hb := F.1.2.1
  have hown := F.1.2.2.2.1
  have hts := F.1.2.2.2.2
  have hl : lv_has ls 4 [(0, .ref (ad 0)), (1, .int x1), (2, .int x2), (3, .int x3)] := hl
  generalize hH0 : s.heap = H at hH ⊢
  refine lv_aload_n hx hb dX11_sector_0 rfl (lv_at hl 0 rfl) ?_
  refine tw_get (r := 0) F hH kf_RX11_15 rfl (by decide) hw_0 rfl dX11_sector_1 ?_
  refine lv_iload_n hx hb dX11_sector_4 rfl (lv_at hl 1 rfl) ?_
  refine tw_calli F hH (tw_runV (r := 4) (As := [.int x1]) (rest := []) F hH (c_X9_hasSector l G ad w H.size x1 (z1) e1 hw_4) (tw_gl kw_557 rfl) km_X9_hasSector kv_X9_hasSector rfl rfl ⟨(Nat.le_of_ble_eq_true rfl), (Nat.le_of_ble_eq_true rfl)⟩ (by decide) hw_4 rfl rfl hl.1 rfl (Nat.le_of_ble_eq_true rfl) dX11_sector_5 ⟨(Nat.le_of_ble_eq_true rfl), (Nat.le_of_ble_eq_true rfl)⟩) (fun r3 w1 H locs hp2 _ hH => ?_)
  rcases hp2 with ⟨rfl, hc4, rfl⟩ | ⟨rfl, hc5, rfl⟩
  · skip
    refine lv_if_eq (tgt := 34) hx hb dX11_sector_8 (by decide) (fun _ => ?_) (fun c => absurd c (by decide))
    refine lv_iconst (v := 0) hx hb dX11_sector_34 (by decide) ?_
    exact tw_iret F hH hret hlk rfl (Nat.le_of_ble_eq_true rfl) (Nat.le_of_ble_eq_true rfl) dX11_sector_35 (Or.inl (⟨rfl, (Or.inl (by omega))⟩))
  · skip
    refine lv_if_eq (tgt := 34) hx hb dX11_sector_8 (by decide) (fun c => absurd c (by decide)) (fun _ => ?_)
    refine lv_iload_n hx hb dX11_sector_11 rfl (lv_at hl 2 rfl) ?_
    refine lv_sipush (v := 5000) hx hb dX11_sector_12 (by decide) ?_
    refine lv_ldc (v := 60000) hx hb hown (hts _ (tw_gl kw_564 rfl)) dX11_sector_15 ?_
    refine tw_calli F hH (tw_runS (As := [.int x2, .int (5000 : Int32), .int (60000 : Int32)]) (rest := []) F hH (c_X11_isWithin l G 244 ad w H.size x2 (z2) e2 (5000 : Int32) 5000 (by decide : (5000 : Int32).toInt = 5000) (60000 : Int32) 60000 (by decide : (60000 : Int32).toInt = 60000)) (tw_gl kw_565 rfl) km_X11_isWithin (tw_gl kw_566 rfl) rfl rfl ⟨(Nat.le_of_ble_eq_true rfl), (Nat.le_of_ble_eq_true rfl)⟩ rfl hl.1 rfl (Nat.le_of_ble_eq_true rfl) dX11_sector_17 ⟨(Nat.le_of_ble_eq_true rfl), (Nat.le_of_ble_eq_true rfl)⟩) (fun r10 w8 H locs hp9 _ hH => ?_)
    rcases hp9 with ⟨rfl, hc11, rfl⟩ | ⟨rfl, hc12, rfl⟩
    · skip
      refine lv_if_eq (tgt := 34) hx hb dX11_sector_20 (by decide) (fun _ => ?_) (fun c => absurd c (by decide))
      refine lv_iconst (v := 0) hx hb dX11_sector_34 (by decide) ?_
      exact tw_iret F hH hret hlk rfl (Nat.le_of_ble_eq_true rfl) (Nat.le_of_ble_eq_true rfl) dX11_sector_35 (Or.inl (⟨rfl, (Or.inr (Or.inl (by omega)))⟩))
    · skip
      refine lv_if_eq (tgt := 34) hx hb dX11_sector_20 (by decide) (fun c => absurd c (by decide)) (fun _ => ?_)
      refine lv_iload_n hx hb dX11_sector_23 rfl (lv_at hl 3 rfl) ?_
      refine lv_iconst (v := -1) hx hb dX11_sector_24 (by decide) ?_
      refine lv_sipush (v := 5000) hx hb dX11_sector_25 (by decide) ?_
      refine tw_calli F hH (tw_runS (As := [.int x3, .int (-1 : Int32), .int (5000 : Int32)]) (rest := []) F hH (c_X11_isWithin l G 244 ad w H.size x3 (z3) e3 (-1 : Int32) (-1) (by decide : (-1 : Int32).toInt = -1) (5000 : Int32) 5000 (by decide : (5000 : Int32).toInt = 5000)) (tw_gl kw_565 rfl) km_X11_isWithin (tw_gl kw_566 rfl) rfl rfl ⟨(Nat.le_of_ble_eq_true rfl), (Nat.le_of_ble_eq_true rfl)⟩ rfl hl.1 rfl (Nat.le_of_ble_eq_true rfl) dX11_sector_28 ⟨(Nat.le_of_ble_eq_true rfl), (Nat.le_of_ble_eq_true rfl)⟩) (fun r17 w15 H locs hp16 _ hH => ?_)
      rcases hp16 with ⟨rfl, hc18, rfl⟩ | ⟨rfl, hc19, rfl⟩
      · skip
        refine lv_if_ne (tgt := 36) hx hb dX11_sector_31 (by decide) (fun c => absurd c (by decide)) (fun _ => ?_)
        refine lv_iconst (v := 0) hx hb dX11_sector_34 (by decide) ?_
        exact tw_iret F hH hret hlk rfl (Nat.le_of_ble_eq_true rfl) (Nat.le_of_ble_eq_true rfl) dX11_sector_35 (Or.inl (⟨rfl, (Or.inr (Or.inr (by omega)))⟩))
      · skip
        refine lv_if_ne (tgt := 36) hx hb dX11_sector_31 (by decide) (fun _ => ?_) (fun c => absurd c (by decide))
        refine lv_aload_n hx hb dX11_sector_36 rfl (lv_at hl 0 rfl) ?_
        refine tw_get (r := 0) F hH kf_RX11_15 rfl (by decide) hw_0 rfl dX11_sector_37 ?_
        refine tw_get (r := 4) F hH kf_RX11_109 rfl (by decide) hw_4 rfl dX11_sector_40 ?_
        refine lv_iload_n hx hb dX11_sector_43 rfl (lv_at hl 1 rfl) ?_
        refine lv_iload_n hx hb dX11_sector_44 rfl (lv_at hl 2 rfl) ?_
        rcases (by omega : z1 = 0 ∨ z1 = 1) with hz22 | hz22
        · skip
          obtain rfl : (0 : Int32) = x1 := (Int32.toInt_inj.mp ((e1.trans hz22).trans (by decide : (0 : Int) = (0 : Int32).toInt))).symm
          refine tw_iast (r := 5) (j := 0) F hH rfl (by decide) hw_5 (by decide) (by decide) dX11_sector_45 (fun H locs w23 hw24 hne25 hH => ?_)
          refine lv_aload_n hx hb dX11_sector_46 rfl (lv_at hl 0 rfl) ?_
          have hw26 : w23 0 = .inr (11, [.ref (ad 4), .ref (ad 14), .ref (ad 156), .ref (ad 221), .ref (ad 225), .ref (ad 233), .ref (ad 236), .int (0 : Int32), .ref (ad 237), .int (0 : Int32), .ref (ad 238)]) := (hne25 0 (by decide)).trans (hw_0)
          refine tw_get (r := 0) F hH kf_RX11_15 rfl (by decide) hw26 rfl dX11_sector_47 ?_
          have hw27 : w23 4 = .inr (9, [.int (2 : Int32), .int (1 : Int32), .ref (ad 5), .ref (ad 6), .ref (ad 7), .ref (ad 8), .ref (ad 9), .ref (ad 10), .ref (ad 12)]) := (hne25 4 (by decide)).trans (hw_4)
          refine tw_get (r := 4) F hH kf_RX11_112 rfl (by decide) hw27 rfl dX11_sector_50 ?_
          refine lv_iload_n hx hb dX11_sector_53 rfl (lv_at hl 1 rfl) ?_
          refine lv_iload_n hx hb dX11_sector_54 rfl (lv_at hl 3 rfl) ?_
          have hw28 : w23 6 = .inl (G.2.1 0, 5, .inl (upd (upd (upd (upd (upd (fun _ => 0) 0 (300 : Int32)) 1 (300 : Int32)) 2 (300 : Int32)) 3 (300 : Int32)) 4 (300 : Int32))) := (hne25 6 (by decide)).trans (hw_6)
          refine tw_iast (r := 6) (j := 0) F hH rfl (by decide) hw28 (by decide) (by decide) dX11_sector_55 (fun H locs w29 hw30 hne31 hH => ?_)
          refine lv_aload_n hx hb dX11_sector_56 rfl (lv_at hl 0 rfl) ?_
          have hw32 : w29 0 = .inr (11, [.ref (ad 4), .ref (ad 14), .ref (ad 156), .ref (ad 221), .ref (ad 225), .ref (ad 233), .ref (ad 236), .int (0 : Int32), .ref (ad 237), .int (0 : Int32), .ref (ad 238)]) := (hne31 0 (by decide)).trans (hw26)
          refine tw_get (r := 0) F hH kf_RX11_24 rfl (by decide) hw32 rfl dX11_sector_57 ?_
          refine lv_iconst (v := 0) hx hb dX11_sector_60 (by decide) ?_
          have hw33 : w29 14 = .inr (2, [.ref (ad 4), .ref (ad 1), .ref (ad 15), .ref (ad 16), .ref (ad 17), .int (0 : Int32), .int (0 : Int32), .int (0 : Int32)]) := (hne31 14 (by decide)).trans ((hne25 14 (by decide)).trans (hw_14))
          refine tw_put (r := 14) F hH kf_RX11_84 kp_X2_7 rfl (by decide) hw33 (Nat.le_of_ble_eq_true rfl) rfl rfl dX11_sector_61 (fun H locs w34 hw35 hne36 hH => ?_)
          have hw35 : w34 14 = .inr (2, [.ref (ad 4), .ref (ad 1), .ref (ad 15), .ref (ad 16), .ref (ad 17), .int (0 : Int32), .int (0 : Int32), .int (0 : Int32)]) := hw35
          refine lv_iconst (v := 1) hx hb dX11_sector_64 (by decide) ?_
          exact tw_iret F hH hret hlk rfl (Nat.le_of_ble_eq_true rfl) (Nat.le_of_ble_eq_true rfl) dX11_sector_65 (Or.inr (⟨rfl, (Or.inl (by omega))⟩))
        · skip
          obtain rfl : (1 : Int32) = x1 := (Int32.toInt_inj.mp ((e1.trans hz22).trans (by decide : (1 : Int) = (1 : Int32).toInt))).symm
          refine tw_iast (r := 5) (j := 1) F hH rfl (by decide) hw_5 (by decide) (by decide) dX11_sector_45 (fun H locs w37 hw38 hne39 hH => ?_)
          refine lv_aload_n hx hb dX11_sector_46 rfl (lv_at hl 0 rfl) ?_
          have hw40 : w37 0 = .inr (11, [.ref (ad 4), .ref (ad 14), .ref (ad 156), .ref (ad 221), .ref (ad 225), .ref (ad 233), .ref (ad 236), .int (0 : Int32), .ref (ad 237), .int (0 : Int32), .ref (ad 238)]) := (hne39 0 (by decide)).trans (hw_0)
          refine tw_get (r := 0) F hH kf_RX11_15 rfl (by decide) hw40 rfl dX11_sector_47 ?_
          have hw41 : w37 4 = .inr (9, [.int (2 : Int32), .int (1 : Int32), .ref (ad 5), .ref (ad 6), .ref (ad 7), .ref (ad 8), .ref (ad 9), .ref (ad 10), .ref (ad 12)]) := (hne39 4 (by decide)).trans (hw_4)
          refine tw_get (r := 4) F hH kf_RX11_112 rfl (by decide) hw41 rfl dX11_sector_50 ?_
          refine lv_iload_n hx hb dX11_sector_53 rfl (lv_at hl 1 rfl) ?_
          refine lv_iload_n hx hb dX11_sector_54 rfl (lv_at hl 3 rfl) ?_
          have hw42 : w37 6 = .inl (G.2.1 0, 5, .inl (upd (upd (upd (upd (upd (fun _ => 0) 0 (300 : Int32)) 1 (300 : Int32)) 2 (300 : Int32)) 3 (300 : Int32)) 4 (300 : Int32))) := (hne39 6 (by decide)).trans (hw_6)
          refine tw_iast (r := 6) (j := 1) F hH rfl (by decide) hw42 (by decide) (by decide) dX11_sector_55 (fun H locs w43 hw44 hne45 hH => ?_)
          refine lv_aload_n hx hb dX11_sector_56 rfl (lv_at hl 0 rfl) ?_
          have hw46 : w43 0 = .inr (11, [.ref (ad 4), .ref (ad 14), .ref (ad 156), .ref (ad 221), .ref (ad 225), .ref (ad 233), .ref (ad 236), .int (0 : Int32), .ref (ad 237), .int (0 : Int32), .ref (ad 238)]) := (hne45 0 (by decide)).trans (hw40)
          refine tw_get (r := 0) F hH kf_RX11_24 rfl (by decide) hw46 rfl dX11_sector_57 ?_
          refine lv_iconst (v := 0) hx hb dX11_sector_60 (by decide) ?_
          have hw47 : w43 14 = .inr (2, [.ref (ad 4), .ref (ad 1), .ref (ad 15), .ref (ad 16), .ref (ad 17), .int (0 : Int32), .int (0 : Int32), .int (0 : Int32)]) := (hne45 14 (by decide)).trans ((hne39 14 (by decide)).trans (hw_14))
          refine tw_put (r := 14) F hH kf_RX11_84 kp_X2_7 rfl (by decide) hw47 (Nat.le_of_ble_eq_true rfl) rfl rfl dX11_sector_61 (fun H locs w48 hw49 hne50 hH => ?_)
          have hw49 : w48 14 = .inr (2, [.ref (ad 4), .ref (ad 1), .ref (ad 15), .ref (ad 16), .ref (ad 17), .int (0 : Int32), .int (0 : Int32), .int (0 : Int32)]) := hw49
          refine lv_iconst (v := 1) hx hb dX11_sector_64 (by decide) ?_
          exact tw_iret F hH hret hlk rfl (Nat.le_of_ble_eq_true rfl) (Nat.le_of_ble_eq_true rfl) dX11_sector_65 (Or.inr (⟨rfl, (Or.inr (by omega))⟩))
set_option maxHeartbeats 4000000 in
set_option maxRecDepth 100000 in
theorem c_X9_tyreNumber (l : Launch) (G : tw_G) (ad : Nat → Nat) (w : Nat → va_E) (sz : Nat) (x1 : Int32) (z1 : Int) (e1 : x1.toInt = z1) (hw_4 : w 4 = .inr (9, [.int (2 : Int32), .int (1 : Int32), .ref (ad 5), .ref (ad 6), .ref (ad 7), .ref (ad 8), .ref (ad 9), .ref (ad 10), .ref (ad 12)])) (hw_8 : w 8 = .inl (G.2.1 0, 24, .inl (upd (upd (upd (upd (upd (upd (upd (upd (upd (upd (upd (upd (upd (upd (upd (upd (upd (upd (upd (upd (upd (upd (upd (upd (fun _ => 0) 0 (0 : Int32)) 1 (10 : Int32)) 2 (40 : Int32)) 3 (1000 : Int32)) 4 (0 : Int32)) 5 (5 : Int32)) 6 (0 : Int32)) 7 (10 : Int32)) 8 (40 : Int32)) 9 (1000 : Int32)) 10 (0 : Int32)) 11 (5 : Int32)) 12 (0 : Int32)) 13 (10 : Int32)) 14 (40 : Int32)) 15 (1000 : Int32)) 16 (0 : Int32)) 17 (5 : Int32)) 18 (0 : Int32)) 19 (10 : Int32)) 20 (40 : Int32)) 21 (1000 : Int32)) 22 (0 : Int32)) 23 (5 : Int32)))) : Met l yX9_tyreNumber (tw_ws yX9_tyreNumber cX9_tyreNumber 3 (some .int)) ({ frames := 1, cells := 0, slots := 0, locals := 21 }) (tw_Pre G 244 ad w sz [.ref (ad 4), .int x1, .int (0 : Int32)]) (tw_Qi G 244 ad (fun r w1 => ((0 : Int32) = r ∧ (((((z1 < 0)) ∨ ((¬ (z1 < 0)) ∧ (4 ≤ z1)))) ∨ (((¬ (z1 < 0)) ∧ (¬ (4 ≤ z1))) ∧ ((¬ (0 < 0)) ∧ (¬ (6 ≤ 0))) ∧ (z1 = 0)) ∨ (((¬ (z1 < 0)) ∧ (¬ (4 ≤ z1))) ∧ ((¬ (0 < 0)) ∧ (¬ (6 ≤ 0))) ∧ (z1 = 1)) ∨ (((¬ (z1 < 0)) ∧ (¬ (4 ≤ z1))) ∧ ((¬ (0 < 0)) ∧ (¬ (6 ≤ 0))) ∧ (z1 = 2)) ∨ (((¬ (z1 < 0)) ∧ (¬ (4 ≤ z1))) ∧ ((¬ (0 < 0)) ∧ (¬ (6 ≤ 0))) ∧ (z1 = 3))) ∧ w = w1)) sz) 0 0 (tw_A 244 ad sz) := by
  refine tw_met (by decide) (Nat.le_of_ble_eq_true rfl) ?_
  intro p e s m args below meth c F hret hlk hin hargs hsz hH ls hl
  have hx := F.1.1
  have hb := F.1.2.1
  have hown := F.1.2.2.2.1
  have hts := F.1.2.2.2.2
  have hl : lv_has ls 3 [(0, .ref (ad 4)), (1, .int x1), (2, .int (0 : Int32))] := hl
  generalize hH0 : s.heap = H at hH ⊢
  refine lv_iload_n hx hb dX9_tyreNumber_0 rfl (lv_at hl 1 rfl) ?_
  refine lv_iconst (v := 4) hx hb dX9_tyreNumber_1 (by decide) ?_
  refine tw_calli F hH (tw_runSN (host := "RaceByLaps") (As := [.int x1, .int (4 : Int32)]) (rest := []) F hH (c_X11_isIndex l G 244 ad w H.size x1 (z1) e1 (4 : Int32) 4 (by decide : (4 : Int32).toInt = 4)) (by decide) km_X11_isIndex (tw_gl kw_562 rfl) rfl rfl ⟨(Nat.le_of_ble_eq_true rfl), (Nat.le_of_ble_eq_true rfl)⟩ rfl hl.1 rfl (Nat.le_of_ble_eq_true rfl) dX9_tyreNumber_2 ⟨(Nat.le_of_ble_eq_true rfl), (Nat.le_of_ble_eq_true rfl)⟩) (fun r3 w1 H locs hp2 _ hH => ?_)
  rcases hp2 with ⟨rfl, hc4, rfl⟩ | ⟨rfl, hc5, rfl⟩
  · skip
    refine lv_if_eq (tgt := 17) hx hb dX9_tyreNumber_5 (by decide) (fun _ => ?_) (fun c => absurd c (by decide))
    refine lv_iconst (v := 0) hx hb dX9_tyreNumber_17 (by decide) ?_
    exact tw_iret F hH hret hlk rfl (Nat.le_of_ble_eq_true rfl) (Nat.le_of_ble_eq_true rfl) dX9_tyreNumber_18 (⟨rfl, (Or.inl (by omega)), rfl⟩)
  · skip
    refine lv_if_eq (tgt := 17) hx hb dX9_tyreNumber_5 (by decide) (fun c => absurd c (by decide)) (fun _ => ?_)
    refine lv_iload_n hx hb dX9_tyreNumber_8 rfl (lv_at hl 2 rfl) ?_
    refine lv_bipush (v := 6) hx hb dX9_tyreNumber_9 (by decide) ?_
    refine tw_calli F hH (tw_runSN (host := "RaceByLaps") (As := [.int (0 : Int32), .int (6 : Int32)]) (rest := []) F hH (c_X11_isIndex l G 244 ad w H.size (0 : Int32) 0 (by decide : (0 : Int32).toInt = 0) (6 : Int32) 6 (by decide : (6 : Int32).toInt = 6)) (by decide) km_X11_isIndex (tw_gl kw_562 rfl) rfl rfl ⟨(Nat.le_of_ble_eq_true rfl), (Nat.le_of_ble_eq_true rfl)⟩ rfl hl.1 rfl (Nat.le_of_ble_eq_true rfl) dX9_tyreNumber_11 ⟨(Nat.le_of_ble_eq_true rfl), (Nat.le_of_ble_eq_true rfl)⟩) (fun r10 w8 H locs hp9 _ hH => ?_)
    rcases hp9 with ⟨rfl, hc11, rfl⟩ | ⟨rfl, hc12, rfl⟩
    · exfalso; omega
    · skip
      refine lv_if_ne (tgt := 19) hx hb dX9_tyreNumber_14 (by decide) (fun _ => ?_) (fun c => absurd c (by decide))
      refine lv_aload_n hx hb dX9_tyreNumber_19 rfl (lv_at hl 0 rfl) ?_
      refine tw_get (r := 4) F hH kf_RX9_22 rfl (by decide) hw_4 rfl dX9_tyreNumber_20 ?_
      refine lv_iload_n hx hb dX9_tyreNumber_23 rfl (lv_at hl 1 rfl) ?_
      refine lv_bipush (v := 6) hx hb dX9_tyreNumber_24 (by decide) ?_
      rcases (by omega : z1 = 0 ∨ z1 = 1 ∨ z1 = 2 ∨ z1 = 3) with hz14 | hz14 | hz14 | hz14
      · skip
        obtain rfl : (0 : Int32) = x1 := (Int32.toInt_inj.mp ((e1.trans hz14).trans (by decide : (0 : Int) = (0 : Int32).toInt))).symm
        refine lv_imul hx hb dX9_tyreNumber_26 ?_
        refine tw_cv (v := (0 : Int32)) (by decide) ?_
        refine lv_iload_n hx hb dX9_tyreNumber_27 rfl (lv_at hl 2 rfl) ?_
        refine lv_iadd hx hb dX9_tyreNumber_28 ?_
        refine tw_cv (v := (0 : Int32)) (by decide) ?_
        refine tw_iald (r := 8) (j := 0) (v := (0 : Int32)) F hH rfl (by decide) hw_8 (by decide) (by decide) rfl dX9_tyreNumber_29 ?_
        exact tw_iret F hH hret hlk rfl (Nat.le_of_ble_eq_true rfl) (Nat.le_of_ble_eq_true rfl) dX9_tyreNumber_30 (⟨rfl, (Or.inr (Or.inl (by omega))), rfl⟩)
      · skip
        obtain rfl : (1 : Int32) = x1 := (Int32.toInt_inj.mp ((e1.trans hz14).trans (by decide : (1 : Int) = (1 : Int32).toInt))).symm
        refine lv_imul hx hb dX9_tyreNumber_26 ?_
        refine tw_cv (v := (6 : Int32)) (by decide) ?_
        refine lv_iload_n hx hb dX9_tyreNumber_27 rfl (lv_at hl 2 rfl) ?_
        refine lv_iadd hx hb dX9_tyreNumber_28 ?_
        refine tw_cv (v := (6 : Int32)) (by decide) ?_
        refine tw_iald (r := 8) (j := 6) (v := (0 : Int32)) F hH rfl (by decide) hw_8 (by decide) (by decide) rfl dX9_tyreNumber_29 ?_
        exact tw_iret F hH hret hlk rfl (Nat.le_of_ble_eq_true rfl) (Nat.le_of_ble_eq_true rfl) dX9_tyreNumber_30 (⟨rfl, (Or.inr (Or.inr (Or.inl (by omega)))), rfl⟩)
      · skip
        obtain rfl : (2 : Int32) = x1 := (Int32.toInt_inj.mp ((e1.trans hz14).trans (by decide : (2 : Int) = (2 : Int32).toInt))).symm
        refine lv_imul hx hb dX9_tyreNumber_26 ?_
        refine tw_cv (v := (12 : Int32)) (by decide) ?_
        refine lv_iload_n hx hb dX9_tyreNumber_27 rfl (lv_at hl 2 rfl) ?_
        refine lv_iadd hx hb dX9_tyreNumber_28 ?_
        refine tw_cv (v := (12 : Int32)) (by decide) ?_
        refine tw_iald (r := 8) (j := 12) (v := (0 : Int32)) F hH rfl (by decide) hw_8 (by decide) (by decide) rfl dX9_tyreNumber_29 ?_
        exact tw_iret F hH hret hlk rfl (Nat.le_of_ble_eq_true rfl) (Nat.le_of_ble_eq_true rfl) dX9_tyreNumber_30 (⟨rfl, (Or.inr (Or.inr (Or.inr (Or.inl (by omega))))), rfl⟩)
      · skip
        obtain rfl : (3 : Int32) = x1 := (Int32.toInt_inj.mp ((e1.trans hz14).trans (by decide : (3 : Int) = (3 : Int32).toInt))).symm
        refine lv_imul hx hb dX9_tyreNumber_26 ?_
        refine tw_cv (v := (18 : Int32)) (by decide) ?_
        refine lv_iload_n hx hb dX9_tyreNumber_27 rfl (lv_at hl 2 rfl) ?_
        refine lv_iadd hx hb dX9_tyreNumber_28 ?_
        refine tw_cv (v := (18 : Int32)) (by decide) ?_
        refine tw_iald (r := 8) (j := 18) (v := (0 : Int32)) F hH rfl (by decide) hw_8 (by decide) (by decide) rfl dX9_tyreNumber_29 ?_
        exact tw_iret F hH hret hlk rfl (Nat.le_of_ble_eq_true rfl) (Nat.le_of_ble_eq_true rfl) dX9_tyreNumber_30 (⟨rfl, (Or.inr (Or.inr (Or.inr (Or.inr (by omega))))), rfl⟩)
set_option maxHeartbeats 4000000 in
set_option maxRecDepth 100000 in
theorem c_X9_tyreNumber_v2 (l : Launch) (G : tw_G) (ad : Nat → Nat) (w : Nat → va_E) (sz : Nat) (x1 : Int32) (z1 : Int) (e1 : x1.toInt = z1) (hw_4 : w 4 = .inr (9, [.int (2 : Int32), .int (1 : Int32), .ref (ad 5), .ref (ad 6), .ref (ad 7), .ref (ad 8), .ref (ad 9), .ref (ad 10), .ref (ad 12)])) (hw_8 : w 8 = .inl (G.2.1 0, 24, .inl (upd (upd (upd (upd (upd (upd (upd (upd (upd (upd (upd (upd (upd (upd (upd (upd (upd (upd (upd (upd (upd (upd (upd (upd (fun _ => 0) 0 (0 : Int32)) 1 (10 : Int32)) 2 (40 : Int32)) 3 (1000 : Int32)) 4 (0 : Int32)) 5 (5 : Int32)) 6 (0 : Int32)) 7 (10 : Int32)) 8 (40 : Int32)) 9 (1000 : Int32)) 10 (0 : Int32)) 11 (5 : Int32)) 12 (0 : Int32)) 13 (10 : Int32)) 14 (40 : Int32)) 15 (1000 : Int32)) 16 (0 : Int32)) 17 (5 : Int32)) 18 (0 : Int32)) 19 (10 : Int32)) 20 (40 : Int32)) 21 (1000 : Int32)) 22 (0 : Int32)) 23 (5 : Int32)))) : Met l yX9_tyreNumber (tw_ws yX9_tyreNumber cX9_tyreNumber 3 (some .int)) ({ frames := 1, cells := 0, slots := 0, locals := 21 }) (tw_Pre G 244 ad w sz [.ref (ad 4), .int x1, .int (1 : Int32)]) (tw_Qi G 244 ad (fun r w1 => ((0 : Int32) = r ∧ (((z1 < 0)) ∨ ((¬ (z1 < 0)) ∧ (4 ≤ z1))) ∧ w = w1) ∨ ((10 : Int32) = r ∧ ((((¬ (z1 < 0)) ∧ (¬ (4 ≤ z1))) ∧ ((¬ (1 < 0)) ∧ (¬ (6 ≤ 1))) ∧ (z1 = 0)) ∨ (((¬ (z1 < 0)) ∧ (¬ (4 ≤ z1))) ∧ ((¬ (1 < 0)) ∧ (¬ (6 ≤ 1))) ∧ (z1 = 1)) ∨ (((¬ (z1 < 0)) ∧ (¬ (4 ≤ z1))) ∧ ((¬ (1 < 0)) ∧ (¬ (6 ≤ 1))) ∧ (z1 = 2)) ∨ (((¬ (z1 < 0)) ∧ (¬ (4 ≤ z1))) ∧ ((¬ (1 < 0)) ∧ (¬ (6 ≤ 1))) ∧ (z1 = 3))) ∧ w = w1)) sz) 0 0 (tw_A 244 ad sz) := by
  refine tw_met (by decide) (Nat.le_of_ble_eq_true rfl) ?_
  intro p e s m args below meth c F hret hlk hin hargs hsz hH ls hl
  have hx := F.1.1
  have hb := F.1.2.1
  have hown := F.1.2.2.2.1
  have hts := F.1.2.2.2.2
  have hl : lv_has ls 3 [(0, .ref (ad 4)), (1, .int x1), (2, .int (1 : Int32))] := hl
  generalize hH0 : s.heap = H at hH ⊢
  refine lv_iload_n hx hb dX9_tyreNumber_0 rfl (lv_at hl 1 rfl) ?_
  refine lv_iconst (v := 4) hx hb dX9_tyreNumber_1 (by decide) ?_
  refine tw_calli F hH (tw_runSN (host := "RaceByLaps") (As := [.int x1, .int (4 : Int32)]) (rest := []) F hH (c_X11_isIndex l G 244 ad w H.size x1 (z1) e1 (4 : Int32) 4 (by decide : (4 : Int32).toInt = 4)) (by decide) km_X11_isIndex (tw_gl kw_562 rfl) rfl rfl ⟨(Nat.le_of_ble_eq_true rfl), (Nat.le_of_ble_eq_true rfl)⟩ rfl hl.1 rfl (Nat.le_of_ble_eq_true rfl) dX9_tyreNumber_2 ⟨(Nat.le_of_ble_eq_true rfl), (Nat.le_of_ble_eq_true rfl)⟩) (fun r3 w1 H locs hp2 _ hH => ?_)
  rcases hp2 with ⟨rfl, hc4, rfl⟩ | ⟨rfl, hc5, rfl⟩
  · skip
    refine lv_if_eq (tgt := 17) hx hb dX9_tyreNumber_5 (by decide) (fun _ => ?_) (fun c => absurd c (by decide))
    refine lv_iconst (v := 0) hx hb dX9_tyreNumber_17 (by decide) ?_
    exact tw_iret F hH hret hlk rfl (Nat.le_of_ble_eq_true rfl) (Nat.le_of_ble_eq_true rfl) dX9_tyreNumber_18 (Or.inl (⟨rfl, (by omega), rfl⟩))
  · skip
    refine lv_if_eq (tgt := 17) hx hb dX9_tyreNumber_5 (by decide) (fun c => absurd c (by decide)) (fun _ => ?_)
    refine lv_iload_n hx hb dX9_tyreNumber_8 rfl (lv_at hl 2 rfl) ?_
    refine lv_bipush (v := 6) hx hb dX9_tyreNumber_9 (by decide) ?_
    refine tw_calli F hH (tw_runSN (host := "RaceByLaps") (As := [.int (1 : Int32), .int (6 : Int32)]) (rest := []) F hH (c_X11_isIndex l G 244 ad w H.size (1 : Int32) 1 (by decide : (1 : Int32).toInt = 1) (6 : Int32) 6 (by decide : (6 : Int32).toInt = 6)) (by decide) km_X11_isIndex (tw_gl kw_562 rfl) rfl rfl ⟨(Nat.le_of_ble_eq_true rfl), (Nat.le_of_ble_eq_true rfl)⟩ rfl hl.1 rfl (Nat.le_of_ble_eq_true rfl) dX9_tyreNumber_11 ⟨(Nat.le_of_ble_eq_true rfl), (Nat.le_of_ble_eq_true rfl)⟩) (fun r10 w8 H locs hp9 _ hH => ?_)
    rcases hp9 with ⟨rfl, hc11, rfl⟩ | ⟨rfl, hc12, rfl⟩
    · exfalso; omega
    · skip
      refine lv_if_ne (tgt := 19) hx hb dX9_tyreNumber_14 (by decide) (fun _ => ?_) (fun c => absurd c (by decide))
      refine lv_aload_n hx hb dX9_tyreNumber_19 rfl (lv_at hl 0 rfl) ?_
      refine tw_get (r := 4) F hH kf_RX9_22 rfl (by decide) hw_4 rfl dX9_tyreNumber_20 ?_
      refine lv_iload_n hx hb dX9_tyreNumber_23 rfl (lv_at hl 1 rfl) ?_
      refine lv_bipush (v := 6) hx hb dX9_tyreNumber_24 (by decide) ?_
      rcases (by omega : z1 = 0 ∨ z1 = 1 ∨ z1 = 2 ∨ z1 = 3) with hz14 | hz14 | hz14 | hz14
      · skip
        obtain rfl : (0 : Int32) = x1 := (Int32.toInt_inj.mp ((e1.trans hz14).trans (by decide : (0 : Int) = (0 : Int32).toInt))).symm
        refine lv_imul hx hb dX9_tyreNumber_26 ?_
        refine tw_cv (v := (0 : Int32)) (by decide) ?_
        refine lv_iload_n hx hb dX9_tyreNumber_27 rfl (lv_at hl 2 rfl) ?_
        refine lv_iadd hx hb dX9_tyreNumber_28 ?_
        refine tw_cv (v := (1 : Int32)) (by decide) ?_
        refine tw_iald (r := 8) (j := 1) (v := (10 : Int32)) F hH rfl (by decide) hw_8 (by decide) (by decide) rfl dX9_tyreNumber_29 ?_
        exact tw_iret F hH hret hlk rfl (Nat.le_of_ble_eq_true rfl) (Nat.le_of_ble_eq_true rfl) dX9_tyreNumber_30 (Or.inr (⟨rfl, (Or.inl (by omega)), rfl⟩))
      · skip
        obtain rfl : (1 : Int32) = x1 := (Int32.toInt_inj.mp ((e1.trans hz14).trans (by decide : (1 : Int) = (1 : Int32).toInt))).symm
        refine lv_imul hx hb dX9_tyreNumber_26 ?_
        refine tw_cv (v := (6 : Int32)) (by decide) ?_
        refine lv_iload_n hx hb dX9_tyreNumber_27 rfl (lv_at hl 2 rfl) ?_
        refine lv_iadd hx hb dX9_tyreNumber_28 ?_
        refine tw_cv (v := (7 : Int32)) (by decide) ?_
        refine tw_iald (r := 8) (j := 7) (v := (10 : Int32)) F hH rfl (by decide) hw_8 (by decide) (by decide) rfl dX9_tyreNumber_29 ?_
        exact tw_iret F hH hret hlk rfl (Nat.le_of_ble_eq_true rfl) (Nat.le_of_ble_eq_true rfl) dX9_tyreNumber_30 (Or.inr (⟨rfl, (Or.inr (Or.inl (by omega))), rfl⟩))
      · skip
        obtain rfl : (2 : Int32) = x1 := (Int32.toInt_inj.mp ((e1.trans hz14).trans (by decide : (2 : Int) = (2 : Int32).toInt))).symm
        refine lv_imul hx hb dX9_tyreNumber_26 ?_
        refine tw_cv (v := (12 : Int32)) (by decide) ?_
        refine lv_iload_n hx hb dX9_tyreNumber_27 rfl (lv_at hl 2 rfl) ?_
        refine lv_iadd hx hb dX9_tyreNumber_28 ?_
        refine tw_cv (v := (13 : Int32)) (by decide) ?_
        refine tw_iald (r := 8) (j := 13) (v := (10 : Int32)) F hH rfl (by decide) hw_8 (by decide) (by decide) rfl dX9_tyreNumber_29 ?_
        exact tw_iret F hH hret hlk rfl (Nat.le_of_ble_eq_true rfl) (Nat.le_of_ble_eq_true rfl) dX9_tyreNumber_30 (Or.inr (⟨rfl, (Or.inr (Or.inr (Or.inl (by omega)))), rfl⟩))
      · skip
        obtain rfl : (3 : Int32) = x1 := (Int32.toInt_inj.mp ((e1.trans hz14).trans (by decide : (3 : Int) = (3 : Int32).toInt))).symm
        refine lv_imul hx hb dX9_tyreNumber_26 ?_
        refine tw_cv (v := (18 : Int32)) (by decide) ?_
        refine lv_iload_n hx hb dX9_tyreNumber_27 rfl (lv_at hl 2 rfl) ?_
        refine lv_iadd hx hb dX9_tyreNumber_28 ?_
        refine tw_cv (v := (19 : Int32)) (by decide) ?_
        refine tw_iald (r := 8) (j := 19) (v := (10 : Int32)) F hH rfl (by decide) hw_8 (by decide) (by decide) rfl dX9_tyreNumber_29 ?_
        exact tw_iret F hH hret hlk rfl (Nat.le_of_ble_eq_true rfl) (Nat.le_of_ble_eq_true rfl) dX9_tyreNumber_30 (Or.inr (⟨rfl, (Or.inr (Or.inr (Or.inr (by omega)))), rfl⟩))
set_option maxHeartbeats 4000000 in
set_option maxRecDepth 100000 in
theorem c_X9_tyreNumber_v3 (l : Launch) (G : tw_G) (ad : Nat → Nat) (w : Nat → va_E) (sz : Nat) (x1 : Int32) (z1 : Int) (e1 : x1.toInt = z1) (hw_4 : w 4 = .inr (9, [.int (2 : Int32), .int (1 : Int32), .ref (ad 5), .ref (ad 6), .ref (ad 7), .ref (ad 8), .ref (ad 9), .ref (ad 10), .ref (ad 12)])) (hw_8 : w 8 = .inl (G.2.1 0, 24, .inl (upd (upd (upd (upd (upd (upd (upd (upd (upd (upd (upd (upd (upd (upd (upd (upd (upd (upd (upd (upd (upd (upd (upd (upd (fun _ => 0) 0 (0 : Int32)) 1 (10 : Int32)) 2 (40 : Int32)) 3 (1000 : Int32)) 4 (0 : Int32)) 5 (5 : Int32)) 6 (0 : Int32)) 7 (10 : Int32)) 8 (40 : Int32)) 9 (1000 : Int32)) 10 (0 : Int32)) 11 (5 : Int32)) 12 (0 : Int32)) 13 (10 : Int32)) 14 (40 : Int32)) 15 (1000 : Int32)) 16 (0 : Int32)) 17 (5 : Int32)) 18 (0 : Int32)) 19 (10 : Int32)) 20 (40 : Int32)) 21 (1000 : Int32)) 22 (0 : Int32)) 23 (5 : Int32)))) : Met l yX9_tyreNumber (tw_ws yX9_tyreNumber cX9_tyreNumber 3 (some .int)) ({ frames := 1, cells := 0, slots := 0, locals := 21 }) (tw_Pre G 244 ad w sz [.ref (ad 4), .int x1, .int (2 : Int32)]) (tw_Qi G 244 ad (fun r w1 => ((0 : Int32) = r ∧ (((z1 < 0)) ∨ ((¬ (z1 < 0)) ∧ (4 ≤ z1))) ∧ w = w1) ∨ ((40 : Int32) = r ∧ ((((¬ (z1 < 0)) ∧ (¬ (4 ≤ z1))) ∧ ((¬ (2 < 0)) ∧ (¬ (6 ≤ 2))) ∧ (z1 = 0)) ∨ (((¬ (z1 < 0)) ∧ (¬ (4 ≤ z1))) ∧ ((¬ (2 < 0)) ∧ (¬ (6 ≤ 2))) ∧ (z1 = 1)) ∨ (((¬ (z1 < 0)) ∧ (¬ (4 ≤ z1))) ∧ ((¬ (2 < 0)) ∧ (¬ (6 ≤ 2))) ∧ (z1 = 2)) ∨ (((¬ (z1 < 0)) ∧ (¬ (4 ≤ z1))) ∧ ((¬ (2 < 0)) ∧ (¬ (6 ≤ 2))) ∧ (z1 = 3))) ∧ w = w1)) sz) 0 0 (tw_A 244 ad sz) := by
  refine tw_met (by decide) (Nat.le_of_ble_eq_true rfl) ?_
  intro p e s m args below meth c F hret hlk hin hargs hsz hH ls hl
  have hx := F.1.1
  have hb := F.1.2.1
  have hown := F.1.2.2.2.1
  have hts := F.1.2.2.2.2
  have hl : lv_has ls 3 [(0, .ref (ad 4)), (1, .int x1), (2, .int (2 : Int32))] := hl
  generalize hH0 : s.heap = H at hH ⊢
  refine lv_iload_n hx hb dX9_tyreNumber_0 rfl (lv_at hl 1 rfl) ?_
  refine lv_iconst (v := 4) hx hb dX9_tyreNumber_1 (by decide) ?_
  refine tw_calli F hH (tw_runSN (host := "RaceByLaps") (As := [.int x1, .int (4 : Int32)]) (rest := []) F hH (c_X11_isIndex l G 244 ad w H.size x1 (z1) e1 (4 : Int32) 4 (by decide : (4 : Int32).toInt = 4)) (by decide) km_X11_isIndex (tw_gl kw_562 rfl) rfl rfl ⟨(Nat.le_of_ble_eq_true rfl), (Nat.le_of_ble_eq_true rfl)⟩ rfl hl.1 rfl (Nat.le_of_ble_eq_true rfl) dX9_tyreNumber_2 ⟨(Nat.le_of_ble_eq_true rfl), (Nat.le_of_ble_eq_true rfl)⟩) (fun r3 w1 H locs hp2 _ hH => ?_)
  rcases hp2 with ⟨rfl, hc4, rfl⟩ | ⟨rfl, hc5, rfl⟩
  · skip
    refine lv_if_eq (tgt := 17) hx hb dX9_tyreNumber_5 (by decide) (fun _ => ?_) (fun c => absurd c (by decide))
    refine lv_iconst (v := 0) hx hb dX9_tyreNumber_17 (by decide) ?_
    exact tw_iret F hH hret hlk rfl (Nat.le_of_ble_eq_true rfl) (Nat.le_of_ble_eq_true rfl) dX9_tyreNumber_18 (Or.inl (⟨rfl, (by omega), rfl⟩))
  · skip
    refine lv_if_eq (tgt := 17) hx hb dX9_tyreNumber_5 (by decide) (fun c => absurd c (by decide)) (fun _ => ?_)
    refine lv_iload_n hx hb dX9_tyreNumber_8 rfl (lv_at hl 2 rfl) ?_
    refine lv_bipush (v := 6) hx hb dX9_tyreNumber_9 (by decide) ?_
    refine tw_calli F hH (tw_runSN (host := "RaceByLaps") (As := [.int (2 : Int32), .int (6 : Int32)]) (rest := []) F hH (c_X11_isIndex l G 244 ad w H.size (2 : Int32) 2 (by decide : (2 : Int32).toInt = 2) (6 : Int32) 6 (by decide : (6 : Int32).toInt = 6)) (by decide) km_X11_isIndex (tw_gl kw_562 rfl) rfl rfl ⟨(Nat.le_of_ble_eq_true rfl), (Nat.le_of_ble_eq_true rfl)⟩ rfl hl.1 rfl (Nat.le_of_ble_eq_true rfl) dX9_tyreNumber_11 ⟨(Nat.le_of_ble_eq_true rfl), (Nat.le_of_ble_eq_true rfl)⟩) (fun r10 w8 H locs hp9 _ hH => ?_)
    rcases hp9 with ⟨rfl, hc11, rfl⟩ | ⟨rfl, hc12, rfl⟩
    · exfalso; omega
    · skip
      refine lv_if_ne (tgt := 19) hx hb dX9_tyreNumber_14 (by decide) (fun _ => ?_) (fun c => absurd c (by decide))
      refine lv_aload_n hx hb dX9_tyreNumber_19 rfl (lv_at hl 0 rfl) ?_
      refine tw_get (r := 4) F hH kf_RX9_22 rfl (by decide) hw_4 rfl dX9_tyreNumber_20 ?_
      refine lv_iload_n hx hb dX9_tyreNumber_23 rfl (lv_at hl 1 rfl) ?_
      refine lv_bipush (v := 6) hx hb dX9_tyreNumber_24 (by decide) ?_
      rcases (by omega : z1 = 0 ∨ z1 = 1 ∨ z1 = 2 ∨ z1 = 3) with hz14 | hz14 | hz14 | hz14
      · skip
        obtain rfl : (0 : Int32) = x1 := (Int32.toInt_inj.mp ((e1.trans hz14).trans (by decide : (0 : Int) = (0 : Int32).toInt))).symm
        refine lv_imul hx hb dX9_tyreNumber_26 ?_
        refine tw_cv (v := (0 : Int32)) (by decide) ?_
        refine lv_iload_n hx hb dX9_tyreNumber_27 rfl (lv_at hl 2 rfl) ?_
        refine lv_iadd hx hb dX9_tyreNumber_28 ?_
        refine tw_cv (v := (2 : Int32)) (by decide) ?_
        refine tw_iald (r := 8) (j := 2) (v := (40 : Int32)) F hH rfl (by decide) hw_8 (by decide) (by decide) rfl dX9_tyreNumber_29 ?_
        exact tw_iret F hH hret hlk rfl (Nat.le_of_ble_eq_true rfl) (Nat.le_of_ble_eq_true rfl) dX9_tyreNumber_30 (Or.inr (⟨rfl, (Or.inl (by omega)), rfl⟩))
      · skip
        obtain rfl : (1 : Int32) = x1 := (Int32.toInt_inj.mp ((e1.trans hz14).trans (by decide : (1 : Int) = (1 : Int32).toInt))).symm
        refine lv_imul hx hb dX9_tyreNumber_26 ?_
        refine tw_cv (v := (6 : Int32)) (by decide) ?_
        refine lv_iload_n hx hb dX9_tyreNumber_27 rfl (lv_at hl 2 rfl) ?_
        refine lv_iadd hx hb dX9_tyreNumber_28 ?_
        refine tw_cv (v := (8 : Int32)) (by decide) ?_
        refine tw_iald (r := 8) (j := 8) (v := (40 : Int32)) F hH rfl (by decide) hw_8 (by decide) (by decide) rfl dX9_tyreNumber_29 ?_
        exact tw_iret F hH hret hlk rfl (Nat.le_of_ble_eq_true rfl) (Nat.le_of_ble_eq_true rfl) dX9_tyreNumber_30 (Or.inr (⟨rfl, (Or.inr (Or.inl (by omega))), rfl⟩))
      · skip
        obtain rfl : (2 : Int32) = x1 := (Int32.toInt_inj.mp ((e1.trans hz14).trans (by decide : (2 : Int) = (2 : Int32).toInt))).symm
        refine lv_imul hx hb dX9_tyreNumber_26 ?_
        refine tw_cv (v := (12 : Int32)) (by decide) ?_
        refine lv_iload_n hx hb dX9_tyreNumber_27 rfl (lv_at hl 2 rfl) ?_
        refine lv_iadd hx hb dX9_tyreNumber_28 ?_
        refine tw_cv (v := (14 : Int32)) (by decide) ?_
        refine tw_iald (r := 8) (j := 14) (v := (40 : Int32)) F hH rfl (by decide) hw_8 (by decide) (by decide) rfl dX9_tyreNumber_29 ?_
        exact tw_iret F hH hret hlk rfl (Nat.le_of_ble_eq_true rfl) (Nat.le_of_ble_eq_true rfl) dX9_tyreNumber_30 (Or.inr (⟨rfl, (Or.inr (Or.inr (Or.inl (by omega)))), rfl⟩))
      · skip
        obtain rfl : (3 : Int32) = x1 := (Int32.toInt_inj.mp ((e1.trans hz14).trans (by decide : (3 : Int) = (3 : Int32).toInt))).symm
        refine lv_imul hx hb dX9_tyreNumber_26 ?_
        refine tw_cv (v := (18 : Int32)) (by decide) ?_
        refine lv_iload_n hx hb dX9_tyreNumber_27 rfl (lv_at hl 2 rfl) ?_
        refine lv_iadd hx hb dX9_tyreNumber_28 ?_
        refine tw_cv (v := (20 : Int32)) (by decide) ?_
        refine tw_iald (r := 8) (j := 20) (v := (40 : Int32)) F hH rfl (by decide) hw_8 (by decide) (by decide) rfl dX9_tyreNumber_29 ?_
        exact tw_iret F hH hret hlk rfl (Nat.le_of_ble_eq_true rfl) (Nat.le_of_ble_eq_true rfl) dX9_tyreNumber_30 (Or.inr (⟨rfl, (Or.inr (Or.inr (Or.inr (by omega)))), rfl⟩))
set_option maxHeartbeats 4000000 in
set_option maxRecDepth 100000 in
theorem c_X9_tyreNumber_v4 (l : Launch) (G : tw_G) (ad : Nat → Nat) (w : Nat → va_E) (sz : Nat) (x1 : Int32) (z1 : Int) (e1 : x1.toInt = z1) (hw_4 : w 4 = .inr (9, [.int (2 : Int32), .int (1 : Int32), .ref (ad 5), .ref (ad 6), .ref (ad 7), .ref (ad 8), .ref (ad 9), .ref (ad 10), .ref (ad 12)])) (hw_8 : w 8 = .inl (G.2.1 0, 24, .inl (upd (upd (upd (upd (upd (upd (upd (upd (upd (upd (upd (upd (upd (upd (upd (upd (upd (upd (upd (upd (upd (upd (upd (upd (fun _ => 0) 0 (0 : Int32)) 1 (10 : Int32)) 2 (40 : Int32)) 3 (1000 : Int32)) 4 (0 : Int32)) 5 (5 : Int32)) 6 (0 : Int32)) 7 (10 : Int32)) 8 (40 : Int32)) 9 (1000 : Int32)) 10 (0 : Int32)) 11 (5 : Int32)) 12 (0 : Int32)) 13 (10 : Int32)) 14 (40 : Int32)) 15 (1000 : Int32)) 16 (0 : Int32)) 17 (5 : Int32)) 18 (0 : Int32)) 19 (10 : Int32)) 20 (40 : Int32)) 21 (1000 : Int32)) 22 (0 : Int32)) 23 (5 : Int32)))) : Met l yX9_tyreNumber (tw_ws yX9_tyreNumber cX9_tyreNumber 3 (some .int)) ({ frames := 1, cells := 0, slots := 0, locals := 21 }) (tw_Pre G 244 ad w sz [.ref (ad 4), .int x1, .int (3 : Int32)]) (tw_Qi G 244 ad (fun r w1 => ((0 : Int32) = r ∧ (((z1 < 0)) ∨ ((¬ (z1 < 0)) ∧ (4 ≤ z1))) ∧ w = w1) ∨ ((1000 : Int32) = r ∧ ((((¬ (z1 < 0)) ∧ (¬ (4 ≤ z1))) ∧ ((¬ (3 < 0)) ∧ (¬ (6 ≤ 3))) ∧ (z1 = 0)) ∨ (((¬ (z1 < 0)) ∧ (¬ (4 ≤ z1))) ∧ ((¬ (3 < 0)) ∧ (¬ (6 ≤ 3))) ∧ (z1 = 1)) ∨ (((¬ (z1 < 0)) ∧ (¬ (4 ≤ z1))) ∧ ((¬ (3 < 0)) ∧ (¬ (6 ≤ 3))) ∧ (z1 = 2)) ∨ (((¬ (z1 < 0)) ∧ (¬ (4 ≤ z1))) ∧ ((¬ (3 < 0)) ∧ (¬ (6 ≤ 3))) ∧ (z1 = 3))) ∧ w = w1)) sz) 0 0 (tw_A 244 ad sz) := by
  refine tw_met (by decide) (Nat.le_of_ble_eq_true rfl) ?_
  intro p e s m args below meth c F hret hlk hin hargs hsz hH ls hl
  have hx := F.1.1
  have hb := F.1.2.1
  have hown := F.1.2.2.2.1
  have hts := F.1.2.2.2.2
  have hl : lv_has ls 3 [(0, .ref (ad 4)), (1, .int x1), (2, .int (3 : Int32))] := hl
  generalize hH0 : s.heap = H at hH ⊢
  refine lv_iload_n hx hb dX9_tyreNumber_0 rfl (lv_at hl 1 rfl) ?_
  refine lv_iconst (v := 4) hx hb dX9_tyreNumber_1 (by decide) ?_
  refine tw_calli F hH (tw_runSN (host := "RaceByLaps") (As := [.int x1, .int (4 : Int32)]) (rest := []) F hH (c_X11_isIndex l G 244 ad w H.size x1 (z1) e1 (4 : Int32) 4 (by decide : (4 : Int32).toInt = 4)) (by decide) km_X11_isIndex (tw_gl kw_562 rfl) rfl rfl ⟨(Nat.le_of_ble_eq_true rfl), (Nat.le_of_ble_eq_true rfl)⟩ rfl hl.1 rfl (Nat.le_of_ble_eq_true rfl) dX9_tyreNumber_2 ⟨(Nat.le_of_ble_eq_true rfl), (Nat.le_of_ble_eq_true rfl)⟩) (fun r3 w1 H locs hp2 _ hH => ?_)
  rcases hp2 with ⟨rfl, hc4, rfl⟩ | ⟨rfl, hc5, rfl⟩
  · skip
    refine lv_if_eq (tgt := 17) hx hb dX9_tyreNumber_5 (by decide) (fun _ => ?_) (fun c => absurd c (by decide))
    refine lv_iconst (v := 0) hx hb dX9_tyreNumber_17 (by decide) ?_
    exact tw_iret F hH hret hlk rfl (Nat.le_of_ble_eq_true rfl) (Nat.le_of_ble_eq_true rfl) dX9_tyreNumber_18 (Or.inl (⟨rfl, (by omega), rfl⟩))
  · skip
    refine lv_if_eq (tgt := 17) hx hb dX9_tyreNumber_5 (by decide) (fun c => absurd c (by decide)) (fun _ => ?_)
    refine lv_iload_n hx hb dX9_tyreNumber_8 rfl (lv_at hl 2 rfl) ?_
    refine lv_bipush (v := 6) hx hb dX9_tyreNumber_9 (by decide) ?_
    refine tw_calli F hH (tw_runSN (host := "RaceByLaps") (As := [.int (3 : Int32), .int (6 : Int32)]) (rest := []) F hH (c_X11_isIndex l G 244 ad w H.size (3 : Int32) 3 (by decide : (3 : Int32).toInt = 3) (6 : Int32) 6 (by decide : (6 : Int32).toInt = 6)) (by decide) km_X11_isIndex (tw_gl kw_562 rfl) rfl rfl ⟨(Nat.le_of_ble_eq_true rfl), (Nat.le_of_ble_eq_true rfl)⟩ rfl hl.1 rfl (Nat.le_of_ble_eq_true rfl) dX9_tyreNumber_11 ⟨(Nat.le_of_ble_eq_true rfl), (Nat.le_of_ble_eq_true rfl)⟩) (fun r10 w8 H locs hp9 _ hH => ?_)
    rcases hp9 with ⟨rfl, hc11, rfl⟩ | ⟨rfl, hc12, rfl⟩
    · exfalso; omega
    · skip
      refine lv_if_ne (tgt := 19) hx hb dX9_tyreNumber_14 (by decide) (fun _ => ?_) (fun c => absurd c (by decide))
      refine lv_aload_n hx hb dX9_tyreNumber_19 rfl (lv_at hl 0 rfl) ?_
      refine tw_get (r := 4) F hH kf_RX9_22 rfl (by decide) hw_4 rfl dX9_tyreNumber_20 ?_
      refine lv_iload_n hx hb dX9_tyreNumber_23 rfl (lv_at hl 1 rfl) ?_
      refine lv_bipush (v := 6) hx hb dX9_tyreNumber_24 (by decide) ?_
      rcases (by omega : z1 = 0 ∨ z1 = 1 ∨ z1 = 2 ∨ z1 = 3) with hz14 | hz14 | hz14 | hz14
      · skip
        obtain rfl : (0 : Int32) = x1 := (Int32.toInt_inj.mp ((e1.trans hz14).trans (by decide : (0 : Int) = (0 : Int32).toInt))).symm
        refine lv_imul hx hb dX9_tyreNumber_26 ?_
        refine tw_cv (v := (0 : Int32)) (by decide) ?_
        refine lv_iload_n hx hb dX9_tyreNumber_27 rfl (lv_at hl 2 rfl) ?_
        refine lv_iadd hx hb dX9_tyreNumber_28 ?_
        refine tw_cv (v := (3 : Int32)) (by decide) ?_
        refine tw_iald (r := 8) (j := 3) (v := (1000 : Int32)) F hH rfl (by decide) hw_8 (by decide) (by decide) rfl dX9_tyreNumber_29 ?_
        exact tw_iret F hH hret hlk rfl (Nat.le_of_ble_eq_true rfl) (Nat.le_of_ble_eq_true rfl) dX9_tyreNumber_30 (Or.inr (⟨rfl, (Or.inl (by omega)), rfl⟩))
      · skip
        obtain rfl : (1 : Int32) = x1 := (Int32.toInt_inj.mp ((e1.trans hz14).trans (by decide : (1 : Int) = (1 : Int32).toInt))).symm
        refine lv_imul hx hb dX9_tyreNumber_26 ?_
        refine tw_cv (v := (6 : Int32)) (by decide) ?_
        refine lv_iload_n hx hb dX9_tyreNumber_27 rfl (lv_at hl 2 rfl) ?_
        refine lv_iadd hx hb dX9_tyreNumber_28 ?_
        refine tw_cv (v := (9 : Int32)) (by decide) ?_
        refine tw_iald (r := 8) (j := 9) (v := (1000 : Int32)) F hH rfl (by decide) hw_8 (by decide) (by decide) rfl dX9_tyreNumber_29 ?_
        exact tw_iret F hH hret hlk rfl (Nat.le_of_ble_eq_true rfl) (Nat.le_of_ble_eq_true rfl) dX9_tyreNumber_30 (Or.inr (⟨rfl, (Or.inr (Or.inl (by omega))), rfl⟩))
      · skip
        obtain rfl : (2 : Int32) = x1 := (Int32.toInt_inj.mp ((e1.trans hz14).trans (by decide : (2 : Int) = (2 : Int32).toInt))).symm
        refine lv_imul hx hb dX9_tyreNumber_26 ?_
        refine tw_cv (v := (12 : Int32)) (by decide) ?_
        refine lv_iload_n hx hb dX9_tyreNumber_27 rfl (lv_at hl 2 rfl) ?_
        refine lv_iadd hx hb dX9_tyreNumber_28 ?_
        refine tw_cv (v := (15 : Int32)) (by decide) ?_
        refine tw_iald (r := 8) (j := 15) (v := (1000 : Int32)) F hH rfl (by decide) hw_8 (by decide) (by decide) rfl dX9_tyreNumber_29 ?_
        exact tw_iret F hH hret hlk rfl (Nat.le_of_ble_eq_true rfl) (Nat.le_of_ble_eq_true rfl) dX9_tyreNumber_30 (Or.inr (⟨rfl, (Or.inr (Or.inr (Or.inl (by omega)))), rfl⟩))
      · skip
        obtain rfl : (3 : Int32) = x1 := (Int32.toInt_inj.mp ((e1.trans hz14).trans (by decide : (3 : Int) = (3 : Int32).toInt))).symm
        refine lv_imul hx hb dX9_tyreNumber_26 ?_
        refine tw_cv (v := (18 : Int32)) (by decide) ?_
        refine lv_iload_n hx hb dX9_tyreNumber_27 rfl (lv_at hl 2 rfl) ?_
        refine lv_iadd hx hb dX9_tyreNumber_28 ?_
        refine tw_cv (v := (21 : Int32)) (by decide) ?_
        refine tw_iald (r := 8) (j := 21) (v := (1000 : Int32)) F hH rfl (by decide) hw_8 (by decide) (by decide) rfl dX9_tyreNumber_29 ?_
        exact tw_iret F hH hret hlk rfl (Nat.le_of_ble_eq_true rfl) (Nat.le_of_ble_eq_true rfl) dX9_tyreNumber_30 (Or.inr (⟨rfl, (Or.inr (Or.inr (Or.inr (by omega)))), rfl⟩))
