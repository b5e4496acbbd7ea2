set_option maxHeartbeats 4000000 in
set_option maxRecDepth 100000 in
theorem c_X1_init (l : Launch) (G : tw_G) (n : Nat) (ad : Nat → Nat) (w : Nat → va_E) (sz : Nat) (hw_n : w n = .inr (1, [.int (0 : Int32), .int (0 : Int32), .int (0 : Int32), .int (0 : Int32), .int (0 : Int32), .int (0 : Int32), .null, .null, .null, .null, .null, .null, .int (0 : Int32), .int (0 : Int32)])) : Met l yX1_init (tw_ws yX1_init cX1_init 1 none) ({ frames := 2, cells := 16, slots := 245, locals := 43 }) (tw_Pre G (n + 1) ad w sz [.ref (ad n)]) (tw_Qn G (n + 1) 16 ad (fun u => (True ∧ u.2 (n + 1) = .inr (7, [.int (4 : Int32), .int (2 : Int32), .ref (u.1 (n + 2)), .int (0 : Int32)]) ∧ u.2 (n + 2) = .inl (G.2.1 0, 8, .inl (fun _ => 0)) ∧ u.2 n = .inr (1, [.int (0 : Int32), .int (0 : Int32), .int (0 : Int32), .int (0 : Int32), .int (0 : Int32), .int (0 : Int32), .ref (u.1 (n + 1)), .ref (u.1 (n + 3)), .ref (u.1 (n + 5)), .ref (u.1 (n + 7)), .ref (u.1 (n + 9)), .ref (u.1 (n + 11)), .int (0 : Int32), .int (0 : Int32)]) ∧ u.2 (n + 3) = .inr (7, [.int (12 : Int32), .int (3 : Int32), .ref (u.1 (n + 4)), .int (0 : Int32)]) ∧ u.2 (n + 4) = .inl (G.2.1 0, 36, .inl (fun _ => 0)) ∧ u.2 (n + 5) = .inr (7, [.int (5 : Int32), .int (3 : Int32), .ref (u.1 (n + 6)), .int (0 : Int32)]) ∧ u.2 (n + 6) = .inl (G.2.1 0, 15, .inl (fun _ => 0)) ∧ u.2 (n + 7) = .inr (7, [.int (4 : Int32), .int (2 : Int32), .ref (u.1 (n + 8)), .int (0 : Int32)]) ∧ u.2 (n + 8) = .inl (G.2.1 0, 8, .inl (fun _ => 0)) ∧ u.2 (n + 9) = .inr (7, [.int (2 : Int32), .int (3 : Int32), .ref (u.1 (n + 10)), .int (0 : Int32)]) ∧ u.2 (n + 10) = .inl (G.2.1 0, 6, .inl (fun _ => 0)) ∧ u.2 (n + 11) = .inr (8, [.ref (u.1 (n + 12)), .int (0 : Int32), .ref (u.1 (n + 13)), .ref (u.1 (n + 14)), .ref (u.1 (n + 15)), .ref (u.1 (n + 16)), .int (0 : Int32), .int (0 : Int32)]) ∧ u.2 (n + 12) = .inl (G.2.1 0, 60, .inl (fun _ => 0)) ∧ u.2 (n + 13) = .inl (G.2.1 0, 21, .inl (fun _ => 0)) ∧ u.2 (n + 14) = .inl (G.2.1 0, 21, .inl (fun _ => 0)) ∧ u.2 (n + 15) = .inl (G.2.1 0, 21, .inl (fun _ => 0)) ∧ u.2 (n + 16) = .inl (G.2.1 0, 21, .inl (fun _ => 0)) ∧ ∀ k, k < n → u.2 k = w k)) sz) 16 245 (tw_A (n + 1) ad sz) := by
  refine tw_met (by decide) (Nat.le_of_ble_eq_true rfl) ?_
  intro p e s m args below meth c F hret hlk hin hargs hsz hH ls hl
  have hx := F.1.1
  have hb := F.1.2.1
  have hown := F.1.2.2.2.1
  have hts := F.1.2.2.2.2
  have hl : lv_has ls 1 [(0, .ref (ad n))] := hl
  generalize hH0 : s.heap = H at hH ⊢
  refine lv_aload_n hx hb dX1_init_0 rfl (lv_at hl 0 rfl) ?_
  refine tw_objInit F (tw_gl kw_149 rfl) (tw_gl kw_32 rfl) (tw_gl kw_33 rfl) hl.1 ⟨(Nat.le_of_ble_eq_true rfl), (Nat.le_of_ble_eq_true rfl)⟩ (Nat.le_of_ble_eq_true rfl) dX1_init_1 ?_
  refine lv_aload_n hx hb dX1_init_4 rfl (lv_at hl 0 rfl) ?_
  refine tw_new (ci := 7) (T := TX7) F hH rfl iw_X7 tyX7 tyX7_ok (tw_gl kw_150 rfl) (tw_gl kw_55 rfl) (tw_gl kw_4 rfl) kd_X7 (Nat.le_of_ble_eq_true rfl) (Nat.le_of_ble_eq_true rfl) dX1_init_5 (fun H locs ad4 w1 ha5 hw2 hne3 hH => ?_)
  refine lv_dup hx hb dX1_init_8 rfl ?_
  refine lv_iconst (v := 4) hx hb dX1_init_9 (by decide) ?_
  refine lv_iconst (v := 2) hx hb dX1_init_10 (by decide) ?_
  refine tw_calln F hH (tw_runI (r := (n + 1)) (As := [.int (4 : Int32), .int (2 : Int32)]) (rest := [.ref (ad4 (n + 1)), .ref (ad n)]) F hH (c_X7_init_v3 l G (n + 1) ad4 w1 H.size hw2) (tw_gl kw_151 rfl) km_X7_init (tw_gl kw_57 rfl) rfl rfl rfl ⟨(Nat.le_of_ble_eq_true rfl), (Nat.le_of_ble_eq_true rfl)⟩ rfl hl.1 rfl (Nat.le_of_ble_eq_true rfl) dX1_init_11 ⟨(Nat.le_of_ble_eq_true rfl), (Nat.le_of_ble_eq_true rfl)⟩) (fun ad8 w6 H locs hp7 ha9 _ hH => ?_)
  obtain ⟨-, hw11, hw12, hfr13⟩ := hp7
  have hw14 : w6 n = .inr (1, [.int (0 : Int32), .int (0 : Int32), .int (0 : Int32), .int (0 : Int32), .int (0 : Int32), .int (0 : Int32), .null, .null, .null, .null, .null, .null, .int (0 : Int32), .int (0 : Int32)]) := (hfr13 n (by omega)).trans ((hne3 n (by omega)).trans (hw_n))
  refine tw_putF (r := n) F hH kf_RX1_14 kp_X1_6 hin rfl ((ha9 n (by omega)).trans (ha5 n (by omega))) (by omega) hw14 (Nat.le_of_ble_eq_true rfl) rfl rfl dX1_init_14 (fun H locs w15 hw16 hne17 hH => ?_)
  have hw16 : w15 n = .inr (1, [.int (0 : Int32), .int (0 : Int32), .int (0 : Int32), .int (0 : Int32), .int (0 : Int32), .int (0 : Int32), .ref (ad4 (n + 1)), .null, .null, .null, .null, .null, .int (0 : Int32), .int (0 : Int32)]) := hw16
  refine lv_aload_n hx hb dX1_init_17 rfl (lv_at hl 0 rfl) ?_
  refine tw_new (ci := 7) (T := TX7) F hH rfl iw_X7 tyX7 tyX7_ok (tw_gl kw_150 rfl) (tw_gl kw_55 rfl) (tw_gl kw_4 rfl) kd_X7 (Nat.le_of_ble_eq_true rfl) (Nat.le_of_ble_eq_true rfl) dX1_init_18 (fun H locs ad21 w18 ha22 hw19 hne20 hH => ?_)
  refine lv_dup hx hb dX1_init_21 rfl ?_
  refine lv_bipush (v := 12) hx hb dX1_init_22 (by decide) ?_
  refine lv_iconst (v := 3) hx hb dX1_init_24 (by decide) ?_
  refine tw_calln F hH (tw_runI (r := (n + 3)) (As := [.int (12 : Int32), .int (3 : Int32)]) (rest := [.ref (ad21 (n + 3)), .ref (ad n)]) F hH (c_X7_init_v4 l G (n + 3) ad21 w18 H.size hw19) (tw_gl kw_151 rfl) km_X7_init (tw_gl kw_57 rfl) rfl rfl rfl ⟨(Nat.le_of_ble_eq_true rfl), (Nat.le_of_ble_eq_true rfl)⟩ rfl hl.1 rfl (Nat.le_of_ble_eq_true rfl) dX1_init_25 ⟨(Nat.le_of_ble_eq_true rfl), (Nat.le_of_ble_eq_true rfl)⟩) (fun ad25 w23 H locs hp24 ha26 _ hH => ?_)
  obtain ⟨-, hw28, hw29, hfr30⟩ := hp24
  have hw31 : w23 n = .inr (1, [.int (0 : Int32), .int (0 : Int32), .int (0 : Int32), .int (0 : Int32), .int (0 : Int32), .int (0 : Int32), .ref (ad4 (n + 1)), .null, .null, .null, .null, .null, .int (0 : Int32), .int (0 : Int32)]) := (hfr30 n (by omega)).trans ((hne20 n (by omega)).trans (hw16))
  have ha35 : ad25 n = ad n := ((((ha26 n (by omega)).trans (ha22 n (by omega))).trans (ha9 n (by omega))).trans (ha5 n (by omega)))
  refine tw_putF (r := n) F hH kf_RX1_20 kp_X1_7 hin rfl ha35 (by omega) hw31 (Nat.le_of_ble_eq_true rfl) rfl rfl dX1_init_28 (fun H locs w32 hw33 hne34 hH => ?_)
  have hw33 : w32 n = .inr (1, [.int (0 : Int32), .int (0 : Int32), .int (0 : Int32), .int (0 : Int32), .int (0 : Int32), .int (0 : Int32), .ref (ad4 (n + 1)), .ref (ad21 (n + 3)), .null, .null, .null, .null, .int (0 : Int32), .int (0 : Int32)]) := hw33
  refine lv_aload_n hx hb dX1_init_31 rfl (lv_at hl 0 rfl) ?_
  refine tw_new (ci := 7) (T := TX7) F hH rfl iw_X7 tyX7 tyX7_ok (tw_gl kw_150 rfl) (tw_gl kw_55 rfl) (tw_gl kw_4 rfl) kd_X7 (Nat.le_of_ble_eq_true rfl) (Nat.le_of_ble_eq_true rfl) dX1_init_32 (fun H locs ad39 w36 ha40 hw37 hne38 hH => ?_)
  refine lv_dup hx hb dX1_init_35 rfl ?_
  refine lv_iconst (v := 5) hx hb dX1_init_36 (by decide) ?_
  refine lv_iconst (v := 3) hx hb dX1_init_37 (by decide) ?_
  refine tw_calln F hH (tw_runI (r := (n + 5)) (As := [.int (5 : Int32), .int (3 : Int32)]) (rest := [.ref (ad39 (n + 5)), .ref (ad n)]) F hH (c_X7_init_v5 l G (n + 5) ad39 w36 H.size hw37) (tw_gl kw_151 rfl) km_X7_init (tw_gl kw_57 rfl) rfl rfl rfl ⟨(Nat.le_of_ble_eq_true rfl), (Nat.le_of_ble_eq_true rfl)⟩ rfl hl.1 rfl (Nat.le_of_ble_eq_true rfl) dX1_init_38 ⟨(Nat.le_of_ble_eq_true rfl), (Nat.le_of_ble_eq_true rfl)⟩) (fun ad43 w41 H locs hp42 ha44 _ hH => ?_)
  obtain ⟨-, hw46, hw47, hfr48⟩ := hp42
  have hw49 : w41 n = .inr (1, [.int (0 : Int32), .int (0 : Int32), .int (0 : Int32), .int (0 : Int32), .int (0 : Int32), .int (0 : Int32), .ref (ad4 (n + 1)), .ref (ad21 (n + 3)), .null, .null, .null, .null, .int (0 : Int32), .int (0 : Int32)]) := (hfr48 n (by omega)).trans ((hne38 n (by omega)).trans (hw33))
  have ha53 : ad43 n = ad n := (((ha44 n (by omega)).trans (ha40 n (by omega))).trans ha35)
  refine tw_putF (r := n) F hH kf_RX1_23 kp_X1_8 hin rfl ha53 (by omega) hw49 (Nat.le_of_ble_eq_true rfl) rfl rfl dX1_init_41 (fun H locs w50 hw51 hne52 hH => ?_)
  have hw51 : w50 n = .inr (1, [.int (0 : Int32), .int (0 : Int32), .int (0 : Int32), .int (0 : Int32), .int (0 : Int32), .int (0 : Int32), .ref (ad4 (n + 1)), .ref (ad21 (n + 3)), .ref (ad39 (n + 5)), .null, .null, .null, .int (0 : Int32), .int (0 : Int32)]) := hw51
  refine lv_aload_n hx hb dX1_init_44 rfl (lv_at hl 0 rfl) ?_
  refine tw_new (ci := 7) (T := TX7) F hH rfl iw_X7 tyX7 tyX7_ok (tw_gl kw_150 rfl) (tw_gl kw_55 rfl) (tw_gl kw_4 rfl) kd_X7 (Nat.le_of_ble_eq_true rfl) (Nat.le_of_ble_eq_true rfl) dX1_init_45 (fun H locs ad57 w54 ha58 hw55 hne56 hH => ?_)
  refine lv_dup hx hb dX1_init_48 rfl ?_
  refine lv_iconst (v := 4) hx hb dX1_init_49 (by decide) ?_
  refine lv_iconst (v := 2) hx hb dX1_init_50 (by decide) ?_
  refine tw_calln F hH (tw_runI (r := (n + 7)) (As := [.int (4 : Int32), .int (2 : Int32)]) (rest := [.ref (ad57 (n + 7)), .ref (ad n)]) F hH (c_X7_init_v3 l G (n + 7) ad57 w54 H.size hw55) (tw_gl kw_151 rfl) km_X7_init (tw_gl kw_57 rfl) rfl rfl rfl ⟨(Nat.le_of_ble_eq_true rfl), (Nat.le_of_ble_eq_true rfl)⟩ rfl hl.1 rfl (Nat.le_of_ble_eq_true rfl) dX1_init_51 ⟨(Nat.le_of_ble_eq_true rfl), (Nat.le_of_ble_eq_true rfl)⟩) (fun ad61 w59 H locs hp60 ha62 _ hH => ?_)
  obtain ⟨-, hw64, hw65, hfr66⟩ := hp60
  have hw67 : w59 n = .inr (1, [.int (0 : Int32), .int (0 : Int32), .int (0 : Int32), .int (0 : Int32), .int (0 : Int32), .int (0 : Int32), .ref (ad4 (n + 1)), .ref (ad21 (n + 3)), .ref (ad39 (n + 5)), .null, .null, .null, .int (0 : Int32), .int (0 : Int32)]) := (hfr66 n (by omega)).trans ((hne56 n (by omega)).trans (hw51))
  have ha71 : ad61 n = ad n := (((ha62 n (by omega)).trans (ha58 n (by omega))).trans ha53)
  refine tw_putF (r := n) F hH kf_RX1_26 kp_X1_9 hin rfl ha71 (by omega) hw67 (Nat.le_of_ble_eq_true rfl) rfl rfl dX1_init_54 (fun H locs w68 hw69 hne70 hH => ?_)
  have hw69 : w68 n = .inr (1, [.int (0 : Int32), .int (0 : Int32), .int (0 : Int32), .int (0 : Int32), .int (0 : Int32), .int (0 : Int32), .ref (ad4 (n + 1)), .ref (ad21 (n + 3)), .ref (ad39 (n + 5)), .ref (ad57 (n + 7)), .null, .null, .int (0 : Int32), .int (0 : Int32)]) := hw69
  refine lv_aload_n hx hb dX1_init_57 rfl (lv_at hl 0 rfl) ?_
  refine tw_new (ci := 7) (T := TX7) F hH rfl iw_X7 tyX7 tyX7_ok (tw_gl kw_150 rfl) (tw_gl kw_55 rfl) (tw_gl kw_4 rfl) kd_X7 (Nat.le_of_ble_eq_true rfl) (Nat.le_of_ble_eq_true rfl) dX1_init_58 (fun H locs ad75 w72 ha76 hw73 hne74 hH => ?_)
  refine lv_dup hx hb dX1_init_61 rfl ?_
  refine lv_iconst (v := 2) hx hb dX1_init_62 (by decide) ?_
  refine lv_iconst (v := 3) hx hb dX1_init_63 (by decide) ?_
  refine tw_calln F hH (tw_runI (r := (n + 9)) (As := [.int (2 : Int32), .int (3 : Int32)]) (rest := [.ref (ad75 (n + 9)), .ref (ad n)]) F hH (c_X7_init_v6 l G (n + 9) ad75 w72 H.size hw73) (tw_gl kw_151 rfl) km_X7_init (tw_gl kw_57 rfl) rfl rfl rfl ⟨(Nat.le_of_ble_eq_true rfl), (Nat.le_of_ble_eq_true rfl)⟩ rfl hl.1 rfl (Nat.le_of_ble_eq_true rfl) dX1_init_64 ⟨(Nat.le_of_ble_eq_true rfl), (Nat.le_of_ble_eq_true rfl)⟩) (fun ad79 w77 H locs hp78 ha80 _ hH => ?_)
  obtain ⟨-, hw82, hw83, hfr84⟩ := hp78
  have hw85 : w77 n = .inr (1, [.int (0 : Int32), .int (0 : Int32), .int (0 : Int32), .int (0 : Int32), .int (0 : Int32), .int (0 : Int32), .ref (ad4 (n + 1)), .ref (ad21 (n + 3)), .ref (ad39 (n + 5)), .ref (ad57 (n + 7)), .null, .null, .int (0 : Int32), .int (0 : Int32)]) := (hfr84 n (by omega)).trans ((hne74 n (by omega)).trans (hw69))
  have ha89 : ad79 n = ad n := (((ha80 n (by omega)).trans (ha76 n (by omega))).trans ha71)
  refine tw_putF (r := n) F hH kf_RX1_29 kp_X1_10 hin rfl ha89 (by omega) hw85 (Nat.le_of_ble_eq_true rfl) rfl rfl dX1_init_67 (fun H locs w86 hw87 hne88 hH => ?_)
  have hw87 : w86 n = .inr (1, [.int (0 : Int32), .int (0 : Int32), .int (0 : Int32), .int (0 : Int32), .int (0 : Int32), .int (0 : Int32), .ref (ad4 (n + 1)), .ref (ad21 (n + 3)), .ref (ad39 (n + 5)), .ref (ad57 (n + 7)), .ref (ad75 (n + 9)), .null, .int (0 : Int32), .int (0 : Int32)]) := hw87
  refine lv_aload_n hx hb dX1_init_70 rfl (lv_at hl 0 rfl) ?_
  refine tw_new (ci := 8) (T := TX8) F hH rfl iw_X8 tyX8 tyX8_ok (tw_gl kw_152 rfl) (tw_gl kw_153 rfl) (tw_gl kw_8 rfl) kd_X8 (Nat.le_of_ble_eq_true rfl) (Nat.le_of_ble_eq_true rfl) dX1_init_71 (fun H locs ad93 w90 ha94 hw91 hne92 hH => ?_)
  refine lv_dup hx hb dX1_init_74 rfl ?_
  refine tw_calln F hH (tw_runI (r := (n + 11)) (As := []) (rest := [.ref (ad93 (n + 11)), .ref (ad n)]) F hH (c_X8_init l G (n + 11) ad93 w90 H.size hw91) (tw_gl kw_154 rfl) km_X8_init (tw_gl kw_155 rfl) rfl rfl rfl ⟨(Nat.le_of_ble_eq_true rfl), (Nat.le_of_ble_eq_true rfl)⟩ rfl hl.1 rfl (Nat.le_of_ble_eq_true rfl) dX1_init_75 ⟨(Nat.le_of_ble_eq_true rfl), (Nat.le_of_ble_eq_true rfl)⟩) (fun ad97 w95 H locs hp96 ha98 _ hH => ?_)
  obtain ⟨-, hw100, hw101, hw102, hw103, hw104, hw105, hfr106⟩ := hp96
  have hw107 : w95 n = .inr (1, [.int (0 : Int32), .int (0 : Int32), .int (0 : Int32), .int (0 : Int32), .int (0 : Int32), .int (0 : Int32), .ref (ad4 (n + 1)), .ref (ad21 (n + 3)), .ref (ad39 (n + 5)), .ref (ad57 (n + 7)), .ref (ad75 (n + 9)), .null, .int (0 : Int32), .int (0 : Int32)]) := (hfr106 n (by omega)).trans ((hne92 n (by omega)).trans (hw87))
  have ha111 : ad97 n = ad n := (((ha98 n (by omega)).trans (ha94 n (by omega))).trans ha89)
  refine tw_put (r := n) F hH kf_RX1_35 kp_X1_11 ha111 (by omega) hw107 (Nat.le_of_ble_eq_true rfl) rfl rfl dX1_init_78 (fun H locs w108 hw109 hne110 hH => ?_)
  have hw109 : w108 n = .inr (1, [.int (0 : Int32), .int (0 : Int32), .int (0 : Int32), .int (0 : Int32), .int (0 : Int32), .int (0 : Int32), .ref (ad4 (n + 1)), .ref (ad21 (n + 3)), .ref (ad39 (n + 5)), .ref (ad57 (n + 7)), .ref (ad75 (n + 9)), .ref (ad93 (n + 11)), .int (0 : Int32), .int (0 : Int32)]) := hw109
  have hw112 : w108 (n + 1) = .inr (7, [.int (4 : Int32), .int (2 : Int32), .ref (ad8 (n + 2)), .int (0 : Int32)]) := (hne110 (n + 1) (by omega)).trans ((hfr106 (n + 1) (by omega)).trans ((hne92 (n + 1) (by omega)).trans ((hne88 (n + 1) (by omega)).trans ((hfr84 (n + 1) (by omega)).trans ((hne74 (n + 1) (by omega)).trans ((hne70 (n + 1) (by omega)).trans ((hfr66 (n + 1) (by omega)).trans ((hne56 (n + 1) (by omega)).trans ((hne52 (n + 1) (by omega)).trans ((hfr48 (n + 1) (by omega)).trans ((hne38 (n + 1) (by omega)).trans ((hne34 (n + 1) (by omega)).trans ((hfr30 (n + 1) (by omega)).trans ((hne20 (n + 1) (by omega)).trans ((hne17 (n + 1) (by omega)).trans (hw11))))))))))))))))
  have ha113 : ad97 (n + 2) = ad8 (n + 2) := ((((((((((ha98 (n + 2) (by omega)).trans (ha94 (n + 2) (by omega))).trans (ha80 (n + 2) (by omega))).trans (ha76 (n + 2) (by omega))).trans (ha62 (n + 2) (by omega))).trans (ha58 (n + 2) (by omega))).trans (ha44 (n + 2) (by omega))).trans (ha40 (n + 2) (by omega))).trans (ha26 (n + 2) (by omega))).trans (ha22 (n + 2) (by omega)))
  have hw114 : w108 (n + 1) = .inr (7, [.int (4 : Int32), .int (2 : Int32), .ref (ad97 (n + 2)), .int (0 : Int32)]) := by rw [hw112]; rw [show ad8 (n + 2) = ad97 (n + 2) from ha113.symm]
  have hw115 : w108 (n + 2) = .inl (G.2.1 0, 8, .inl (fun _ => 0)) := (hne110 (n + 2) (by omega)).trans ((hfr106 (n + 2) (by omega)).trans ((hne92 (n + 2) (by omega)).trans ((hne88 (n + 2) (by omega)).trans ((hfr84 (n + 2) (by omega)).trans ((hne74 (n + 2) (by omega)).trans ((hne70 (n + 2) (by omega)).trans ((hfr66 (n + 2) (by omega)).trans ((hne56 (n + 2) (by omega)).trans ((hne52 (n + 2) (by omega)).trans ((hfr48 (n + 2) (by omega)).trans ((hne38 (n + 2) (by omega)).trans ((hne34 (n + 2) (by omega)).trans ((hfr30 (n + 2) (by omega)).trans ((hne20 (n + 2) (by omega)).trans ((hne17 (n + 2) (by omega)).trans (hw12))))))))))))))))
  have ha116 : ad97 (n + 1) = ad4 (n + 1) := (((((((((((ha98 (n + 1) (by omega)).trans (ha94 (n + 1) (by omega))).trans (ha80 (n + 1) (by omega))).trans (ha76 (n + 1) (by omega))).trans (ha62 (n + 1) (by omega))).trans (ha58 (n + 1) (by omega))).trans (ha44 (n + 1) (by omega))).trans (ha40 (n + 1) (by omega))).trans (ha26 (n + 1) (by omega))).trans (ha22 (n + 1) (by omega))).trans (ha9 (n + 1) (by omega)))
  have ha117 : ad97 (n + 3) = ad21 (n + 3) := (((((((((ha98 (n + 3) (by omega)).trans (ha94 (n + 3) (by omega))).trans (ha80 (n + 3) (by omega))).trans (ha76 (n + 3) (by omega))).trans (ha62 (n + 3) (by omega))).trans (ha58 (n + 3) (by omega))).trans (ha44 (n + 3) (by omega))).trans (ha40 (n + 3) (by omega))).trans (ha26 (n + 3) (by omega)))
  have ha118 : ad97 (n + 5) = ad39 (n + 5) := (((((((ha98 (n + 5) (by omega)).trans (ha94 (n + 5) (by omega))).trans (ha80 (n + 5) (by omega))).trans (ha76 (n + 5) (by omega))).trans (ha62 (n + 5) (by omega))).trans (ha58 (n + 5) (by omega))).trans (ha44 (n + 5) (by omega)))
  have ha119 : ad97 (n + 7) = ad57 (n + 7) := (((((ha98 (n + 7) (by omega)).trans (ha94 (n + 7) (by omega))).trans (ha80 (n + 7) (by omega))).trans (ha76 (n + 7) (by omega))).trans (ha62 (n + 7) (by omega)))
  have ha120 : ad97 (n + 9) = ad75 (n + 9) := (((ha98 (n + 9) (by omega)).trans (ha94 (n + 9) (by omega))).trans (ha80 (n + 9) (by omega)))
  have ha121 : ad97 (n + 11) = ad93 (n + 11) := (ha98 (n + 11) (by omega))
  have hw122 : w108 n = .inr (1, [.int (0 : Int32), .int (0 : Int32), .int (0 : Int32), .int (0 : Int32), .int (0 : Int32), .int (0 : Int32), .ref (ad97 (n + 1)), .ref (ad97 (n + 3)), .ref (ad97 (n + 5)), .ref (ad97 (n + 7)), .ref (ad97 (n + 9)), .ref (ad97 (n + 11)), .int (0 : Int32), .int (0 : Int32)]) := by rw [hw109]; rw [show ad4 (n + 1) = ad97 (n + 1) from ha116.symm, show ad21 (n + 3) = ad97 (n + 3) from ha117.symm, show ad39 (n + 5) = ad97 (n + 5) from ha118.symm, show ad57 (n + 7) = ad97 (n + 7) from ha119.symm, show ad75 (n + 9) = ad97 (n + 9) from ha120.symm, show ad93 (n + 11) = ad97 (n + 11) from ha121.symm]
  have hw123 : w108 (n + 3) = .inr (7, [.int (12 : Int32), .int (3 : Int32), .ref (ad25 (n + 4)), .int (0 : Int32)]) := (hne110 (n + 3) (by omega)).trans ((hfr106 (n + 3) (by omega)).trans ((hne92 (n + 3) (by omega)).trans ((hne88 (n + 3) (by omega)).trans ((hfr84 (n + 3) (by omega)).trans ((hne74 (n + 3) (by omega)).trans ((hne70 (n + 3) (by omega)).trans ((hfr66 (n + 3) (by omega)).trans ((hne56 (n + 3) (by omega)).trans ((hne52 (n + 3) (by omega)).trans ((hfr48 (n + 3) (by omega)).trans ((hne38 (n + 3) (by omega)).trans ((hne34 (n + 3) (by omega)).trans (hw28)))))))))))))
  have ha124 : ad97 (n + 4) = ad25 (n + 4) := ((((((((ha98 (n + 4) (by omega)).trans (ha94 (n + 4) (by omega))).trans (ha80 (n + 4) (by omega))).trans (ha76 (n + 4) (by omega))).trans (ha62 (n + 4) (by omega))).trans (ha58 (n + 4) (by omega))).trans (ha44 (n + 4) (by omega))).trans (ha40 (n + 4) (by omega)))
  have hw125 : w108 (n + 3) = .inr (7, [.int (12 : Int32), .int (3 : Int32), .ref (ad97 (n + 4)), .int (0 : Int32)]) := by rw [hw123]; rw [show ad25 (n + 4) = ad97 (n + 4) from ha124.symm]
  have hw126 : w108 (n + 4) = .inl (G.2.1 0, 36, .inl (fun _ => 0)) := (hne110 (n + 4) (by omega)).trans ((hfr106 (n + 4) (by omega)).trans ((hne92 (n + 4) (by omega)).trans ((hne88 (n + 4) (by omega)).trans ((hfr84 (n + 4) (by omega)).trans ((hne74 (n + 4) (by omega)).trans ((hne70 (n + 4) (by omega)).trans ((hfr66 (n + 4) (by omega)).trans ((hne56 (n + 4) (by omega)).trans ((hne52 (n + 4) (by omega)).trans ((hfr48 (n + 4) (by omega)).trans ((hne38 (n + 4) (by omega)).trans ((hne34 (n + 4) (by omega)).trans (hw29)))))))))))))
  have hw127 : w108 (n + 5) = .inr (7, [.int (5 : Int32), .int (3 : Int32), .ref (ad43 (n + 6)), .int (0 : Int32)]) := (hne110 (n + 5) (by omega)).trans ((hfr106 (n + 5) (by omega)).trans ((hne92 (n + 5) (by omega)).trans ((hne88 (n + 5) (by omega)).trans ((hfr84 (n + 5) (by omega)).trans ((hne74 (n + 5) (by omega)).trans ((hne70 (n + 5) (by omega)).trans ((hfr66 (n + 5) (by omega)).trans ((hne56 (n + 5) (by omega)).trans ((hne52 (n + 5) (by omega)).trans (hw46))))))))))
  have ha128 : ad97 (n + 6) = ad43 (n + 6) := ((((((ha98 (n + 6) (by omega)).trans (ha94 (n + 6) (by omega))).trans (ha80 (n + 6) (by omega))).trans (ha76 (n + 6) (by omega))).trans (ha62 (n + 6) (by omega))).trans (ha58 (n + 6) (by omega)))
  have hw129 : w108 (n + 5) = .inr (7, [.int (5 : Int32), .int (3 : Int32), .ref (ad97 (n + 6)), .int (0 : Int32)]) := by rw [hw127]; rw [show ad43 (n + 6) = ad97 (n + 6) from ha128.symm]
  have hw130 : w108 (n + 6) = .inl (G.2.1 0, 15, .inl (fun _ => 0)) := (hne110 (n + 6) (by omega)).trans ((hfr106 (n + 6) (by omega)).trans ((hne92 (n + 6) (by omega)).trans ((hne88 (n + 6) (by omega)).trans ((hfr84 (n + 6) (by omega)).trans ((hne74 (n + 6) (by omega)).trans ((hne70 (n + 6) (by omega)).trans ((hfr66 (n + 6) (by omega)).trans ((hne56 (n + 6) (by omega)).trans ((hne52 (n + 6) (by omega)).trans (hw47))))))))))
  have hw131 : w108 (n + 7) = .inr (7, [.int (4 : Int32), .int (2 : Int32), .ref (ad61 (n + 8)), .int (0 : Int32)]) := (hne110 (n + 7) (by omega)).trans ((hfr106 (n + 7) (by omega)).trans ((hne92 (n + 7) (by omega)).trans ((hne88 (n + 7) (by omega)).trans ((hfr84 (n + 7) (by omega)).trans ((hne74 (n + 7) (by omega)).trans ((hne70 (n + 7) (by omega)).trans (hw64)))))))
  have ha132 : ad97 (n + 8) = ad61 (n + 8) := ((((ha98 (n + 8) (by omega)).trans (ha94 (n + 8) (by omega))).trans (ha80 (n + 8) (by omega))).trans (ha76 (n + 8) (by omega)))
  have hw133 : w108 (n + 7) = .inr (7, [.int (4 : Int32), .int (2 : Int32), .ref (ad97 (n + 8)), .int (0 : Int32)]) := by rw [hw131]; rw [show ad61 (n + 8) = ad97 (n + 8) from ha132.symm]
  have hw134 : w108 (n + 8) = .inl (G.2.1 0, 8, .inl (fun _ => 0)) := (hne110 (n + 8) (by omega)).trans ((hfr106 (n + 8) (by omega)).trans ((hne92 (n + 8) (by omega)).trans ((hne88 (n + 8) (by omega)).trans ((hfr84 (n + 8) (by omega)).trans ((hne74 (n + 8) (by omega)).trans ((hne70 (n + 8) (by omega)).trans (hw65)))))))
  have hw135 : w108 (n + 9) = .inr (7, [.int (2 : Int32), .int (3 : Int32), .ref (ad79 (n + 10)), .int (0 : Int32)]) := (hne110 (n + 9) (by omega)).trans ((hfr106 (n + 9) (by omega)).trans ((hne92 (n + 9) (by omega)).trans ((hne88 (n + 9) (by omega)).trans (hw82))))
  have ha136 : ad97 (n + 10) = ad79 (n + 10) := ((ha98 (n + 10) (by omega)).trans (ha94 (n + 10) (by omega)))
  have hw137 : w108 (n + 9) = .inr (7, [.int (2 : Int32), .int (3 : Int32), .ref (ad97 (n + 10)), .int (0 : Int32)]) := by rw [hw135]; rw [show ad79 (n + 10) = ad97 (n + 10) from ha136.symm]
  have hw138 : w108 (n + 10) = .inl (G.2.1 0, 6, .inl (fun _ => 0)) := (hne110 (n + 10) (by omega)).trans ((hfr106 (n + 10) (by omega)).trans ((hne92 (n + 10) (by omega)).trans ((hne88 (n + 10) (by omega)).trans (hw83))))
  have hw139 : w108 (n + 11) = .inr (8, [.ref (ad97 (n + 12)), .int (0 : Int32), .ref (ad97 (n + 13)), .ref (ad97 (n + 14)), .ref (ad97 (n + 15)), .ref (ad97 (n + 16)), .int (0 : Int32), .int (0 : Int32)]) := (hne110 (n + 11) (by omega)).trans (hw101)
  have hw140 : w108 (n + 12) = .inl (G.2.1 0, 60, .inl (fun _ => 0)) := (hne110 (n + 12) (by omega)).trans (hw100)
  have hw141 : w108 (n + 13) = .inl (G.2.1 0, 21, .inl (fun _ => 0)) := (hne110 (n + 13) (by omega)).trans (hw102)
  have hw142 : w108 (n + 14) = .inl (G.2.1 0, 21, .inl (fun _ => 0)) := (hne110 (n + 14) (by omega)).trans (hw103)
  have hw143 : w108 (n + 15) = .inl (G.2.1 0, 21, .inl (fun _ => 0)) := (hne110 (n + 15) (by omega)).trans (hw104)
  have hw144 : w108 (n + 16) = .inl (G.2.1 0, 21, .inl (fun _ => 0)) := (hne110 (n + 16) (by omega)).trans (hw105)
  exact tw_nret F hH (fun k hk => ((ha98 k (by omega)).trans ((ha94 k (by omega)).trans ((ha80 k (by omega)).trans ((ha76 k (by omega)).trans ((ha62 k (by omega)).trans ((ha58 k (by omega)).trans ((ha44 k (by omega)).trans ((ha40 k (by omega)).trans ((ha26 k (by omega)).trans ((ha22 k (by omega)).trans ((ha9 k (by omega)).trans (ha5 k (by omega)))))))))))))) hret hlk (Nat.le_of_ble_eq_true rfl) (Nat.le_of_ble_eq_true rfl) dX1_init_81 (⟨trivial, hw114, hw115, hw122, hw125, hw126, hw129, hw130, hw133, hw134, hw137, hw138, hw139, hw140, hw141, hw142, hw143, hw144, fun k hk => ((hne110 k (by omega)).trans ((hfr106 k (by omega)).trans ((hne92 k (by omega)).trans ((hne88 k (by omega)).trans ((hfr84 k (by omega)).trans ((hne74 k (by omega)).trans ((hne70 k (by omega)).trans ((hfr66 k (by omega)).trans ((hne56 k (by omega)).trans ((hne52 k (by omega)).trans ((hfr48 k (by omega)).trans ((hne38 k (by omega)).trans ((hne34 k (by omega)).trans ((hfr30 k (by omega)).trans ((hne20 k (by omega)).trans ((hne17 k (by omega)).trans ((hfr13 k (by omega)).trans (hne3 k (by omega)))))))))))))))))))⟩)
set_option maxHeartbeats 4000000 in
set_option maxRecDepth 100000 in
theorem c_X6_init (l : Launch) (G : tw_G) (n : Nat) (ad : Nat → Nat) (w : Nat → va_E) (sz : Nat) (hw_n : w n = .inr (6, [.int (0 : Int32), .int (0 : Int32), .int (0 : Int32), .int (0 : Int32), .int (0 : Int32), .int (0 : Int32), .int (0 : Int32), .int (0 : Int32), .int (0 : Int32), .int (0 : Int32), .int (0 : Int32), .int (0 : Int32), .int (0 : Int32), .int (0 : Int32), .int (0 : Int32), .null, .null, .null, .null, .null])) : Met l yX6_init (tw_ws yX6_init cX6_init 1 none) ({ frames := 1, cells := 5, slots := 86, locals := 20 }) (tw_Pre G (n + 1) ad w sz [.ref (ad n)]) (tw_Qn G (n + 1) 5 ad (fun u => (True ∧ u.2 (n + 1) = .inl (G.2.1 0, 4, .inl (fun _ => 0)) ∧ u.2 n = .inr (6, [.int (0 : Int32), .int (0 : Int32), .int (0 : Int32), .int (0 : Int32), .int (0 : Int32), .int (0 : Int32), .int (0 : Int32), .int (0 : Int32), .int (0 : Int32), .int (0 : Int32), .int (0 : Int32), .int (0 : Int32), .int (0 : Int32), .int (0 : Int32), .int (0 : Int32), .ref (u.1 (n + 1)), .ref (u.1 (n + 2)), .ref (u.1 (n + 3)), .ref (u.1 (n + 4)), .ref (u.1 (n + 5))]) ∧ u.2 (n + 2) = .inl (G.2.1 0, 60, .inl (fun _ => 0)) ∧ u.2 (n + 3) = .inl (G.2.1 0, 12, .inl (fun _ => 0)) ∧ u.2 (n + 4) = .inl (G.2.1 0, 5, .inl (fun _ => 0)) ∧ u.2 (n + 5) = .inl (G.2.1 0, 5, .inl (fun _ => 0)) ∧ ∀ k, k < n → u.2 k = w k)) sz) 5 86 (tw_A (n + 1) ad sz) := by
  refine tw_met (by decide) (Nat.le_of_ble_eq_true rfl) ?_
  intro p e s m args below meth c F hret hlk hin hargs hsz hH ls hl
  have hx := F.1.1
  have hb := F.1.2.1
  have hown := F.1.2.2.2.1
  have hts := F.1.2.2.2.2
  have hl : lv_has ls 1 [(0, .ref (ad n))] := hl
  generalize hH0 : s.heap = H at hH ⊢
  refine lv_aload_n hx hb dX6_init_0 rfl (lv_at hl 0 rfl) ?_
  refine tw_objInit F (tw_gl kw_261 rfl) (tw_gl kw_32 rfl) (tw_gl kw_33 rfl) hl.1 ⟨(Nat.le_of_ble_eq_true rfl), (Nat.le_of_ble_eq_true rfl)⟩ (Nat.le_of_ble_eq_true rfl) dX6_init_1 ?_
  refine lv_aload_n hx hb dX6_init_4 rfl (lv_at hl 0 rfl) ?_
  refine lv_iconst (v := 4) hx hb dX6_init_5 (by decide) ?_
  refine tw_newa (t := 0) (atype := .int) (ty := .int) (n' := 4) (a0 := (4, .inl (fun _ => 0))) F hH rfl (fun C h => by cases h) (tw_gl kw_47 rfl) rfl (fun _ => rfl) (by decide) (Nat.le_of_ble_eq_true rfl) (Nat.le_of_ble_eq_true rfl) (Nat.le_of_ble_eq_true rfl) dX6_init_6 (fun H locs ad4 w1 ha5 hw2 hne3 hH => ?_)
  have hw6 : w1 n = .inr (6, [.int (0 : Int32), .int (0 : Int32), .int (0 : Int32), .int (0 : Int32), .int (0 : Int32), .int (0 : Int32), .int (0 : Int32), .int (0 : Int32), .int (0 : Int32), .int (0 : Int32), .int (0 : Int32), .int (0 : Int32), .int (0 : Int32), .int (0 : Int32), .int (0 : Int32), .null, .null, .null, .null, .null]) := (hne3 n (by omega)).trans (hw_n)
  refine tw_putF (r := n) F hH kf_RX6_9 kp_X6_15 hin rfl (ha5 n (by omega)) (by omega) hw6 (Nat.le_of_ble_eq_true rfl) rfl rfl dX6_init_8 (fun H locs w7 hw8 hne9 hH => ?_)
  have hw8 : w7 n = .inr (6, [.int (0 : Int32), .int (0 : Int32), .int (0 : Int32), .int (0 : Int32), .int (0 : Int32), .int (0 : Int32), .int (0 : Int32), .int (0 : Int32), .int (0 : Int32), .int (0 : Int32), .int (0 : Int32), .int (0 : Int32), .int (0 : Int32), .int (0 : Int32), .int (0 : Int32), .ref (ad4 (n + 1)), .null, .null, .null, .null]) := hw8
  refine lv_aload_n hx hb dX6_init_11 rfl (lv_at hl 0 rfl) ?_
  refine lv_bipush (v := 60) hx hb dX6_init_12 (by decide) ?_
  refine tw_newa (t := 0) (atype := .int) (ty := .int) (n' := 60) (a0 := (60, .inl (fun _ => 0))) F hH rfl (fun C h => by cases h) (tw_gl kw_47 rfl) rfl (fun _ => rfl) (by decide) (Nat.le_of_ble_eq_true rfl) (Nat.le_of_ble_eq_true rfl) (Nat.le_of_ble_eq_true rfl) dX6_init_14 (fun H locs ad13 w10 ha14 hw11 hne12 hH => ?_)
  have hw15 : w10 n = .inr (6, [.int (0 : Int32), .int (0 : Int32), .int (0 : Int32), .int (0 : Int32), .int (0 : Int32), .int (0 : Int32), .int (0 : Int32), .int (0 : Int32), .int (0 : Int32), .int (0 : Int32), .int (0 : Int32), .int (0 : Int32), .int (0 : Int32), .int (0 : Int32), .int (0 : Int32), .ref (ad4 (n + 1)), .null, .null, .null, .null]) := (hne12 n (by omega)).trans (hw8)
  refine tw_putF (r := n) F hH kf_RX6_15 kp_X6_16 hin rfl ((ha14 n (by omega)).trans (ha5 n (by omega))) (by omega) hw15 (Nat.le_of_ble_eq_true rfl) rfl rfl dX6_init_16 (fun H locs w16 hw17 hne18 hH => ?_)
  have hw17 : w16 n = .inr (6, [.int (0 : Int32), .int (0 : Int32), .int (0 : Int32), .int (0 : Int32), .int (0 : Int32), .int (0 : Int32), .int (0 : Int32), .int (0 : Int32), .int (0 : Int32), .int (0 : Int32), .int (0 : Int32), .int (0 : Int32), .int (0 : Int32), .int (0 : Int32), .int (0 : Int32), .ref (ad4 (n + 1)), .ref (ad13 (n + 2)), .null, .null, .null]) := hw17
  refine lv_aload_n hx hb dX6_init_19 rfl (lv_at hl 0 rfl) ?_
  refine lv_bipush (v := 12) hx hb dX6_init_20 (by decide) ?_
  refine tw_newa (t := 0) (atype := .int) (ty := .int) (n' := 12) (a0 := (12, .inl (fun _ => 0))) F hH rfl (fun C h => by cases h) (tw_gl kw_47 rfl) rfl (fun _ => rfl) (by decide) (Nat.le_of_ble_eq_true rfl) (Nat.le_of_ble_eq_true rfl) (Nat.le_of_ble_eq_true rfl) dX6_init_22 (fun H locs ad22 w19 ha23 hw20 hne21 hH => ?_)
  have hw24 : w19 n = .inr (6, [.int (0 : Int32), .int (0 : Int32), .int (0 : Int32), .int (0 : Int32), .int (0 : Int32), .int (0 : Int32), .int (0 : Int32), .int (0 : Int32), .int (0 : Int32), .int (0 : Int32), .int (0 : Int32), .int (0 : Int32), .int (0 : Int32), .int (0 : Int32), .int (0 : Int32), .ref (ad4 (n + 1)), .ref (ad13 (n + 2)), .null, .null, .null]) := (hne21 n (by omega)).trans (hw17)
  refine tw_putF (r := n) F hH kf_RX6_18 kp_X6_17 hin rfl (((ha23 n (by omega)).trans (ha14 n (by omega))).trans (ha5 n (by omega))) (by omega) hw24 (Nat.le_of_ble_eq_true rfl) rfl rfl dX6_init_24 (fun H locs w25 hw26 hne27 hH => ?_)
  have hw26 : w25 n = .inr (6, [.int (0 : Int32), .int (0 : Int32), .int (0 : Int32), .int (0 : Int32), .int (0 : Int32), .int (0 : Int32), .int (0 : Int32), .int (0 : Int32), .int (0 : Int32), .int (0 : Int32), .int (0 : Int32), .int (0 : Int32), .int (0 : Int32), .int (0 : Int32), .int (0 : Int32), .ref (ad4 (n + 1)), .ref (ad13 (n + 2)), .ref (ad22 (n + 3)), .null, .null]) := hw26
  refine lv_aload_n hx hb dX6_init_27 rfl (lv_at hl 0 rfl) ?_
  refine lv_iconst (v := 5) hx hb dX6_init_28 (by decide) ?_
  refine tw_newa (t := 0) (atype := .int) (ty := .int) (n' := 5) (a0 := (5, .inl (fun _ => 0))) F hH rfl (fun C h => by cases h) (tw_gl kw_47 rfl) rfl (fun _ => rfl) (by decide) (Nat.le_of_ble_eq_true rfl) (Nat.le_of_ble_eq_true rfl) (Nat.le_of_ble_eq_true rfl) dX6_init_29 (fun H locs ad31 w28 ha32 hw29 hne30 hH => ?_)
  have hw33 : w28 n = .inr (6, [.int (0 : Int32), .int (0 : Int32), .int (0 : Int32), .int (0 : Int32), .int (0 : Int32), .int (0 : Int32), .int (0 : Int32), .int (0 : Int32), .int (0 : Int32), .int (0 : Int32), .int (0 : Int32), .int (0 : Int32), .int (0 : Int32), .int (0 : Int32), .int (0 : Int32), .ref (ad4 (n + 1)), .ref (ad13 (n + 2)), .ref (ad22 (n + 3)), .null, .null]) := (hne30 n (by omega)).trans (hw26)
  have ha37 : ad31 n = ad n := ((((ha32 n (by omega)).trans (ha23 n (by omega))).trans (ha14 n (by omega))).trans (ha5 n (by omega)))
  refine tw_putF (r := n) F hH kf_RX6_21 kp_X6_18 hin rfl ha37 (by omega) hw33 (Nat.le_of_ble_eq_true rfl) rfl rfl dX6_init_31 (fun H locs w34 hw35 hne36 hH => ?_)
  have hw35 : w34 n = .inr (6, [.int (0 : Int32), .int (0 : Int32), .int (0 : Int32), .int (0 : Int32), .int (0 : Int32), .int (0 : Int32), .int (0 : Int32), .int (0 : Int32), .int (0 : Int32), .int (0 : Int32), .int (0 : Int32), .int (0 : Int32), .int (0 : Int32), .int (0 : Int32), .int (0 : Int32), .ref (ad4 (n + 1)), .ref (ad13 (n + 2)), .ref (ad22 (n + 3)), .ref (ad31 (n + 4)), .null]) := hw35
  refine lv_aload_n hx hb dX6_init_34 rfl (lv_at hl 0 rfl) ?_
  refine lv_iconst (v := 5) hx hb dX6_init_35 (by decide) ?_
  refine tw_newa (t := 0) (atype := .int) (ty := .int) (n' := 5) (a0 := (5, .inl (fun _ => 0))) F hH rfl (fun C h => by cases h) (tw_gl kw_47 rfl) rfl (fun _ => rfl) (by decide) (Nat.le_of_ble_eq_true rfl) (Nat.le_of_ble_eq_true rfl) (Nat.le_of_ble_eq_true rfl) dX6_init_36 (fun H locs ad41 w38 ha42 hw39 hne40 hH => ?_)
  have hw43 : w38 n = .inr (6, [.int (0 : Int32), .int (0 : Int32), .int (0 : Int32), .int (0 : Int32), .int (0 : Int32), .int (0 : Int32), .int (0 : Int32), .int (0 : Int32), .int (0 : Int32), .int (0 : Int32), .int (0 : Int32), .int (0 : Int32), .int (0 : Int32), .int (0 : Int32), .int (0 : Int32), .ref (ad4 (n + 1)), .ref (ad13 (n + 2)), .ref (ad22 (n + 3)), .ref (ad31 (n + 4)), .null]) := (hne40 n (by omega)).trans (hw35)
  have ha47 : ad41 n = ad n := ((ha42 n (by omega)).trans ha37)
  refine tw_putF (r := n) F hH kf_RX6_24 kp_X6_19 hin rfl ha47 (by omega) hw43 (Nat.le_of_ble_eq_true rfl) rfl rfl dX6_init_38 (fun H locs w44 hw45 hne46 hH => ?_)
  have hw45 : w44 n = .inr (6, [.int (0 : Int32), .int (0 : Int32), .int (0 : Int32), .int (0 : Int32), .int (0 : Int32), .int (0 : Int32), .int (0 : Int32), .int (0 : Int32), .int (0 : Int32), .int (0 : Int32), .int (0 : Int32), .int (0 : Int32), .int (0 : Int32), .int (0 : Int32), .int (0 : Int32), .ref (ad4 (n + 1)), .ref (ad13 (n + 2)), .ref (ad22 (n + 3)), .ref (ad31 (n + 4)), .ref (ad41 (n + 5))]) := hw45
  have hw48 : w44 (n + 1) = .inl (G.2.1 0, 4, .inl (fun _ => 0)) := (hne46 (n + 1) (by omega)).trans ((hne40 (n + 1) (by omega)).trans ((hne36 (n + 1) (by omega)).trans ((hne30 (n + 1) (by omega)).trans ((hne27 (n + 1) (by omega)).trans ((hne21 (n + 1) (by omega)).trans ((hne18 (n + 1) (by omega)).trans ((hne12 (n + 1) (by omega)).trans ((hne9 (n + 1) (by omega)).trans (hw2)))))))))
  have ha49 : ad41 (n + 1) = ad4 (n + 1) := ((((ha42 (n + 1) (by omega)).trans (ha32 (n + 1) (by omega))).trans (ha23 (n + 1) (by omega))).trans (ha14 (n + 1) (by omega)))
  have ha50 : ad41 (n + 2) = ad13 (n + 2) := (((ha42 (n + 2) (by omega)).trans (ha32 (n + 2) (by omega))).trans (ha23 (n + 2) (by omega)))
  have ha51 : ad41 (n + 3) = ad22 (n + 3) := ((ha42 (n + 3) (by omega)).trans (ha32 (n + 3) (by omega)))
  have ha52 : ad41 (n + 4) = ad31 (n + 4) := (ha42 (n + 4) (by omega))
  have hw53 : w44 n = .inr (6, [.int (0 : Int32), .int (0 : Int32), .int (0 : Int32), .int (0 : Int32), .int (0 : Int32), .int (0 : Int32), .int (0 : Int32), .int (0 : Int32), .int (0 : Int32), .int (0 : Int32), .int (0 : Int32), .int (0 : Int32), .int (0 : Int32), .int (0 : Int32), .int (0 : Int32), .ref (ad41 (n + 1)), .ref (ad41 (n + 2)), .ref (ad41 (n + 3)), .ref (ad41 (n + 4)), .ref (ad41 (n + 5))]) := by rw [hw45]; rw [show ad4 (n + 1) = ad41 (n + 1) from ha49.symm, show ad13 (n + 2) = ad41 (n + 2) from ha50.symm, show ad22 (n + 3) = ad41 (n + 3) from ha51.symm, show ad31 (n + 4) = ad41 (n + 4) from ha52.symm]
  have hw54 : w44 (n + 2) = .inl (G.2.1 0, 60, .inl (fun _ => 0)) := (hne46 (n + 2) (by omega)).trans ((hne40 (n + 2) (by omega)).trans ((hne36 (n + 2) (by omega)).trans ((hne30 (n + 2) (by omega)).trans ((hne27 (n + 2) (by omega)).trans ((hne21 (n + 2) (by omega)).trans ((hne18 (n + 2) (by omega)).trans (hw11)))))))
  have hw55 : w44 (n + 3) = .inl (G.2.1 0, 12, .inl (fun _ => 0)) := (hne46 (n + 3) (by omega)).trans ((hne40 (n + 3) (by omega)).trans ((hne36 (n + 3) (by omega)).trans ((hne30 (n + 3) (by omega)).trans ((hne27 (n + 3) (by omega)).trans (hw20)))))
  have hw56 : w44 (n + 4) = .inl (G.2.1 0, 5, .inl (fun _ => 0)) := (hne46 (n + 4) (by omega)).trans ((hne40 (n + 4) (by omega)).trans ((hne36 (n + 4) (by omega)).trans (hw29)))
  have hw57 : w44 (n + 5) = .inl (G.2.1 0, 5, .inl (fun _ => 0)) := (hne46 (n + 5) (by omega)).trans (hw39)
  exact tw_nret F hH (fun k hk => ((ha42 k (by omega)).trans ((ha32 k (by omega)).trans ((ha23 k (by omega)).trans ((ha14 k (by omega)).trans (ha5 k (by omega))))))) hret hlk (Nat.le_of_ble_eq_true rfl) (Nat.le_of_ble_eq_true rfl) dX6_init_41 (⟨trivial, hw48, hw53, hw54, hw55, hw56, hw57, fun k hk => ((hne46 k (by omega)).trans ((hne40 k (by omega)).trans ((hne36 k (by omega)).trans ((hne30 k (by omega)).trans ((hne27 k (by omega)).trans ((hne21 k (by omega)).trans ((hne18 k (by omega)).trans ((hne12 k (by omega)).trans ((hne9 k (by omega)).trans (hne3 k (by omega)))))))))))⟩)
set_option maxHeartbeats 4000000 in
set_option maxRecDepth 100000 in
theorem c_X2_init (l : Launch) (G : tw_G) (ad : Nat → Nat) (w : Nat → va_E) (sz : Nat) (hw_14 : w 14 = .inr (2, [.null, .null, .null, .null, .null, .int (0 : Int32), .int (0 : Int32), .int (0 : Int32)])) : Met l yX2_init (tw_ws yX2_init cX2_init 4 none) ({ frames := 3, cells := 141, slots := 2206, locals := 63 }) (tw_Pre G 15 ad w sz [.ref (ad 14), .ref (ad 4), .ref (ad 1)]) (tw_Qn G 15 141 ad (fun u => (True ∧ u.2 14 = .inr (2, [.ref (u.1 4), .ref (u.1 1), .ref (u.1 15), .ref (u.1 16), .ref (u.1 17), .int (0 : Int32), .int (0 : Int32), .int (0 : Int32)]) ∧ u.2 15 = .inl (G.2.1 2, 6, .inr (.inr (.inr (.inr (va_up (va_up (va_up (va_up (va_up (va_up (fun _ => none) 0 (some (u.1 18))) 1 (some (u.1 41))) 2 (some (u.1 64))) 3 (some (u.1 87))) 4 (some (u.1 110))) 5 (some (u.1 133))))))) ∧ u.2 17 = .inl (G.2.1 0, 4, .inl (fun _ => 0)) ∧ u.2 18 = .inr (1, [.int (0 : Int32), .int (0 : Int32), .int (0 : Int32), .int (0 : Int32), .int (0 : Int32), .int (0 : Int32), .ref (u.1 19), .ref (u.1 21), .ref (u.1 23), .ref (u.1 25), .ref (u.1 27), .ref (u.1 29), .int (0 : Int32), .int (0 : Int32)]) ∧ u.2 19 = .inr (7, [.int (4 : Int32), .int (2 : Int32), .ref (u.1 20), .int (0 : Int32)]) ∧ u.2 21 = .inr (7, [.int (12 : Int32), .int (3 : Int32), .ref (u.1 22), .int (0 : Int32)]) ∧ u.2 23 = .inr (7, [.int (5 : Int32), .int (3 : Int32), .ref (u.1 24), .int (0 : Int32)]) ∧ u.2 25 = .inr (7, [.int (4 : Int32), .int (2 : Int32), .ref (u.1 26), .int (0 : Int32)]) ∧ ∀ k, k < 14 → u.2 k = w k)) sz) 141 2206 (tw_A 15 ad sz) := by
  refine tw_met (by decide) (Nat.le_of_ble_eq_true rfl) ?_
  intro p e s m args below meth c F hret hlk hin hargs hsz hH ls hl
  have hx := F.1.1
  have hb := F.1.2.1
  have hown := F.1.2.2.2.1
  have hts := F.1.2.2.2.2
  have hl : lv_has ls 4 [(0, .ref (ad 14)), (1, .ref (ad 4)), (2, .ref (ad 1))] := hl
  generalize hH0 : s.heap = H at hH ⊢
  refine lv_aload_n hx hb dX2_init_0 rfl (lv_at hl 0 rfl) ?_
  refine tw_objInit F (tw_gl kw_140 rfl) (tw_gl kw_32 rfl) (tw_gl kw_33 rfl) hl.1 ⟨(Nat.le_of_ble_eq_true rfl), (Nat.le_of_ble_eq_true rfl)⟩ (Nat.le_of_ble_eq_true rfl) dX2_init_1 ?_
  refine lv_aload_n hx hb dX2_init_4 rfl (lv_at hl 0 rfl) ?_
  refine lv_aload_n hx hb dX2_init_5 rfl (lv_at hl 1 rfl) ?_
  refine tw_putF (r := 14) F hH kf_RX2_9 kp_X2_0 hin rfl rfl (by decide) hw_14 (Nat.le_of_ble_eq_true rfl) rfl rfl dX2_init_6 (fun H locs w1 hw2 hne3 hH => ?_)
  have hw2 : w1 14 = .inr (2, [.ref (ad 4), .null, .null, .null, .null, .int (0 : Int32), .int (0 : Int32), .int (0 : Int32)]) := hw2
  refine lv_aload_n hx hb dX2_init_9 rfl (lv_at hl 0 rfl) ?_
  refine lv_aload_n hx hb dX2_init_10 rfl (lv_at hl 2 rfl) ?_
  refine tw_putF (r := 14) F hH kf_RX2_15 kp_X2_1 hin rfl rfl (by decide) hw2 (Nat.le_of_ble_eq_true rfl) rfl rfl dX2_init_11 (fun H locs w4 hw5 hne6 hH => ?_)
  have hw5 : w4 14 = .inr (2, [.ref (ad 4), .ref (ad 1), .null, .null, .null, .int (0 : Int32), .int (0 : Int32), .int (0 : Int32)]) := hw5
  refine lv_aload_n hx hb dX2_init_14 rfl (lv_at hl 0 rfl) ?_
  refine lv_bipush (v := 6) hx hb dX2_init_15 (by decide) ?_
  refine tw_newq (t := 2) (n' := 6) F hH rfl (tw_gl kw_141 rfl) F.2.1.2.2.1.1 (by decide) (Nat.le_of_ble_eq_true rfl) (Nat.le_of_ble_eq_true rfl) (Nat.le_of_ble_eq_true rfl) dX2_init_17 (fun H locs ad10 w7 ha11 hw8 hne9 hH => ?_)
  have hw12 : w7 14 = .inr (2, [.ref (ad 4), .ref (ad 1), .null, .null, .null, .int (0 : Int32), .int (0 : Int32), .int (0 : Int32)]) := (hne9 14 (by decide)).trans (hw5)
  refine tw_putF (r := 14) F hH kf_RX2_21 kp_X2_2 hin rfl (ha11 14 (by decide)) (by decide) hw12 (Nat.le_of_ble_eq_true rfl) rfl rfl dX2_init_20 (fun H locs w13 hw14 hne15 hH => ?_)
  have hw14 : w13 14 = .inr (2, [.ref (ad 4), .ref (ad 1), .ref (ad10 15), .null, .null, .int (0 : Int32), .int (0 : Int32), .int (0 : Int32)]) := hw14
  refine lv_aload_n hx hb dX2_init_23 rfl (lv_at hl 0 rfl) ?_
  refine lv_bipush (v := 6) hx hb dX2_init_24 (by decide) ?_
  refine tw_newq (t := 3) (n' := 6) F hH rfl (tw_gl kw_143 rfl) F.2.1.2.2.1.2.1 (by decide) (Nat.le_of_ble_eq_true rfl) (Nat.le_of_ble_eq_true rfl) (Nat.le_of_ble_eq_true rfl) dX2_init_26 (fun H locs ad19 w16 ha20 hw17 hne18 hH => ?_)
  have hw21 : w16 14 = .inr (2, [.ref (ad 4), .ref (ad 1), .ref (ad10 15), .null, .null, .int (0 : Int32), .int (0 : Int32), .int (0 : Int32)]) := (hne18 14 (by decide)).trans (hw14)
  refine tw_putF (r := 14) F hH kf_RX2_27 kp_X2_3 hin rfl ((ha20 14 (by decide)).trans (ha11 14 (by decide))) (by decide) hw21 (Nat.le_of_ble_eq_true rfl) rfl rfl dX2_init_29 (fun H locs w22 hw23 hne24 hH => ?_)
  have hw23 : w22 14 = .inr (2, [.ref (ad 4), .ref (ad 1), .ref (ad10 15), .ref (ad19 16), .null, .int (0 : Int32), .int (0 : Int32), .int (0 : Int32)]) := hw23
  refine lv_aload_n hx hb dX2_init_32 rfl (lv_at hl 0 rfl) ?_
  refine lv_iconst (v := 4) hx hb dX2_init_33 (by decide) ?_
  refine tw_newa (t := 0) (atype := .int) (ty := .int) (n' := 4) (a0 := (4, .inl (fun _ => 0))) F hH rfl (fun C h => by cases h) (tw_gl kw_47 rfl) rfl (fun _ => rfl) (by decide) (Nat.le_of_ble_eq_true rfl) (Nat.le_of_ble_eq_true rfl) (Nat.le_of_ble_eq_true rfl) dX2_init_34 (fun H locs ad28 w25 ha29 hw26 hne27 hH => ?_)
  have hw30 : w25 14 = .inr (2, [.ref (ad 4), .ref (ad 1), .ref (ad10 15), .ref (ad19 16), .null, .int (0 : Int32), .int (0 : Int32), .int (0 : Int32)]) := (hne27 14 (by decide)).trans (hw23)
  refine tw_putF (r := 14) F hH kf_RX2_31 kp_X2_4 hin rfl (((ha29 14 (by decide)).trans (ha20 14 (by decide))).trans (ha11 14 (by decide))) (by decide) hw30 (Nat.le_of_ble_eq_true rfl) rfl rfl dX2_init_36 (fun H locs w31 hw32 hne33 hH => ?_)
  have hw32 : w31 14 = .inr (2, [.ref (ad 4), .ref (ad 1), .ref (ad10 15), .ref (ad19 16), .ref (ad28 17), .int (0 : Int32), .int (0 : Int32), .int (0 : Int32)]) := hw32
  refine lv_iconst (v := 0) hx hb dX2_init_39 (by decide) ?_
  refine lv_istore_n (lv' := [(3, .int (0 : Int32)), (0, .ref (ad 14)), (1, .ref (ad 4)), (2, .ref (ad 1))]) hx hb dX2_init_40 rfl hl (by decide) rfl (fun ls hl => ?_)
  refine lv_iload_n hx hb dX2_init_41 rfl (lv_at hl 0 rfl) ?_
  refine lv_bipush (v := 6) hx hb dX2_init_42 (by decide) ?_
  refine lv_icmp_ge (tgt := 79) hx hb dX2_init_44 (by decide) (fun c => absurd c (by decide)) (fun _ => ?_)
  refine lv_aload_n hx hb dX2_init_47 rfl (lv_at hl 1 rfl) ?_
  refine tw_get (r := 14) F hH kf_RX2_21 (((ha29 14 (by decide)).trans (ha20 14 (by decide))).trans (ha11 14 (by decide))) (by decide) hw32 rfl dX2_init_48 ?_
  refine lv_iload_n hx hb dX2_init_51 rfl (lv_at hl 0 rfl) ?_
  refine tw_new (ci := 1) (T := TX1) F hH rfl iw_X1 tyX1 tyX1_ok (tw_gl kw_141 rfl) (tw_gl kw_145 rfl) (tw_gl kw_7 rfl) kd_X1 (Nat.le_of_ble_eq_true rfl) (Nat.le_of_ble_eq_true rfl) dX2_init_52 (fun H locs ad38 w35 ha39 hw36 hne37 hH => ?_)
  refine lv_dup hx hb dX2_init_55 rfl ?_
  refine tw_calln F hH (tw_runI (r := 18) (As := []) (rest := [.ref (ad38 18), .int (0 : Int32), .ref (ad10 15)]) F hH (c_X1_init l G 18 ad38 w35 H.size hw36) (tw_gl kw_146 rfl) km_X1_init (tw_gl kw_147 rfl) rfl rfl rfl ⟨(Nat.le_of_ble_eq_true rfl), (Nat.le_of_ble_eq_true rfl)⟩ rfl hl.1 rfl (Nat.le_of_ble_eq_true rfl) dX2_init_56 ⟨(Nat.le_of_ble_eq_true rfl), (Nat.le_of_ble_eq_true rfl)⟩) (fun ad42 w40 H locs hp41 ha43 _ hH => ?_)
  obtain ⟨-, hw45, hw46, hw47, hw48, hw49, hw50, hw51, hw52, hw53, hw54, hw55, hw56, hw57, hw58, hw59, hw60, hw61, hfr62⟩ := hp41
  have hw63 : w40 15 = .inl (G.2.1 2, 6, .inr (.inr (.inr (.inr (fun _ => none))))) := (hfr62 15 (by omega)).trans ((hne37 15 (by decide)).trans ((hne33 15 (by decide)).trans ((hne27 15 (by decide)).trans ((hne24 15 (by decide)).trans ((hne18 15 (by decide)).trans ((hne15 15 (by decide)).trans (hw8)))))))
  have ha67 : ad42 15 = ad10 15 := ((((ha43 15 (by decide)).trans (ha39 15 (by decide))).trans (ha29 15 (by decide))).trans (ha20 15 (by decide)))
  have ha68 : ad42 18 = ad38 18 := (ha43 18 (by decide))
  refine tw_aast (r := 15) (t := 2) (j := 0) (r2 := 18) F hH rfl ha67 (by decide) hw63 rfl ha68 (by decide) hw47 (by decide) (by decide) dX2_init_59 (fun H locs w64 hw65 hne66 hH => ?_)
  refine lv_aload_n hx hb dX2_init_60 rfl (lv_at hl 1 rfl) ?_
  have hw69 : w64 14 = .inr (2, [.ref (ad 4), .ref (ad 1), .ref (ad10 15), .ref (ad19 16), .ref (ad28 17), .int (0 : Int32), .int (0 : Int32), .int (0 : Int32)]) := (hne66 14 (by decide)).trans ((hfr62 14 (by omega)).trans ((hne37 14 (by decide)).trans (hw32)))
  have ha70 : ad42 14 = ad 14 := (((((ha43 14 (by decide)).trans (ha39 14 (by decide))).trans (ha29 14 (by decide))).trans (ha20 14 (by decide))).trans (ha11 14 (by decide)))
  refine tw_get (r := 14) F hH kf_RX2_27 ha70 (by decide) hw69 rfl dX2_init_61 ?_
  refine lv_iload_n hx hb dX2_init_64 rfl (lv_at hl 0 rfl) ?_
  refine tw_new (ci := 6) (T := TX6) F hH rfl iw_X6 tyX6 tyX6_ok (tw_gl kw_143 rfl) (tw_gl kw_257 rfl) (tw_gl kw_9 rfl) kd_X6 (Nat.le_of_ble_eq_true rfl) (Nat.le_of_ble_eq_true rfl) dX2_init_65 (fun H locs ad74 w71 ha75 hw72 hne73 hH => ?_)
  refine lv_dup hx hb dX2_init_68 rfl ?_
  refine tw_calln F hH (tw_runI (r := 35) (As := []) (rest := [.ref (ad74 35), .int (0 : Int32), .ref (ad19 16)]) F hH (c_X6_init l G 35 ad74 w71 H.size hw72) (tw_gl kw_258 rfl) km_X6_init (tw_gl kw_259 rfl) rfl rfl rfl ⟨(Nat.le_of_ble_eq_true rfl), (Nat.le_of_ble_eq_true rfl)⟩ rfl hl.1 rfl (Nat.le_of_ble_eq_true rfl) dX2_init_69 ⟨(Nat.le_of_ble_eq_true rfl), (Nat.le_of_ble_eq_true rfl)⟩) (fun ad78 w76 H locs hp77 ha79 _ hH => ?_)
  obtain ⟨-, hw81, hw82, hw83, hw84, hw85, hw86, hfr87⟩ := hp77
  have hw88 : w76 16 = .inl (G.2.1 3, 6, .inr (.inr (.inr (.inr (fun _ => none))))) := (hfr87 16 (by omega)).trans ((hne73 16 (by decide)).trans ((hne66 16 (by decide)).trans ((hfr62 16 (by omega)).trans ((hne37 16 (by decide)).trans ((hne33 16 (by decide)).trans ((hne27 16 (by decide)).trans ((hne24 16 (by decide)).trans (hw17))))))))
  have ha92 : ad78 16 = ad19 16 := (((((ha79 16 (by decide)).trans (ha75 16 (by decide))).trans (ha43 16 (by decide))).trans (ha39 16 (by decide))).trans (ha29 16 (by decide)))
  have ha93 : ad78 35 = ad74 35 := (ha79 35 (by decide))
  refine tw_aast (r := 16) (t := 3) (j := 0) (r2 := 35) F hH rfl ha92 (by decide) hw88 rfl ha93 (by decide) hw82 (by decide) (by decide) dX2_init_72 (fun H locs w89 hw90 hne91 hH => ?_)
  refine lv_iinc (v := (1 : Int32)) (lv' := [(3, .int (1 : Int32)), (0, .ref (ad 14)), (1, .ref (ad 4)), (2, .ref (ad 1))]) hx hb dX2_init_73 hl (k := 0) rfl (by decide) (by decide) rfl (fun ls hl => ?_)
  refine lv_goto (tgt := 41) hx hb dX2_init_76 (by decide) ?_
  refine lv_iload_n hx hb dX2_init_41 rfl (lv_at hl 0 rfl) ?_
  refine lv_bipush (v := 6) hx hb dX2_init_42 (by decide) ?_
  refine lv_icmp_ge (tgt := 79) hx hb dX2_init_44 (by decide) (fun c => absurd c (by decide)) (fun _ => ?_)
  refine lv_aload_n hx hb dX2_init_47 rfl (lv_at hl 1 rfl) ?_
  have hw95 : w89 14 = .inr (2, [.ref (ad 4), .ref (ad 1), .ref (ad10 15), .ref (ad19 16), .ref (ad28 17), .int (0 : Int32), .int (0 : Int32), .int (0 : Int32)]) := (hne91 14 (by decide)).trans ((hfr87 14 (by omega)).trans ((hne73 14 (by decide)).trans (hw69)))
  have ha96 : ad78 14 = ad 14 := (((ha79 14 (by decide)).trans (ha75 14 (by decide))).trans ha70)
  refine tw_get (r := 14) F hH kf_RX2_21 ha96 (by decide) hw95 rfl dX2_init_48 ?_
  refine lv_iload_n hx hb dX2_init_51 rfl (lv_at hl 0 rfl) ?_
  refine tw_new (ci := 1) (T := TX1) F hH rfl iw_X1 tyX1 tyX1_ok (tw_gl kw_141 rfl) (tw_gl kw_145 rfl) (tw_gl kw_7 rfl) kd_X1 (Nat.le_of_ble_eq_true rfl) (Nat.le_of_ble_eq_true rfl) dX2_init_52 (fun H locs ad100 w97 ha101 hw98 hne99 hH => ?_)
  refine lv_dup hx hb dX2_init_55 rfl ?_
  refine tw_calln F hH (tw_runI (r := 41) (As := []) (rest := [.ref (ad100 41), .int (1 : Int32), .ref (ad10 15)]) F hH (c_X1_init l G 41 ad100 w97 H.size hw98) (tw_gl kw_146 rfl) km_X1_init (tw_gl kw_147 rfl) rfl rfl rfl ⟨(Nat.le_of_ble_eq_true rfl), (Nat.le_of_ble_eq_true rfl)⟩ rfl hl.1 rfl (Nat.le_of_ble_eq_true rfl) dX2_init_56 ⟨(Nat.le_of_ble_eq_true rfl), (Nat.le_of_ble_eq_true rfl)⟩) (fun ad104 w102 H locs hp103 ha105 _ hH => ?_)
  obtain ⟨-, hw107, hw108, hw109, hw110, hw111, hw112, hw113, hw114, hw115, hw116, hw117, hw118, hw119, hw120, hw121, hw122, hw123, hfr124⟩ := hp103
  have hw125 : w102 15 = .inl (G.2.1 2, 6, .inr (.inr (.inr (.inr (va_up (fun _ => none) 0 (some (ad38 18))))))) := (hfr124 15 (by omega)).trans ((hne99 15 (by decide)).trans ((hne91 15 (by decide)).trans ((hfr87 15 (by omega)).trans ((hne73 15 (by decide)).trans (hw65)))))
  have ha129 : ad104 15 = ad10 15 := (((((ha105 15 (by decide)).trans (ha101 15 (by decide))).trans (ha79 15 (by decide))).trans (ha75 15 (by decide))).trans ha67)
  have ha130 : ad104 41 = ad100 41 := (ha105 41 (by decide))
  refine tw_aast (r := 15) (t := 2) (j := 1) (r2 := 41) F hH rfl ha129 (by decide) hw125 rfl ha130 (by decide) hw109 (by decide) (by decide) dX2_init_59 (fun H locs w126 hw127 hne128 hH => ?_)
  refine lv_aload_n hx hb dX2_init_60 rfl (lv_at hl 1 rfl) ?_
  have hw131 : w126 14 = .inr (2, [.ref (ad 4), .ref (ad 1), .ref (ad10 15), .ref (ad19 16), .ref (ad28 17), .int (0 : Int32), .int (0 : Int32), .int (0 : Int32)]) := (hne128 14 (by decide)).trans ((hfr124 14 (by omega)).trans ((hne99 14 (by decide)).trans (hw95)))
  have ha132 : ad104 14 = ad 14 := (((ha105 14 (by decide)).trans (ha101 14 (by decide))).trans ha96)
  refine tw_get (r := 14) F hH kf_RX2_27 ha132 (by decide) hw131 rfl dX2_init_61 ?_
  refine lv_iload_n hx hb dX2_init_64 rfl (lv_at hl 0 rfl) ?_
  refine tw_new (ci := 6) (T := TX6) F hH rfl iw_X6 tyX6 tyX6_ok (tw_gl kw_143 rfl) (tw_gl kw_257 rfl) (tw_gl kw_9 rfl) kd_X6 (Nat.le_of_ble_eq_true rfl) (Nat.le_of_ble_eq_true rfl) dX2_init_65 (fun H locs ad136 w133 ha137 hw134 hne135 hH => ?_)
  refine lv_dup hx hb dX2_init_68 rfl ?_
  refine tw_calln F hH (tw_runI (r := 58) (As := []) (rest := [.ref (ad136 58), .int (1 : Int32), .ref (ad19 16)]) F hH (c_X6_init l G 58 ad136 w133 H.size hw134) (tw_gl kw_258 rfl) km_X6_init (tw_gl kw_259 rfl) rfl rfl rfl ⟨(Nat.le_of_ble_eq_true rfl), (Nat.le_of_ble_eq_true rfl)⟩ rfl hl.1 rfl (Nat.le_of_ble_eq_true rfl) dX2_init_69 ⟨(Nat.le_of_ble_eq_true rfl), (Nat.le_of_ble_eq_true rfl)⟩) (fun ad140 w138 H locs hp139 ha141 _ hH => ?_)
  obtain ⟨-, hw143, hw144, hw145, hw146, hw147, hw148, hfr149⟩ := hp139
  have hw150 : w138 16 = .inl (G.2.1 3, 6, .inr (.inr (.inr (.inr (va_up (fun _ => none) 0 (some (ad74 35))))))) := (hfr149 16 (by omega)).trans ((hne135 16 (by decide)).trans ((hne128 16 (by decide)).trans ((hfr124 16 (by omega)).trans ((hne99 16 (by decide)).trans (hw90)))))
  have ha154 : ad140 16 = ad19 16 := (((((ha141 16 (by decide)).trans (ha137 16 (by decide))).trans (ha105 16 (by decide))).trans (ha101 16 (by decide))).trans ha92)
  have ha155 : ad140 58 = ad136 58 := (ha141 58 (by decide))
  refine tw_aast (r := 16) (t := 3) (j := 1) (r2 := 58) F hH rfl ha154 (by decide) hw150 rfl ha155 (by decide) hw144 (by decide) (by decide) dX2_init_72 (fun H locs w151 hw152 hne153 hH => ?_)
  refine lv_iinc (v := (2 : Int32)) (lv' := [(3, .int (2 : Int32)), (0, .ref (ad 14)), (1, .ref (ad 4)), (2, .ref (ad 1))]) hx hb dX2_init_73 hl (k := 0) rfl (by decide) (by decide) rfl (fun ls hl => ?_)
  refine lv_goto (tgt := 41) hx hb dX2_init_76 (by decide) ?_
  refine lv_iload_n hx hb dX2_init_41 rfl (lv_at hl 0 rfl) ?_
  refine lv_bipush (v := 6) hx hb dX2_init_42 (by decide) ?_
  refine lv_icmp_ge (tgt := 79) hx hb dX2_init_44 (by decide) (fun c => absurd c (by decide)) (fun _ => ?_)
  refine lv_aload_n hx hb dX2_init_47 rfl (lv_at hl 1 rfl) ?_
  have hw157 : w151 14 = .inr (2, [.ref (ad 4), .ref (ad 1), .ref (ad10 15), .ref (ad19 16), .ref (ad28 17), .int (0 : Int32), .int (0 : Int32), .int (0 : Int32)]) := (hne153 14 (by decide)).trans ((hfr149 14 (by omega)).trans ((hne135 14 (by decide)).trans (hw131)))
  have ha158 : ad140 14 = ad 14 := (((ha141 14 (by decide)).trans (ha137 14 (by decide))).trans ha132)
  refine tw_get (r := 14) F hH kf_RX2_21 ha158 (by decide) hw157 rfl dX2_init_48 ?_
  refine lv_iload_n hx hb dX2_init_51 rfl (lv_at hl 0 rfl) ?_
  refine tw_new (ci := 1) (T := TX1) F hH rfl iw_X1 tyX1 tyX1_ok (tw_gl kw_141 rfl) (tw_gl kw_145 rfl) (tw_gl kw_7 rfl) kd_X1 (Nat.le_of_ble_eq_true rfl) (Nat.le_of_ble_eq_true rfl) dX2_init_52 (fun H locs ad162 w159 ha163 hw160 hne161 hH => ?_)
  refine lv_dup hx hb dX2_init_55 rfl ?_
  refine tw_calln F hH (tw_runI (r := 64) (As := []) (rest := [.ref (ad162 64), .int (2 : Int32), .ref (ad10 15)]) F hH (c_X1_init l G 64 ad162 w159 H.size hw160) (tw_gl kw_146 rfl) km_X1_init (tw_gl kw_147 rfl) rfl rfl rfl ⟨(Nat.le_of_ble_eq_true rfl), (Nat.le_of_ble_eq_true rfl)⟩ rfl hl.1 rfl (Nat.le_of_ble_eq_true rfl) dX2_init_56 ⟨(Nat.le_of_ble_eq_true rfl), (Nat.le_of_ble_eq_true rfl)⟩) (fun ad166 w164 H locs hp165 ha167 _ hH => ?_)
  obtain ⟨-, hw169, hw170, hw171, hw172, hw173, hw174, hw175, hw176, hw177, hw178, hw179, hw180, hw181, hw182, hw183, hw184, hw185, hfr186⟩ := hp165
  have hw187 : w164 15 = .inl (G.2.1 2, 6, .inr (.inr (.inr (.inr (va_up (va_up (fun _ => none) 0 (some (ad38 18))) 1 (some (ad100 41))))))) := (hfr186 15 (by omega)).trans ((hne161 15 (by decide)).trans ((hne153 15 (by decide)).trans ((hfr149 15 (by omega)).trans ((hne135 15 (by decide)).trans (hw127)))))
  have ha191 : ad166 15 = ad10 15 := (((((ha167 15 (by decide)).trans (ha163 15 (by decide))).trans (ha141 15 (by decide))).trans (ha137 15 (by decide))).trans ha129)
  have ha192 : ad166 64 = ad162 64 := (ha167 64 (by decide))
  refine tw_aast (r := 15) (t := 2) (j := 2) (r2 := 64) F hH rfl ha191 (by decide) hw187 rfl ha192 (by decide) hw171 (by decide) (by decide) dX2_init_59 (fun H locs w188 hw189 hne190 hH => ?_)
  refine lv_aload_n hx hb dX2_init_60 rfl (lv_at hl 1 rfl) ?_
  have hw193 : w188 14 = .inr (2, [.ref (ad 4), .ref (ad 1), .ref (ad10 15), .ref (ad19 16), .ref (ad28 17), .int (0 : Int32), .int (0 : Int32), .int (0 : Int32)]) := (hne190 14 (by decide)).trans ((hfr186 14 (by omega)).trans ((hne161 14 (by decide)).trans (hw157)))
  have ha194 : ad166 14 = ad 14 := (((ha167 14 (by decide)).trans (ha163 14 (by decide))).trans ha158)
  refine tw_get (r := 14) F hH kf_RX2_27 ha194 (by decide) hw193 rfl dX2_init_61 ?_
  refine lv_iload_n hx hb dX2_init_64 rfl (lv_at hl 0 rfl) ?_
  refine tw_new (ci := 6) (T := TX6) F hH rfl iw_X6 tyX6 tyX6_ok (tw_gl kw_143 rfl) (tw_gl kw_257 rfl) (tw_gl kw_9 rfl) kd_X6 (Nat.le_of_ble_eq_true rfl) (Nat.le_of_ble_eq_true rfl) dX2_init_65 (fun H locs ad198 w195 ha199 hw196 hne197 hH => ?_)
  refine lv_dup hx hb dX2_init_68 rfl ?_
  refine tw_calln F hH (tw_runI (r := 81) (As := []) (rest := [.ref (ad198 81), .int (2 : Int32), .ref (ad19 16)]) F hH (c_X6_init l G 81 ad198 w195 H.size hw196) (tw_gl kw_258 rfl) km_X6_init (tw_gl kw_259 rfl) rfl rfl rfl ⟨(Nat.le_of_ble_eq_true rfl), (Nat.le_of_ble_eq_true rfl)⟩ rfl hl.1 rfl (Nat.le_of_ble_eq_true rfl) dX2_init_69 ⟨(Nat.le_of_ble_eq_true rfl), (Nat.le_of_ble_eq_true rfl)⟩) (fun ad202 w200 H locs hp201 ha203 _ hH => ?_)
  obtain ⟨-, hw205, hw206, hw207, hw208, hw209, hw210, hfr211⟩ := hp201
  have hw212 : w200 16 = .inl (G.2.1 3, 6, .inr (.inr (.inr (.inr (va_up (va_up (fun _ => none) 0 (some (ad74 35))) 1 (some (ad136 58))))))) := (hfr211 16 (by omega)).trans ((hne197 16 (by decide)).trans ((hne190 16 (by decide)).trans ((hfr186 16 (by omega)).trans ((hne161 16 (by decide)).trans (hw152)))))
  have ha216 : ad202 16 = ad19 16 := (((((ha203 16 (by decide)).trans (ha199 16 (by decide))).trans (ha167 16 (by decide))).trans (ha163 16 (by decide))).trans ha154)
  have ha217 : ad202 81 = ad198 81 := (ha203 81 (by decide))
  refine tw_aast (r := 16) (t := 3) (j := 2) (r2 := 81) F hH rfl ha216 (by decide) hw212 rfl ha217 (by decide) hw206 (by decide) (by decide) dX2_init_72 (fun H locs w213 hw214 hne215 hH => ?_)
  refine lv_iinc (v := (3 : Int32)) (lv' := [(3, .int (3 : Int32)), (0, .ref (ad 14)), (1, .ref (ad 4)), (2, .ref (ad 1))]) hx hb dX2_init_73 hl (k := 0) rfl (by decide) (by decide) rfl (fun ls hl => ?_)
  refine lv_goto (tgt := 41) hx hb dX2_init_76 (by decide) ?_
  refine lv_iload_n hx hb dX2_init_41 rfl (lv_at hl 0 rfl) ?_
  refine lv_bipush (v := 6) hx hb dX2_init_42 (by decide) ?_
  refine lv_icmp_ge (tgt := 79) hx hb dX2_init_44 (by decide) (fun c => absurd c (by decide)) (fun _ => ?_)
  refine lv_aload_n hx hb dX2_init_47 rfl (lv_at hl 1 rfl) ?_
  have hw219 : w213 14 = .inr (2, [.ref (ad 4), .ref (ad 1), .ref (ad10 15), .ref (ad19 16), .ref (ad28 17), .int (0 : Int32), .int (0 : Int32), .int (0 : Int32)]) := (hne215 14 (by decide)).trans ((hfr211 14 (by omega)).trans ((hne197 14 (by decide)).trans (hw193)))
  have ha220 : ad202 14 = ad 14 := (((ha203 14 (by decide)).trans (ha199 14 (by decide))).trans ha194)
  refine tw_get (r := 14) F hH kf_RX2_21 ha220 (by decide) hw219 rfl dX2_init_48 ?_
  refine lv_iload_n hx hb dX2_init_51 rfl (lv_at hl 0 rfl) ?_
  refine tw_new (ci := 1) (T := TX1) F hH rfl iw_X1 tyX1 tyX1_ok (tw_gl kw_141 rfl) (tw_gl kw_145 rfl) (tw_gl kw_7 rfl) kd_X1 (Nat.le_of_ble_eq_true rfl) (Nat.le_of_ble_eq_true rfl) dX2_init_52 (fun H locs ad224 w221 ha225 hw222 hne223 hH => ?_)
  refine lv_dup hx hb dX2_init_55 rfl ?_
  refine tw_calln F hH (tw_runI (r := 87) (As := []) (rest := [.ref (ad224 87), .int (3 : Int32), .ref (ad10 15)]) F hH (c_X1_init l G 87 ad224 w221 H.size hw222) (tw_gl kw_146 rfl) km_X1_init (tw_gl kw_147 rfl) rfl rfl rfl ⟨(Nat.le_of_ble_eq_true rfl), (Nat.le_of_ble_eq_true rfl)⟩ rfl hl.1 rfl (Nat.le_of_ble_eq_true rfl) dX2_init_56 ⟨(Nat.le_of_ble_eq_true rfl), (Nat.le_of_ble_eq_true rfl)⟩) (fun ad228 w226 H locs hp227 ha229 _ hH => ?_)
  obtain ⟨-, hw231, hw232, hw233, hw234, hw235, hw236, hw237, hw238, hw239, hw240, hw241, hw242, hw243, hw244, hw245, hw246, hw247, hfr248⟩ := hp227
  have hw249 : w226 15 = .inl (G.2.1 2, 6, .inr (.inr (.inr (.inr (va_up (va_up (va_up (fun _ => none) 0 (some (ad38 18))) 1 (some (ad100 41))) 2 (some (ad162 64))))))) := (hfr248 15 (by omega)).trans ((hne223 15 (by decide)).trans ((hne215 15 (by decide)).trans ((hfr211 15 (by omega)).trans ((hne197 15 (by decide)).trans (hw189)))))
  have ha253 : ad228 15 = ad10 15 := (((((ha229 15 (by decide)).trans (ha225 15 (by decide))).trans (ha203 15 (by decide))).trans (ha199 15 (by decide))).trans ha191)
  have ha254 : ad228 87 = ad224 87 := (ha229 87 (by decide))
  refine tw_aast (r := 15) (t := 2) (j := 3) (r2 := 87) F hH rfl ha253 (by decide) hw249 rfl ha254 (by decide) hw233 (by decide) (by decide) dX2_init_59 (fun H locs w250 hw251 hne252 hH => ?_)
  refine lv_aload_n hx hb dX2_init_60 rfl (lv_at hl 1 rfl) ?_
  have hw255 : w250 14 = .inr (2, [.ref (ad 4), .ref (ad 1), .ref (ad10 15), .ref (ad19 16), .ref (ad28 17), .int (0 : Int32), .int (0 : Int32), .int (0 : Int32)]) := (hne252 14 (by decide)).trans ((hfr248 14 (by omega)).trans ((hne223 14 (by decide)).trans (hw219)))
  have ha256 : ad228 14 = ad 14 := (((ha229 14 (by decide)).trans (ha225 14 (by decide))).trans ha220)
  refine tw_get (r := 14) F hH kf_RX2_27 ha256 (by decide) hw255 rfl dX2_init_61 ?_
  refine lv_iload_n hx hb dX2_init_64 rfl (lv_at hl 0 rfl) ?_
  refine tw_new (ci := 6) (T := TX6) F hH rfl iw_X6 tyX6 tyX6_ok (tw_gl kw_143 rfl) (tw_gl kw_257 rfl) (tw_gl kw_9 rfl) kd_X6 (Nat.le_of_ble_eq_true rfl) (Nat.le_of_ble_eq_true rfl) dX2_init_65 (fun H locs ad260 w257 ha261 hw258 hne259 hH => ?_)
  refine lv_dup hx hb dX2_init_68 rfl ?_
  refine tw_calln F hH (tw_runI (r := 104) (As := []) (rest := [.ref (ad260 104), .int (3 : Int32), .ref (ad19 16)]) F hH (c_X6_init l G 104 ad260 w257 H.size hw258) (tw_gl kw_258 rfl) km_X6_init (tw_gl kw_259 rfl) rfl rfl rfl ⟨(Nat.le_of_ble_eq_true rfl), (Nat.le_of_ble_eq_true rfl)⟩ rfl hl.1 rfl (Nat.le_of_ble_eq_true rfl) dX2_init_69 ⟨(Nat.le_of_ble_eq_true rfl), (Nat.le_of_ble_eq_true rfl)⟩) (fun ad264 w262 H locs hp263 ha265 _ hH => ?_)
  obtain ⟨-, hw267, hw268, hw269, hw270, hw271, hw272, hfr273⟩ := hp263
  have hw274 : w262 16 = .inl (G.2.1 3, 6, .inr (.inr (.inr (.inr (va_up (va_up (va_up (fun _ => none) 0 (some (ad74 35))) 1 (some (ad136 58))) 2 (some (ad198 81))))))) := (hfr273 16 (by omega)).trans ((hne259 16 (by decide)).trans ((hne252 16 (by decide)).trans ((hfr248 16 (by omega)).trans ((hne223 16 (by decide)).trans (hw214)))))
  have ha278 : ad264 16 = ad19 16 := (((((ha265 16 (by decide)).trans (ha261 16 (by decide))).trans (ha229 16 (by decide))).trans (ha225 16 (by decide))).trans ha216)
  have ha279 : ad264 104 = ad260 104 := (ha265 104 (by decide))
  refine tw_aast (r := 16) (t := 3) (j := 3) (r2 := 104) F hH rfl ha278 (by decide) hw274 rfl ha279 (by decide) hw268 (by decide) (by decide) dX2_init_72 (fun H locs w275 hw276 hne277 hH => ?_)
  refine lv_iinc (v := (4 : Int32)) (lv' := [(3, .int (4 : Int32)), (0, .ref (ad 14)), (1, .ref (ad 4)), (2, .ref (ad 1))]) hx hb dX2_init_73 hl (k := 0) rfl (by decide) (by decide) rfl (fun ls hl => ?_)
  refine lv_goto (tgt := 41) hx hb dX2_init_76 (by decide) ?_
  refine lv_iload_n hx hb dX2_init_41 rfl (lv_at hl 0 rfl) ?_
  refine lv_bipush (v := 6) hx hb dX2_init_42 (by decide) ?_
  refine lv_icmp_ge (tgt := 79) hx hb dX2_init_44 (by decide) (fun c => absurd c (by decide)) (fun _ => ?_)
  refine lv_aload_n hx hb dX2_init_47 rfl (lv_at hl 1 rfl) ?_
  have hw281 : w275 14 = .inr (2, [.ref (ad 4), .ref (ad 1), .ref (ad10 15), .ref (ad19 16), .ref (ad28 17), .int (0 : Int32), .int (0 : Int32), .int (0 : Int32)]) := (hne277 14 (by decide)).trans ((hfr273 14 (by omega)).trans ((hne259 14 (by decide)).trans (hw255)))
  have ha282 : ad264 14 = ad 14 := (((ha265 14 (by decide)).trans (ha261 14 (by decide))).trans ha256)
  refine tw_get (r := 14) F hH kf_RX2_21 ha282 (by decide) hw281 rfl dX2_init_48 ?_
  refine lv_iload_n hx hb dX2_init_51 rfl (lv_at hl 0 rfl) ?_
  refine tw_new (ci := 1) (T := TX1) F hH rfl iw_X1 tyX1 tyX1_ok (tw_gl kw_141 rfl) (tw_gl kw_145 rfl) (tw_gl kw_7 rfl) kd_X1 (Nat.le_of_ble_eq_true rfl) (Nat.le_of_ble_eq_true rfl) dX2_init_52 (fun H locs ad286 w283 ha287 hw284 hne285 hH => ?_)
  refine lv_dup hx hb dX2_init_55 rfl ?_
  refine tw_calln F hH (tw_runI (r := 110) (As := []) (rest := [.ref (ad286 110), .int (4 : Int32), .ref (ad10 15)]) F hH (c_X1_init l G 110 ad286 w283 H.size hw284) (tw_gl kw_146 rfl) km_X1_init (tw_gl kw_147 rfl) rfl rfl rfl ⟨(Nat.le_of_ble_eq_true rfl), (Nat.le_of_ble_eq_true rfl)⟩ rfl hl.1 rfl (Nat.le_of_ble_eq_true rfl) dX2_init_56 ⟨(Nat.le_of_ble_eq_true rfl), (Nat.le_of_ble_eq_true rfl)⟩) (fun ad290 w288 H locs hp289 ha291 _ hH => ?_)
  obtain ⟨-, hw293, hw294, hw295, hw296, hw297, hw298, hw299, hw300, hw301, hw302, hw303, hw304, hw305, hw306, hw307, hw308, hw309, hfr310⟩ := hp289
  have hw311 : w288 15 = .inl (G.2.1 2, 6, .inr (.inr (.inr (.inr (va_up (va_up (va_up (va_up (fun _ => none) 0 (some (ad38 18))) 1 (some (ad100 41))) 2 (some (ad162 64))) 3 (some (ad224 87))))))) := (hfr310 15 (by omega)).trans ((hne285 15 (by decide)).trans ((hne277 15 (by decide)).trans ((hfr273 15 (by omega)).trans ((hne259 15 (by decide)).trans (hw251)))))
  have ha315 : ad290 15 = ad10 15 := (((((ha291 15 (by decide)).trans (ha287 15 (by decide))).trans (ha265 15 (by decide))).trans (ha261 15 (by decide))).trans ha253)
  have ha316 : ad290 110 = ad286 110 := (ha291 110 (by decide))
  refine tw_aast (r := 15) (t := 2) (j := 4) (r2 := 110) F hH rfl ha315 (by decide) hw311 rfl ha316 (by decide) hw295 (by decide) (by decide) dX2_init_59 (fun H locs w312 hw313 hne314 hH => ?_)
  refine lv_aload_n hx hb dX2_init_60 rfl (lv_at hl 1 rfl) ?_
  have hw317 : w312 14 = .inr (2, [.ref (ad 4), .ref (ad 1), .ref (ad10 15), .ref (ad19 16), .ref (ad28 17), .int (0 : Int32), .int (0 : Int32), .int (0 : Int32)]) := (hne314 14 (by decide)).trans ((hfr310 14 (by omega)).trans ((hne285 14 (by decide)).trans (hw281)))
  have ha318 : ad290 14 = ad 14 := (((ha291 14 (by decide)).trans (ha287 14 (by decide))).trans ha282)
  refine tw_get (r := 14) F hH kf_RX2_27 ha318 (by decide) hw317 rfl dX2_init_61 ?_
  refine lv_iload_n hx hb dX2_init_64 rfl (lv_at hl 0 rfl) ?_
  refine tw_new (ci := 6) (T := TX6) F hH rfl iw_X6 tyX6 tyX6_ok (tw_gl kw_143 rfl) (tw_gl kw_257 rfl) (tw_gl kw_9 rfl) kd_X6 (Nat.le_of_ble_eq_true rfl) (Nat.le_of_ble_eq_true rfl) dX2_init_65 (fun H locs ad322 w319 ha323 hw320 hne321 hH => ?_)
  refine lv_dup hx hb dX2_init_68 rfl ?_
  refine tw_calln F hH (tw_runI (r := 127) (As := []) (rest := [.ref (ad322 127), .int (4 : Int32), .ref (ad19 16)]) F hH (c_X6_init l G 127 ad322 w319 H.size hw320) (tw_gl kw_258 rfl) km_X6_init (tw_gl kw_259 rfl) rfl rfl rfl ⟨(Nat.le_of_ble_eq_true rfl), (Nat.le_of_ble_eq_true rfl)⟩ rfl hl.1 rfl (Nat.le_of_ble_eq_true rfl) dX2_init_69 ⟨(Nat.le_of_ble_eq_true rfl), (Nat.le_of_ble_eq_true rfl)⟩) (fun ad326 w324 H locs hp325 ha327 _ hH => ?_)
  obtain ⟨-, hw329, hw330, hw331, hw332, hw333, hw334, hfr335⟩ := hp325
  have hw336 : w324 16 = .inl (G.2.1 3, 6, .inr (.inr (.inr (.inr (va_up (va_up (va_up (va_up (fun _ => none) 0 (some (ad74 35))) 1 (some (ad136 58))) 2 (some (ad198 81))) 3 (some (ad260 104))))))) := (hfr335 16 (by omega)).trans ((hne321 16 (by decide)).trans ((hne314 16 (by decide)).trans ((hfr310 16 (by omega)).trans ((hne285 16 (by decide)).trans (hw276)))))
  have ha340 : ad326 16 = ad19 16 := (((((ha327 16 (by decide)).trans (ha323 16 (by decide))).trans (ha291 16 (by decide))).trans (ha287 16 (by decide))).trans ha278)
  have ha341 : ad326 127 = ad322 127 := (ha327 127 (by decide))
  refine tw_aast (r := 16) (t := 3) (j := 4) (r2 := 127) F hH rfl ha340 (by decide) hw336 rfl ha341 (by decide) hw330 (by decide) (by decide) dX2_init_72 (fun H locs w337 hw338 hne339 hH => ?_)
  refine lv_iinc (v := (5 : Int32)) (lv' := [(3, .int (5 : Int32)), (0, .ref (ad 14)), (1, .ref (ad 4)), (2, .ref (ad 1))]) hx hb dX2_init_73 hl (k := 0) rfl (by decide) (by decide) rfl (fun ls hl => ?_)
  refine lv_goto (tgt := 41) hx hb dX2_init_76 (by decide) ?_
  refine lv_iload_n hx hb dX2_init_41 rfl (lv_at hl 0 rfl) ?_
  refine lv_bipush (v := 6) hx hb dX2_init_42 (by decide) ?_
  refine lv_icmp_ge (tgt := 79) hx hb dX2_init_44 (by decide) (fun c => absurd c (by decide)) (fun _ => ?_)
  refine lv_aload_n hx hb dX2_init_47 rfl (lv_at hl 1 rfl) ?_
  have hw343 : w337 14 = .inr (2, [.ref (ad 4), .ref (ad 1), .ref (ad10 15), .ref (ad19 16), .ref (ad28 17), .int (0 : Int32), .int (0 : Int32), .int (0 : Int32)]) := (hne339 14 (by decide)).trans ((hfr335 14 (by omega)).trans ((hne321 14 (by decide)).trans (hw317)))
  have ha344 : ad326 14 = ad 14 := (((ha327 14 (by decide)).trans (ha323 14 (by decide))).trans ha318)
  refine tw_get (r := 14) F hH kf_RX2_21 ha344 (by decide) hw343 rfl dX2_init_48 ?_
  refine lv_iload_n hx hb dX2_init_51 rfl (lv_at hl 0 rfl) ?_
  refine tw_new (ci := 1) (T := TX1) F hH rfl iw_X1 tyX1 tyX1_ok (tw_gl kw_141 rfl) (tw_gl kw_145 rfl) (tw_gl kw_7 rfl) kd_X1 (Nat.le_of_ble_eq_true rfl) (Nat.le_of_ble_eq_true rfl) dX2_init_52 (fun H locs ad348 w345 ha349 hw346 hne347 hH => ?_)
  refine lv_dup hx hb dX2_init_55 rfl ?_
  refine tw_calln F hH (tw_runI (r := 133) (As := []) (rest := [.ref (ad348 133), .int (5 : Int32), .ref (ad10 15)]) F hH (c_X1_init l G 133 ad348 w345 H.size hw346) (tw_gl kw_146 rfl) km_X1_init (tw_gl kw_147 rfl) rfl rfl rfl ⟨(Nat.le_of_ble_eq_true rfl), (Nat.le_of_ble_eq_true rfl)⟩ rfl hl.1 rfl (Nat.le_of_ble_eq_true rfl) dX2_init_56 ⟨(Nat.le_of_ble_eq_true rfl), (Nat.le_of_ble_eq_true rfl)⟩) (fun ad352 w350 H locs hp351 ha353 _ hH => ?_)
  obtain ⟨-, hw355, hw356, hw357, hw358, hw359, hw360, hw361, hw362, hw363, hw364, hw365, hw366, hw367, hw368, hw369, hw370, hw371, hfr372⟩ := hp351
  have hw373 : w350 15 = .inl (G.2.1 2, 6, .inr (.inr (.inr (.inr (va_up (va_up (va_up (va_up (va_up (fun _ => none) 0 (some (ad38 18))) 1 (some (ad100 41))) 2 (some (ad162 64))) 3 (some (ad224 87))) 4 (some (ad286 110))))))) := (hfr372 15 (by omega)).trans ((hne347 15 (by decide)).trans ((hne339 15 (by decide)).trans ((hfr335 15 (by omega)).trans ((hne321 15 (by decide)).trans (hw313)))))
  have ha377 : ad352 15 = ad10 15 := (((((ha353 15 (by decide)).trans (ha349 15 (by decide))).trans (ha327 15 (by decide))).trans (ha323 15 (by decide))).trans ha315)
  have ha378 : ad352 133 = ad348 133 := (ha353 133 (by decide))
  refine tw_aast (r := 15) (t := 2) (j := 5) (r2 := 133) F hH rfl ha377 (by decide) hw373 rfl ha378 (by decide) hw357 (by decide) (by decide) dX2_init_59 (fun H locs w374 hw375 hne376 hH => ?_)
  refine lv_aload_n hx hb dX2_init_60 rfl (lv_at hl 1 rfl) ?_
  have hw379 : w374 14 = .inr (2, [.ref (ad 4), .ref (ad 1), .ref (ad10 15), .ref (ad19 16), .ref (ad28 17), .int (0 : Int32), .int (0 : Int32), .int (0 : Int32)]) := (hne376 14 (by decide)).trans ((hfr372 14 (by omega)).trans ((hne347 14 (by decide)).trans (hw343)))
  have ha380 : ad352 14 = ad 14 := (((ha353 14 (by decide)).trans (ha349 14 (by decide))).trans ha344)
  refine tw_get (r := 14) F hH kf_RX2_27 ha380 (by decide) hw379 rfl dX2_init_61 ?_
  refine lv_iload_n hx hb dX2_init_64 rfl (lv_at hl 0 rfl) ?_
  refine tw_new (ci := 6) (T := TX6) F hH rfl iw_X6 tyX6 tyX6_ok (tw_gl kw_143 rfl) (tw_gl kw_257 rfl) (tw_gl kw_9 rfl) kd_X6 (Nat.le_of_ble_eq_true rfl) (Nat.le_of_ble_eq_true rfl) dX2_init_65 (fun H locs ad384 w381 ha385 hw382 hne383 hH => ?_)
  refine lv_dup hx hb dX2_init_68 rfl ?_
  refine tw_calln F hH (tw_runI (r := 150) (As := []) (rest := [.ref (ad384 150), .int (5 : Int32), .ref (ad19 16)]) F hH (c_X6_init l G 150 ad384 w381 H.size hw382) (tw_gl kw_258 rfl) km_X6_init (tw_gl kw_259 rfl) rfl rfl rfl ⟨(Nat.le_of_ble_eq_true rfl), (Nat.le_of_ble_eq_true rfl)⟩ rfl hl.1 rfl (Nat.le_of_ble_eq_true rfl) dX2_init_69 ⟨(Nat.le_of_ble_eq_true rfl), (Nat.le_of_ble_eq_true rfl)⟩) (fun ad388 w386 H locs hp387 ha389 _ hH => ?_)
  obtain ⟨-, hw391, hw392, hw393, hw394, hw395, hw396, hfr397⟩ := hp387
  have hw398 : w386 16 = .inl (G.2.1 3, 6, .inr (.inr (.inr (.inr (va_up (va_up (va_up (va_up (va_up (fun _ => none) 0 (some (ad74 35))) 1 (some (ad136 58))) 2 (some (ad198 81))) 3 (some (ad260 104))) 4 (some (ad322 127))))))) := (hfr397 16 (by omega)).trans ((hne383 16 (by decide)).trans ((hne376 16 (by decide)).trans ((hfr372 16 (by omega)).trans ((hne347 16 (by decide)).trans (hw338)))))
  have ha402 : ad388 16 = ad19 16 := (((((ha389 16 (by decide)).trans (ha385 16 (by decide))).trans (ha353 16 (by decide))).trans (ha349 16 (by decide))).trans ha340)
  have ha403 : ad388 150 = ad384 150 := (ha389 150 (by decide))
  refine tw_aast (r := 16) (t := 3) (j := 5) (r2 := 150) F hH rfl ha402 (by decide) hw398 rfl ha403 (by decide) hw392 (by decide) (by decide) dX2_init_72 (fun H locs w399 hw400 hne401 hH => ?_)
  refine lv_iinc (v := (6 : Int32)) (lv' := [(3, .int (6 : Int32)), (0, .ref (ad 14)), (1, .ref (ad 4)), (2, .ref (ad 1))]) hx hb dX2_init_73 hl (k := 0) rfl (by decide) (by decide) rfl (fun ls hl => ?_)
  refine lv_goto (tgt := 41) hx hb dX2_init_76 (by decide) ?_
  refine lv_iload_n hx hb dX2_init_41 rfl (lv_at hl 0 rfl) ?_
  refine lv_bipush (v := 6) hx hb dX2_init_42 (by decide) ?_
  refine lv_icmp_ge (tgt := 79) hx hb dX2_init_44 (by decide) (fun _ => ?_) (fun c => absurd c (by decide))
  have hw405 : w399 14 = .inr (2, [.ref (ad 4), .ref (ad 1), .ref (ad10 15), .ref (ad19 16), .ref (ad28 17), .int (0 : Int32), .int (0 : Int32), .int (0 : Int32)]) := (hne401 14 (by decide)).trans ((hfr397 14 (by omega)).trans ((hne383 14 (by decide)).trans (hw379)))
  have ha406 : ad388 4 = ad 4 := (((((((((((((((((((((((((((ha389 4 (by decide)).trans (ha385 4 (by decide))).trans (ha353 4 (by decide))).trans (ha349 4 (by decide))).trans (ha327 4 (by decide))).trans (ha323 4 (by decide))).trans (ha291 4 (by decide))).trans (ha287 4 (by decide))).trans (ha265 4 (by decide))).trans (ha261 4 (by decide))).trans (ha229 4 (by decide))).trans (ha225 4 (by decide))).trans (ha203 4 (by decide))).trans (ha199 4 (by decide))).trans (ha167 4 (by decide))).trans (ha163 4 (by decide))).trans (ha141 4 (by decide))).trans (ha137 4 (by decide))).trans (ha105 4 (by decide))).trans (ha101 4 (by decide))).trans (ha79 4 (by decide))).trans (ha75 4 (by decide))).trans (ha43 4 (by decide))).trans (ha39 4 (by decide))).trans (ha29 4 (by decide))).trans (ha20 4 (by decide))).trans (ha11 4 (by decide)))
  have ha407 : ad388 1 = ad 1 := (((((((((((((((((((((((((((ha389 1 (by decide)).trans (ha385 1 (by decide))).trans (ha353 1 (by decide))).trans (ha349 1 (by decide))).trans (ha327 1 (by decide))).trans (ha323 1 (by decide))).trans (ha291 1 (by decide))).trans (ha287 1 (by decide))).trans (ha265 1 (by decide))).trans (ha261 1 (by decide))).trans (ha229 1 (by decide))).trans (ha225 1 (by decide))).trans (ha203 1 (by decide))).trans (ha199 1 (by decide))).trans (ha167 1 (by decide))).trans (ha163 1 (by decide))).trans (ha141 1 (by decide))).trans (ha137 1 (by decide))).trans (ha105 1 (by decide))).trans (ha101 1 (by decide))).trans (ha79 1 (by decide))).trans (ha75 1 (by decide))).trans (ha43 1 (by decide))).trans (ha39 1 (by decide))).trans (ha29 1 (by decide))).trans (ha20 1 (by decide))).trans (ha11 1 (by decide)))
  have ha408 : ad388 15 = ad10 15 := (((ha389 15 (by decide)).trans (ha385 15 (by decide))).trans ha377)
  have ha409 : ad388 17 = ad28 17 := ((((((((((((((((((((((((ha389 17 (by decide)).trans (ha385 17 (by decide))).trans (ha353 17 (by decide))).trans (ha349 17 (by decide))).trans (ha327 17 (by decide))).trans (ha323 17 (by decide))).trans (ha291 17 (by decide))).trans (ha287 17 (by decide))).trans (ha265 17 (by decide))).trans (ha261 17 (by decide))).trans (ha229 17 (by decide))).trans (ha225 17 (by decide))).trans (ha203 17 (by decide))).trans (ha199 17 (by decide))).trans (ha167 17 (by decide))).trans (ha163 17 (by decide))).trans (ha141 17 (by decide))).trans (ha137 17 (by decide))).trans (ha105 17 (by decide))).trans (ha101 17 (by decide))).trans (ha79 17 (by decide))).trans (ha75 17 (by decide))).trans (ha43 17 (by decide))).trans (ha39 17 (by decide)))
  have hw410 : w399 14 = .inr (2, [.ref (ad388 4), .ref (ad388 1), .ref (ad388 15), .ref (ad388 16), .ref (ad388 17), .int (0 : Int32), .int (0 : Int32), .int (0 : Int32)]) := by rw [hw405]; rw [show ad 4 = ad388 4 from ha406.symm, show ad 1 = ad388 1 from ha407.symm, show ad10 15 = ad388 15 from ha408.symm, show ad19 16 = ad388 16 from ha402.symm, show ad28 17 = ad388 17 from ha409.symm]
  have hw411 : w399 15 = .inl (G.2.1 2, 6, .inr (.inr (.inr (.inr (va_up (va_up (va_up (va_up (va_up (va_up (fun _ => none) 0 (some (ad38 18))) 1 (some (ad100 41))) 2 (some (ad162 64))) 3 (some (ad224 87))) 4 (some (ad286 110))) 5 (some (ad348 133))))))) := (hne401 15 (by decide)).trans ((hfr397 15 (by omega)).trans ((hne383 15 (by decide)).trans (hw375)))
  have ha412 : ad388 18 = ad38 18 := (((((((((((((((((((((((ha389 18 (by decide)).trans (ha385 18 (by decide))).trans (ha353 18 (by decide))).trans (ha349 18 (by decide))).trans (ha327 18 (by decide))).trans (ha323 18 (by decide))).trans (ha291 18 (by decide))).trans (ha287 18 (by decide))).trans (ha265 18 (by decide))).trans (ha261 18 (by decide))).trans (ha229 18 (by decide))).trans (ha225 18 (by decide))).trans (ha203 18 (by decide))).trans (ha199 18 (by decide))).trans (ha167 18 (by decide))).trans (ha163 18 (by decide))).trans (ha141 18 (by decide))).trans (ha137 18 (by decide))).trans (ha105 18 (by decide))).trans (ha101 18 (by decide))).trans (ha79 18 (by decide))).trans (ha75 18 (by decide))).trans ha68)
  have ha413 : ad388 41 = ad100 41 := (((((((((((((((((((ha389 41 (by decide)).trans (ha385 41 (by decide))).trans (ha353 41 (by decide))).trans (ha349 41 (by decide))).trans (ha327 41 (by decide))).trans (ha323 41 (by decide))).trans (ha291 41 (by decide))).trans (ha287 41 (by decide))).trans (ha265 41 (by decide))).trans (ha261 41 (by decide))).trans (ha229 41 (by decide))).trans (ha225 41 (by decide))).trans (ha203 41 (by decide))).trans (ha199 41 (by decide))).trans (ha167 41 (by decide))).trans (ha163 41 (by decide))).trans (ha141 41 (by decide))).trans (ha137 41 (by decide))).trans ha130)
  have ha414 : ad388 64 = ad162 64 := (((((((((((((((ha389 64 (by decide)).trans (ha385 64 (by decide))).trans (ha353 64 (by decide))).trans (ha349 64 (by decide))).trans (ha327 64 (by decide))).trans (ha323 64 (by decide))).trans (ha291 64 (by decide))).trans (ha287 64 (by decide))).trans (ha265 64 (by decide))).trans (ha261 64 (by decide))).trans (ha229 64 (by decide))).trans (ha225 64 (by decide))).trans (ha203 64 (by decide))).trans (ha199 64 (by decide))).trans ha192)
  have ha415 : ad388 87 = ad224 87 := (((((((((((ha389 87 (by decide)).trans (ha385 87 (by decide))).trans (ha353 87 (by decide))).trans (ha349 87 (by decide))).trans (ha327 87 (by decide))).trans (ha323 87 (by decide))).trans (ha291 87 (by decide))).trans (ha287 87 (by decide))).trans (ha265 87 (by decide))).trans (ha261 87 (by decide))).trans ha254)
  have ha416 : ad388 110 = ad286 110 := (((((((ha389 110 (by decide)).trans (ha385 110 (by decide))).trans (ha353 110 (by decide))).trans (ha349 110 (by decide))).trans (ha327 110 (by decide))).trans (ha323 110 (by decide))).trans ha316)
  have ha417 : ad388 133 = ad348 133 := (((ha389 133 (by decide)).trans (ha385 133 (by decide))).trans ha378)
  have hw418 : w399 15 = .inl (G.2.1 2, 6, .inr (.inr (.inr (.inr (va_up (va_up (va_up (va_up (va_up (va_up (fun _ => none) 0 (some (ad388 18))) 1 (some (ad388 41))) 2 (some (ad388 64))) 3 (some (ad388 87))) 4 (some (ad388 110))) 5 (some (ad388 133))))))) := by rw [hw411]; rw [show ad38 18 = ad388 18 from ha412.symm, show ad100 41 = ad388 41 from ha413.symm, show ad162 64 = ad388 64 from ha414.symm, show ad224 87 = ad388 87 from ha415.symm, show ad286 110 = ad388 110 from ha416.symm, show ad348 133 = ad388 133 from ha417.symm]
  have hw419 : w399 17 = .inl (G.2.1 0, 4, .inl (fun _ => 0)) := (hne401 17 (by decide)).trans ((hfr397 17 (by omega)).trans ((hne383 17 (by decide)).trans ((hne376 17 (by decide)).trans ((hfr372 17 (by omega)).trans ((hne347 17 (by decide)).trans ((hne339 17 (by decide)).trans ((hfr335 17 (by omega)).trans ((hne321 17 (by decide)).trans ((hne314 17 (by decide)).trans ((hfr310 17 (by omega)).trans ((hne285 17 (by decide)).trans ((hne277 17 (by decide)).trans ((hfr273 17 (by omega)).trans ((hne259 17 (by decide)).trans ((hne252 17 (by decide)).trans ((hfr248 17 (by omega)).trans ((hne223 17 (by decide)).trans ((hne215 17 (by decide)).trans ((hfr211 17 (by omega)).trans ((hne197 17 (by decide)).trans ((hne190 17 (by decide)).trans ((hfr186 17 (by omega)).trans ((hne161 17 (by decide)).trans ((hne153 17 (by decide)).trans ((hfr149 17 (by omega)).trans ((hne135 17 (by decide)).trans ((hne128 17 (by decide)).trans ((hfr124 17 (by omega)).trans ((hne99 17 (by decide)).trans ((hne91 17 (by decide)).trans ((hfr87 17 (by omega)).trans ((hne73 17 (by decide)).trans ((hne66 17 (by decide)).trans ((hfr62 17 (by omega)).trans ((hne37 17 (by decide)).trans ((hne33 17 (by decide)).trans (hw26)))))))))))))))))))))))))))))))))))))
  have hw420 : w399 18 = .inr (1, [.int (0 : Int32), .int (0 : Int32), .int (0 : Int32), .int (0 : Int32), .int (0 : Int32), .int (0 : Int32), .ref (ad42 19), .ref (ad42 21), .ref (ad42 23), .ref (ad42 25), .ref (ad42 27), .ref (ad42 29), .int (0 : Int32), .int (0 : Int32)]) := (hne401 18 (by decide)).trans ((hfr397 18 (by omega)).trans ((hne383 18 (by decide)).trans ((hne376 18 (by decide)).trans ((hfr372 18 (by omega)).trans ((hne347 18 (by decide)).trans ((hne339 18 (by decide)).trans ((hfr335 18 (by omega)).trans ((hne321 18 (by decide)).trans ((hne314 18 (by decide)).trans ((hfr310 18 (by omega)).trans ((hne285 18 (by decide)).trans ((hne277 18 (by decide)).trans ((hfr273 18 (by omega)).trans ((hne259 18 (by decide)).trans ((hne252 18 (by decide)).trans ((hfr248 18 (by omega)).trans ((hne223 18 (by decide)).trans ((hne215 18 (by decide)).trans ((hfr211 18 (by omega)).trans ((hne197 18 (by decide)).trans ((hne190 18 (by decide)).trans ((hfr186 18 (by omega)).trans ((hne161 18 (by decide)).trans ((hne153 18 (by decide)).trans ((hfr149 18 (by omega)).trans ((hne135 18 (by decide)).trans ((hne128 18 (by decide)).trans ((hfr124 18 (by omega)).trans ((hne99 18 (by decide)).trans ((hne91 18 (by decide)).trans ((hfr87 18 (by omega)).trans ((hne73 18 (by decide)).trans ((hne66 18 (by decide)).trans (hw47))))))))))))))))))))))))))))))))))
  have ha421 : ad388 19 = ad42 19 := ((((((((((((((((((((((ha389 19 (by decide)).trans (ha385 19 (by decide))).trans (ha353 19 (by decide))).trans (ha349 19 (by decide))).trans (ha327 19 (by decide))).trans (ha323 19 (by decide))).trans (ha291 19 (by decide))).trans (ha287 19 (by decide))).trans (ha265 19 (by decide))).trans (ha261 19 (by decide))).trans (ha229 19 (by decide))).trans (ha225 19 (by decide))).trans (ha203 19 (by decide))).trans (ha199 19 (by decide))).trans (ha167 19 (by decide))).trans (ha163 19 (by decide))).trans (ha141 19 (by decide))).trans (ha137 19 (by decide))).trans (ha105 19 (by decide))).trans (ha101 19 (by decide))).trans (ha79 19 (by decide))).trans (ha75 19 (by decide)))
  have ha422 : ad388 21 = ad42 21 := ((((((((((((((((((((((ha389 21 (by decide)).trans (ha385 21 (by decide))).trans (ha353 21 (by decide))).trans (ha349 21 (by decide))).trans (ha327 21 (by decide))).trans (ha323 21 (by decide))).trans (ha291 21 (by decide))).trans (ha287 21 (by decide))).trans (ha265 21 (by decide))).trans (ha261 21 (by decide))).trans (ha229 21 (by decide))).trans (ha225 21 (by decide))).trans (ha203 21 (by decide))).trans (ha199 21 (by decide))).trans (ha167 21 (by decide))).trans (ha163 21 (by decide))).trans (ha141 21 (by decide))).trans (ha137 21 (by decide))).trans (ha105 21 (by decide))).trans (ha101 21 (by decide))).trans (ha79 21 (by decide))).trans (ha75 21 (by decide)))
  have ha423 : ad388 23 = ad42 23 := ((((((((((((((((((((((ha389 23 (by decide)).trans (ha385 23 (by decide))).trans (ha353 23 (by decide))).trans (ha349 23 (by decide))).trans (ha327 23 (by decide))).trans (ha323 23 (by decide))).trans (ha291 23 (by decide))).trans (ha287 23 (by decide))).trans (ha265 23 (by decide))).trans (ha261 23 (by decide))).trans (ha229 23 (by decide))).trans (ha225 23 (by decide))).trans (ha203 23 (by decide))).trans (ha199 23 (by decide))).trans (ha167 23 (by decide))).trans (ha163 23 (by decide))).trans (ha141 23 (by decide))).trans (ha137 23 (by decide))).trans (ha105 23 (by decide))).trans (ha101 23 (by decide))).trans (ha79 23 (by decide))).trans (ha75 23 (by decide)))
  have ha424 : ad388 25 = ad42 25 := ((((((((((((((((((((((ha389 25 (by decide)).trans (ha385 25 (by decide))).trans (ha353 25 (by decide))).trans (ha349 25 (by decide))).trans (ha327 25 (by decide))).trans (ha323 25 (by decide))).trans (ha291 25 (by decide))).trans (ha287 25 (by decide))).trans (ha265 25 (by decide))).trans (ha261 25 (by decide))).trans (ha229 25 (by decide))).trans (ha225 25 (by decide))).trans (ha203 25 (by decide))).trans (ha199 25 (by decide))).trans (ha167 25 (by decide))).trans (ha163 25 (by decide))).trans (ha141 25 (by decide))).trans (ha137 25 (by decide))).trans (ha105 25 (by decide))).trans (ha101 25 (by decide))).trans (ha79 25 (by decide))).trans (ha75 25 (by decide)))
  have ha425 : ad388 27 = ad42 27 := ((((((((((((((((((((((ha389 27 (by decide)).trans (ha385 27 (by decide))).trans (ha353 27 (by decide))).trans (ha349 27 (by decide))).trans (ha327 27 (by decide))).trans (ha323 27 (by decide))).trans (ha291 27 (by decide))).trans (ha287 27 (by decide))).trans (ha265 27 (by decide))).trans (ha261 27 (by decide))).trans (ha229 27 (by decide))).trans (ha225 27 (by decide))).trans (ha203 27 (by decide))).trans (ha199 27 (by decide))).trans (ha167 27 (by decide))).trans (ha163 27 (by decide))).trans (ha141 27 (by decide))).trans (ha137 27 (by decide))).trans (ha105 27 (by decide))).trans (ha101 27 (by decide))).trans (ha79 27 (by decide))).trans (ha75 27 (by decide)))
  have ha426 : ad388 29 = ad42 29 := ((((((((((((((((((((((ha389 29 (by decide)).trans (ha385 29 (by decide))).trans (ha353 29 (by decide))).trans (ha349 29 (by decide))).trans (ha327 29 (by decide))).trans (ha323 29 (by decide))).trans (ha291 29 (by decide))).trans (ha287 29 (by decide))).trans (ha265 29 (by decide))).trans (ha261 29 (by decide))).trans (ha229 29 (by decide))).trans (ha225 29 (by decide))).trans (ha203 29 (by decide))).trans (ha199 29 (by decide))).trans (ha167 29 (by decide))).trans (ha163 29 (by decide))).trans (ha141 29 (by decide))).trans (ha137 29 (by decide))).trans (ha105 29 (by decide))).trans (ha101 29 (by decide))).trans (ha79 29 (by decide))).trans (ha75 29 (by decide)))
  have hw427 : w399 18 = .inr (1, [.int (0 : Int32), .int (0 : Int32), .int (0 : Int32), .int (0 : Int32), .int (0 : Int32), .int (0 : Int32), .ref (ad388 19), .ref (ad388 21), .ref (ad388 23), .ref (ad388 25), .ref (ad388 27), .ref (ad388 29), .int (0 : Int32), .int (0 : Int32)]) := by rw [hw420]; rw [show ad42 19 = ad388 19 from ha421.symm, show ad42 21 = ad388 21 from ha422.symm, show ad42 23 = ad388 23 from ha423.symm, show ad42 25 = ad388 25 from ha424.symm, show ad42 27 = ad388 27 from ha425.symm, show ad42 29 = ad388 29 from ha426.symm]
  have hw428 : w399 19 = .inr (7, [.int (4 : Int32), .int (2 : Int32), .ref (ad42 20), .int (0 : Int32)]) := (hne401 19 (by decide)).trans ((hfr397 19 (by omega)).trans ((hne383 19 (by decide)).trans ((hne376 19 (by decide)).trans ((hfr372 19 (by omega)).trans ((hne347 19 (by decide)).trans ((hne339 19 (by decide)).trans ((hfr335 19 (by omega)).trans ((hne321 19 (by decide)).trans ((hne314 19 (by decide)).trans ((hfr310 19 (by omega)).trans ((hne285 19 (by decide)).trans ((hne277 19 (by decide)).trans ((hfr273 19 (by omega)).trans ((hne259 19 (by decide)).trans ((hne252 19 (by decide)).trans ((hfr248 19 (by omega)).trans ((hne223 19 (by decide)).trans ((hne215 19 (by decide)).trans ((hfr211 19 (by omega)).trans ((hne197 19 (by decide)).trans ((hne190 19 (by decide)).trans ((hfr186 19 (by omega)).trans ((hne161 19 (by decide)).trans ((hne153 19 (by decide)).trans ((hfr149 19 (by omega)).trans ((hne135 19 (by decide)).trans ((hne128 19 (by decide)).trans ((hfr124 19 (by omega)).trans ((hne99 19 (by decide)).trans ((hne91 19 (by decide)).trans ((hfr87 19 (by omega)).trans ((hne73 19 (by decide)).trans ((hne66 19 (by decide)).trans (hw45))))))))))))))))))))))))))))))))))
  have ha429 : ad388 20 = ad42 20 := ((((((((((((((((((((((ha389 20 (by decide)).trans (ha385 20 (by decide))).trans (ha353 20 (by decide))).trans (ha349 20 (by decide))).trans (ha327 20 (by decide))).trans (ha323 20 (by decide))).trans (ha291 20 (by decide))).trans (ha287 20 (by decide))).trans (ha265 20 (by decide))).trans (ha261 20 (by decide))).trans (ha229 20 (by decide))).trans (ha225 20 (by decide))).trans (ha203 20 (by decide))).trans (ha199 20 (by decide))).trans (ha167 20 (by decide))).trans (ha163 20 (by decide))).trans (ha141 20 (by decide))).trans (ha137 20 (by decide))).trans (ha105 20 (by decide))).trans (ha101 20 (by decide))).trans (ha79 20 (by decide))).trans (ha75 20 (by decide)))
  have hw430 : w399 19 = .inr (7, [.int (4 : Int32), .int (2 : Int32), .ref (ad388 20), .int (0 : Int32)]) := by rw [hw428]; rw [show ad42 20 = ad388 20 from ha429.symm]
  have hw431 : w399 21 = .inr (7, [.int (12 : Int32), .int (3 : Int32), .ref (ad42 22), .int (0 : Int32)]) := (hne401 21 (by decide)).trans ((hfr397 21 (by omega)).trans ((hne383 21 (by decide)).trans ((hne376 21 (by decide)).trans ((hfr372 21 (by omega)).trans ((hne347 21 (by decide)).trans ((hne339 21 (by decide)).trans ((hfr335 21 (by omega)).trans ((hne321 21 (by decide)).trans ((hne314 21 (by decide)).trans ((hfr310 21 (by omega)).trans ((hne285 21 (by decide)).trans ((hne277 21 (by decide)).trans ((hfr273 21 (by omega)).trans ((hne259 21 (by decide)).trans ((hne252 21 (by decide)).trans ((hfr248 21 (by omega)).trans ((hne223 21 (by decide)).trans ((hne215 21 (by decide)).trans ((hfr211 21 (by omega)).trans ((hne197 21 (by decide)).trans ((hne190 21 (by decide)).trans ((hfr186 21 (by omega)).trans ((hne161 21 (by decide)).trans ((hne153 21 (by decide)).trans ((hfr149 21 (by omega)).trans ((hne135 21 (by decide)).trans ((hne128 21 (by decide)).trans ((hfr124 21 (by omega)).trans ((hne99 21 (by decide)).trans ((hne91 21 (by decide)).trans ((hfr87 21 (by omega)).trans ((hne73 21 (by decide)).trans ((hne66 21 (by decide)).trans (hw48))))))))))))))))))))))))))))))))))
  have ha432 : ad388 22 = ad42 22 := ((((((((((((((((((((((ha389 22 (by decide)).trans (ha385 22 (by decide))).trans (ha353 22 (by decide))).trans (ha349 22 (by decide))).trans (ha327 22 (by decide))).trans (ha323 22 (by decide))).trans (ha291 22 (by decide))).trans (ha287 22 (by decide))).trans (ha265 22 (by decide))).trans (ha261 22 (by decide))).trans (ha229 22 (by decide))).trans (ha225 22 (by decide))).trans (ha203 22 (by decide))).trans (ha199 22 (by decide))).trans (ha167 22 (by decide))).trans (ha163 22 (by decide))).trans (ha141 22 (by decide))).trans (ha137 22 (by decide))).trans (ha105 22 (by decide))).trans (ha101 22 (by decide))).trans (ha79 22 (by decide))).trans (ha75 22 (by decide)))
  have hw433 : w399 21 = .inr (7, [.int (12 : Int32), .int (3 : Int32), .ref (ad388 22), .int (0 : Int32)]) := by rw [hw431]; rw [show ad42 22 = ad388 22 from ha432.symm]
  have hw434 : w399 23 = .inr (7, [.int (5 : Int32), .int (3 : Int32), .ref (ad42 24), .int (0 : Int32)]) := (hne401 23 (by decide)).trans ((hfr397 23 (by omega)).trans ((hne383 23 (by decide)).trans ((hne376 23 (by decide)).trans ((hfr372 23 (by omega)).trans ((hne347 23 (by decide)).trans ((hne339 23 (by decide)).trans ((hfr335 23 (by omega)).trans ((hne321 23 (by decide)).trans ((hne314 23 (by decide)).trans ((hfr310 23 (by omega)).trans ((hne285 23 (by decide)).trans ((hne277 23 (by decide)).trans ((hfr273 23 (by omega)).trans ((hne259 23 (by decide)).trans ((hne252 23 (by decide)).trans ((hfr248 23 (by omega)).trans ((hne223 23 (by decide)).trans ((hne215 23 (by decide)).trans ((hfr211 23 (by omega)).trans ((hne197 23 (by decide)).trans ((hne190 23 (by decide)).trans ((hfr186 23 (by omega)).trans ((hne161 23 (by decide)).trans ((hne153 23 (by decide)).trans ((hfr149 23 (by omega)).trans ((hne135 23 (by decide)).trans ((hne128 23 (by decide)).trans ((hfr124 23 (by omega)).trans ((hne99 23 (by decide)).trans ((hne91 23 (by decide)).trans ((hfr87 23 (by omega)).trans ((hne73 23 (by decide)).trans ((hne66 23 (by decide)).trans (hw50))))))))))))))))))))))))))))))))))
  have ha435 : ad388 24 = ad42 24 := ((((((((((((((((((((((ha389 24 (by decide)).trans (ha385 24 (by decide))).trans (ha353 24 (by decide))).trans (ha349 24 (by decide))).trans (ha327 24 (by decide))).trans (ha323 24 (by decide))).trans (ha291 24 (by decide))).trans (ha287 24 (by decide))).trans (ha265 24 (by decide))).trans (ha261 24 (by decide))).trans (ha229 24 (by decide))).trans (ha225 24 (by decide))).trans (ha203 24 (by decide))).trans (ha199 24 (by decide))).trans (ha167 24 (by decide))).trans (ha163 24 (by decide))).trans (ha141 24 (by decide))).trans (ha137 24 (by decide))).trans (ha105 24 (by decide))).trans (ha101 24 (by decide))).trans (ha79 24 (by decide))).trans (ha75 24 (by decide)))
  have hw436 : w399 23 = .inr (7, [.int (5 : Int32), .int (3 : Int32), .ref (ad388 24), .int (0 : Int32)]) := by rw [hw434]; rw [show ad42 24 = ad388 24 from ha435.symm]
  have hw437 : w399 25 = .inr (7, [.int (4 : Int32), .int (2 : Int32), .ref (ad42 26), .int (0 : Int32)]) := (hne401 25 (by decide)).trans ((hfr397 25 (by omega)).trans ((hne383 25 (by decide)).trans ((hne376 25 (by decide)).trans ((hfr372 25 (by omega)).trans ((hne347 25 (by decide)).trans ((hne339 25 (by decide)).trans ((hfr335 25 (by omega)).trans ((hne321 25 (by decide)).trans ((hne314 25 (by decide)).trans ((hfr310 25 (by omega)).trans ((hne285 25 (by decide)).trans ((hne277 25 (by decide)).trans ((hfr273 25 (by omega)).trans ((hne259 25 (by decide)).trans ((hne252 25 (by decide)).trans ((hfr248 25 (by omega)).trans ((hne223 25 (by decide)).trans ((hne215 25 (by decide)).trans ((hfr211 25 (by omega)).trans ((hne197 25 (by decide)).trans ((hne190 25 (by decide)).trans ((hfr186 25 (by omega)).trans ((hne161 25 (by decide)).trans ((hne153 25 (by decide)).trans ((hfr149 25 (by omega)).trans ((hne135 25 (by decide)).trans ((hne128 25 (by decide)).trans ((hfr124 25 (by omega)).trans ((hne99 25 (by decide)).trans ((hne91 25 (by decide)).trans ((hfr87 25 (by omega)).trans ((hne73 25 (by decide)).trans ((hne66 25 (by decide)).trans (hw52))))))))))))))))))))))))))))))))))
  have ha438 : ad388 26 = ad42 26 := ((((((((((((((((((((((ha389 26 (by decide)).trans (ha385 26 (by decide))).trans (ha353 26 (by decide))).trans (ha349 26 (by decide))).trans (ha327 26 (by decide))).trans (ha323 26 (by decide))).trans (ha291 26 (by decide))).trans (ha287 26 (by decide))).trans (ha265 26 (by decide))).trans (ha261 26 (by decide))).trans (ha229 26 (by decide))).trans (ha225 26 (by decide))).trans (ha203 26 (by decide))).trans (ha199 26 (by decide))).trans (ha167 26 (by decide))).trans (ha163 26 (by decide))).trans (ha141 26 (by decide))).trans (ha137 26 (by decide))).trans (ha105 26 (by decide))).trans (ha101 26 (by decide))).trans (ha79 26 (by decide))).trans (ha75 26 (by decide)))
  have hw439 : w399 25 = .inr (7, [.int (4 : Int32), .int (2 : Int32), .ref (ad388 26), .int (0 : Int32)]) := by rw [hw437]; rw [show ad42 26 = ad388 26 from ha438.symm]
  exact tw_nret F hH (fun k hk => ((ha389 k (by omega)).trans ((ha385 k (by omega)).trans ((ha353 k (by omega)).trans ((ha349 k (by omega)).trans ((ha327 k (by omega)).trans ((ha323 k (by omega)).trans ((ha291 k (by omega)).trans ((ha287 k (by omega)).trans ((ha265 k (by omega)).trans ((ha261 k (by omega)).trans ((ha229 k (by omega)).trans ((ha225 k (by omega)).trans ((ha203 k (by omega)).trans ((ha199 k (by omega)).trans ((ha167 k (by omega)).trans ((ha163 k (by omega)).trans ((ha141 k (by omega)).trans ((ha137 k (by omega)).trans ((ha105 k (by omega)).trans ((ha101 k (by omega)).trans ((ha79 k (by omega)).trans ((ha75 k (by omega)).trans ((ha43 k (by omega)).trans ((ha39 k (by omega)).trans ((ha29 k (by omega)).trans ((ha20 k (by omega)).trans (ha11 k (by omega))))))))))))))))))))))))))))) hret hlk (Nat.le_of_ble_eq_true rfl) (Nat.le_of_ble_eq_true rfl) dX2_init_79 (⟨trivial, hw410, hw418, hw419, hw427, hw430, hw433, hw436, hw439, fun k hk => ((hne401 k (by omega)).trans ((hfr397 k (by omega)).trans ((hne383 k (by omega)).trans ((hne376 k (by omega)).trans ((hfr372 k (by omega)).trans ((hne347 k (by omega)).trans ((hne339 k (by omega)).trans ((hfr335 k (by omega)).trans ((hne321 k (by omega)).trans ((hne314 k (by omega)).trans ((hfr310 k (by omega)).trans ((hne285 k (by omega)).trans ((hne277 k (by omega)).trans ((hfr273 k (by omega)).trans ((hne259 k (by omega)).trans ((hne252 k (by omega)).trans ((hfr248 k (by omega)).trans ((hne223 k (by omega)).trans ((hne215 k (by omega)).trans ((hfr211 k (by omega)).trans ((hne197 k (by omega)).trans ((hne190 k (by omega)).trans ((hfr186 k (by omega)).trans ((hne161 k (by omega)).trans ((hne153 k (by omega)).trans ((hfr149 k (by omega)).trans ((hne135 k (by omega)).trans ((hne128 k (by omega)).trans ((hfr124 k (by omega)).trans ((hne99 k (by omega)).trans ((hne91 k (by omega)).trans ((hfr87 k (by omega)).trans ((hne73 k (by omega)).trans ((hne66 k (by omega)).trans ((hfr62 k (by omega)).trans ((hne37 k (by omega)).trans ((hne33 k (by omega)).trans ((hne27 k (by omega)).trans ((hne24 k (by omega)).trans ((hne18 k (by omega)).trans ((hne15 k (by omega)).trans ((hne9 k (by omega)).trans ((hne6 k (by omega)).trans (hne3 k (by omega)))))))))))))))))))))))))))))))))))))))))))))⟩)
set_option maxHeartbeats 4000000 in
set_option maxRecDepth 100000 in
theorem c_X0_init (l : Launch) (G : tw_G) (ad : Nat → Nat) (w : Nat → va_E) (sz : Nat) (hw_156 : w 156 = .inr (0, [.null, .null, .null, .int (0 : Int32), .null])) : Met l yX0_init (tw_ws yX0_init cX0_init 3 none) ({ frames := 2, cells := 64, slots := 1624, locals := 43 }) (tw_Pre G 157 ad w sz [.ref (ad 156), .ref (ad 1)]) (tw_Qn G 157 64 ad (fun u => (True ∧ u.2 156 = .inr (0, [.ref (u.1 1), .ref (u.1 157), .ref (u.1 158), .int (0 : Int32), .ref (u.1 159)]) ∧ u.2 159 = .inr (7, [.int (20 : Int32), .int (4 : Int32), .ref (u.1 160), .int (0 : Int32)]) ∧ ∀ k, k < 156 → u.2 k = w k)) sz) 64 1624 (tw_A 157 ad sz) := by
  refine tw_met (by decide) (Nat.le_of_ble_eq_true rfl) ?_
  intro p e s m args below meth c F hret hlk hin hargs hsz hH ls hl
  have hx := F.1.1
  have hb := F.1.2.1
  have hown := F.1.2.2.2.1
  have hts := F.1.2.2.2.2
  have hl : lv_has ls 3 [(0, .ref (ad 156)), (1, .ref (ad 1))] := hl
  generalize hH0 : s.heap = H at hH ⊢
  refine lv_aload_n hx hb dX0_init_0 rfl (lv_at hl 0 rfl) ?_
  refine tw_objInit F (tw_gl kw_388 rfl) (tw_gl kw_32 rfl) (tw_gl kw_33 rfl) hl.1 ⟨(Nat.le_of_ble_eq_true rfl), (Nat.le_of_ble_eq_true rfl)⟩ (Nat.le_of_ble_eq_true rfl) dX0_init_1 ?_
  refine lv_aload_n hx hb dX0_init_4 rfl (lv_at hl 0 rfl) ?_
  refine lv_aload_n hx hb dX0_init_5 rfl (lv_at hl 1 rfl) ?_
  refine tw_putF (r := 156) F hH kf_RX0_9 kp_X0_0 hin rfl rfl (by decide) hw_156 (Nat.le_of_ble_eq_true rfl) rfl rfl dX0_init_6 (fun H locs w1 hw2 hne3 hH => ?_)
  have hw2 : w1 156 = .inr (0, [.ref (ad 1), .null, .null, .int (0 : Int32), .null]) := hw2
  refine lv_aload_n hx hb dX0_init_9 rfl (lv_at hl 0 rfl) ?_
  refine lv_bipush (v := 10) hx hb dX0_init_10 (by decide) ?_
  refine tw_newq (t := 4) (n' := 10) F hH rfl (tw_gl kw_389 rfl) F.2.1.2.2.1.2.2 (by decide) (Nat.le_of_ble_eq_true rfl) (Nat.le_of_ble_eq_true rfl) (Nat.le_of_ble_eq_true rfl) dX0_init_12 (fun H locs ad7 w4 ha8 hw5 hne6 hH => ?_)
  have hw9 : w4 156 = .inr (0, [.ref (ad 1), .null, .null, .int (0 : Int32), .null]) := (hne6 156 (by decide)).trans (hw2)
  refine tw_putF (r := 156) F hH kf_RX0_17 kp_X0_1 hin rfl (ha8 156 (by decide)) (by decide) hw9 (Nat.le_of_ble_eq_true rfl) rfl rfl dX0_init_15 (fun H locs w10 hw11 hne12 hH => ?_)
  have hw11 : w10 156 = .inr (0, [.ref (ad 1), .ref (ad7 157), .null, .int (0 : Int32), .null]) := hw11
  refine lv_aload_n hx hb dX0_init_18 rfl (lv_at hl 0 rfl) ?_
  refine lv_bipush (v := 10) hx hb dX0_init_19 (by decide) ?_
  refine tw_newa (t := 0) (atype := .int) (ty := .int) (n' := 10) (a0 := (10, .inl (fun _ => 0))) F hH rfl (fun C h => by cases h) (tw_gl kw_47 rfl) rfl (fun _ => rfl) (by decide) (Nat.le_of_ble_eq_true rfl) (Nat.le_of_ble_eq_true rfl) (Nat.le_of_ble_eq_true rfl) dX0_init_21 (fun H locs ad16 w13 ha17 hw14 hne15 hH => ?_)
  have hw18 : w13 156 = .inr (0, [.ref (ad 1), .ref (ad7 157), .null, .int (0 : Int32), .null]) := (hne15 156 (by decide)).trans (hw11)
  refine tw_putF (r := 156) F hH kf_RX0_21 kp_X0_2 hin rfl ((ha17 156 (by decide)).trans (ha8 156 (by decide))) (by decide) hw18 (Nat.le_of_ble_eq_true rfl) rfl rfl dX0_init_23 (fun H locs w19 hw20 hne21 hH => ?_)
  have hw20 : w19 156 = .inr (0, [.ref (ad 1), .ref (ad7 157), .ref (ad16 158), .int (0 : Int32), .null]) := hw20
  refine lv_aload_n hx hb dX0_init_26 rfl (lv_at hl 0 rfl) ?_
  refine tw_new (ci := 7) (T := TX7) F hH rfl iw_X7 tyX7 tyX7_ok (tw_gl kw_391 rfl) (tw_gl kw_55 rfl) (tw_gl kw_4 rfl) kd_X7 (Nat.le_of_ble_eq_true rfl) (Nat.le_of_ble_eq_true rfl) dX0_init_27 (fun H locs ad25 w22 ha26 hw23 hne24 hH => ?_)
  refine lv_dup hx hb dX0_init_30 rfl ?_
  refine lv_bipush (v := 20) hx hb dX0_init_31 (by decide) ?_
  refine lv_iconst (v := 4) hx hb dX0_init_33 (by decide) ?_
  refine tw_calln F hH (tw_runI (r := 159) (As := [.int (20 : Int32), .int (4 : Int32)]) (rest := [.ref (ad25 159), .ref (ad 156)]) F hH (c_X7_init_v2 l G 159 ad25 w22 H.size hw23) (tw_gl kw_392 rfl) km_X7_init (tw_gl kw_57 rfl) rfl rfl rfl ⟨(Nat.le_of_ble_eq_true rfl), (Nat.le_of_ble_eq_true rfl)⟩ rfl hl.1 rfl (Nat.le_of_ble_eq_true rfl) dX0_init_34 ⟨(Nat.le_of_ble_eq_true rfl), (Nat.le_of_ble_eq_true rfl)⟩) (fun ad29 w27 H locs hp28 ha30 _ hH => ?_)
  obtain ⟨-, hw32, hw33, hfr34⟩ := hp28
  have hw35 : w27 156 = .inr (0, [.ref (ad 1), .ref (ad7 157), .ref (ad16 158), .int (0 : Int32), .null]) := (hfr34 156 (by omega)).trans ((hne24 156 (by decide)).trans (hw20))
  have ha39 : ad29 156 = ad 156 := ((((ha30 156 (by decide)).trans (ha26 156 (by decide))).trans (ha17 156 (by decide))).trans (ha8 156 (by decide)))
  refine tw_putF (r := 156) F hH kf_RX0_30 kp_X0_4 hin rfl ha39 (by decide) hw35 (Nat.le_of_ble_eq_true rfl) rfl rfl dX0_init_37 (fun H locs w36 hw37 hne38 hH => ?_)
  have hw37 : w36 156 = .inr (0, [.ref (ad 1), .ref (ad7 157), .ref (ad16 158), .int (0 : Int32), .ref (ad25 159)]) := hw37
  refine lv_iconst (v := 0) hx hb dX0_init_40 (by decide) ?_
  refine lv_istore_n (lv' := [(2, .int (0 : Int32)), (0, .ref (ad 156)), (1, .ref (ad 1))]) hx hb dX0_init_41 rfl hl (by decide) rfl (fun ls hl => ?_)
  refine lv_iload_n hx hb dX0_init_42 rfl (lv_at hl 0 rfl) ?_
  refine lv_bipush (v := 10) hx hb dX0_init_43 (by decide) ?_
  refine lv_icmp_ge (tgt := 67) hx hb dX0_init_45 (by decide) (fun c => absurd c (by decide)) (fun _ => ?_)
  refine lv_aload_n hx hb dX0_init_48 rfl (lv_at hl 1 rfl) ?_
  refine tw_get (r := 156) F hH kf_RX0_17 ha39 (by decide) hw37 rfl dX0_init_49 ?_
  refine lv_iload_n hx hb dX0_init_52 rfl (lv_at hl 0 rfl) ?_
  refine tw_new (ci := 8) (T := TX8) F hH rfl iw_X8 tyX8 tyX8_ok (tw_gl kw_389 rfl) (tw_gl kw_153 rfl) (tw_gl kw_8 rfl) kd_X8 (Nat.le_of_ble_eq_true rfl) (Nat.le_of_ble_eq_true rfl) dX0_init_53 (fun H locs ad44 w41 ha45 hw42 hne43 hH => ?_)
  refine lv_dup hx hb dX0_init_56 rfl ?_
  refine tw_calln F hH (tw_runI (r := 161) (As := []) (rest := [.ref (ad44 161), .int (0 : Int32), .ref (ad7 157)]) F hH (c_X8_init l G 161 ad44 w41 H.size hw42) (tw_gl kw_393 rfl) km_X8_init (tw_gl kw_155 rfl) rfl rfl rfl ⟨(Nat.le_of_ble_eq_true rfl), (Nat.le_of_ble_eq_true rfl)⟩ rfl hl.1 rfl (Nat.le_of_ble_eq_true rfl) dX0_init_57 ⟨(Nat.le_of_ble_eq_true rfl), (Nat.le_of_ble_eq_true rfl)⟩) (fun ad48 w46 H locs hp47 ha49 _ hH => ?_)
  obtain ⟨-, hw51, hw52, hw53, hw54, hw55, hw56, hfr57⟩ := hp47
  have hw58 : w46 157 = .inl (G.2.1 4, 10, .inr (.inr (.inr (.inr (fun _ => none))))) := (hfr57 157 (by omega)).trans ((hne43 157 (by decide)).trans ((hne38 157 (by decide)).trans ((hfr34 157 (by omega)).trans ((hne24 157 (by decide)).trans ((hne21 157 (by decide)).trans ((hne15 157 (by decide)).trans ((hne12 157 (by decide)).trans (hw5))))))))
  have ha62 : ad48 157 = ad7 157 := (((((ha49 157 (by decide)).trans (ha45 157 (by decide))).trans (ha30 157 (by decide))).trans (ha26 157 (by decide))).trans (ha17 157 (by decide)))
  have ha63 : ad48 161 = ad44 161 := (ha49 161 (by decide))
  refine tw_aast (r := 157) (t := 4) (j := 0) (r2 := 161) F hH rfl ha62 (by decide) hw58 rfl ha63 (by decide) hw52 (by decide) (by decide) dX0_init_60 (fun H locs w59 hw60 hne61 hH => ?_)
  refine lv_iinc (v := (1 : Int32)) (lv' := [(2, .int (1 : Int32)), (0, .ref (ad 156)), (1, .ref (ad 1))]) hx hb dX0_init_61 hl (k := 0) rfl (by decide) (by decide) rfl (fun ls hl => ?_)
  refine lv_goto (tgt := 42) hx hb dX0_init_64 (by decide) ?_
  refine lv_iload_n hx hb dX0_init_42 rfl (lv_at hl 0 rfl) ?_
  refine lv_bipush (v := 10) hx hb dX0_init_43 (by decide) ?_
  refine lv_icmp_ge (tgt := 67) hx hb dX0_init_45 (by decide) (fun c => absurd c (by decide)) (fun _ => ?_)
  refine lv_aload_n hx hb dX0_init_48 rfl (lv_at hl 1 rfl) ?_
  have hw65 : w59 156 = .inr (0, [.ref (ad 1), .ref (ad7 157), .ref (ad16 158), .int (0 : Int32), .ref (ad25 159)]) := (hne61 156 (by decide)).trans ((hfr57 156 (by omega)).trans ((hne43 156 (by decide)).trans (hw37)))
  have ha66 : ad48 156 = ad 156 := (((ha49 156 (by decide)).trans (ha45 156 (by decide))).trans ha39)
  refine tw_get (r := 156) F hH kf_RX0_17 ha66 (by decide) hw65 rfl dX0_init_49 ?_
  refine lv_iload_n hx hb dX0_init_52 rfl (lv_at hl 0 rfl) ?_
  refine tw_new (ci := 8) (T := TX8) F hH rfl iw_X8 tyX8 tyX8_ok (tw_gl kw_389 rfl) (tw_gl kw_153 rfl) (tw_gl kw_8 rfl) kd_X8 (Nat.le_of_ble_eq_true rfl) (Nat.le_of_ble_eq_true rfl) dX0_init_53 (fun H locs ad70 w67 ha71 hw68 hne69 hH => ?_)
  refine lv_dup hx hb dX0_init_56 rfl ?_
  refine tw_calln F hH (tw_runI (r := 167) (As := []) (rest := [.ref (ad70 167), .int (1 : Int32), .ref (ad7 157)]) F hH (c_X8_init l G 167 ad70 w67 H.size hw68) (tw_gl kw_393 rfl) km_X8_init (tw_gl kw_155 rfl) rfl rfl rfl ⟨(Nat.le_of_ble_eq_true rfl), (Nat.le_of_ble_eq_true rfl)⟩ rfl hl.1 rfl (Nat.le_of_ble_eq_true rfl) dX0_init_57 ⟨(Nat.le_of_ble_eq_true rfl), (Nat.le_of_ble_eq_true rfl)⟩) (fun ad74 w72 H locs hp73 ha75 _ hH => ?_)
  obtain ⟨-, hw77, hw78, hw79, hw80, hw81, hw82, hfr83⟩ := hp73
  have hw84 : w72 157 = .inl (G.2.1 4, 10, .inr (.inr (.inr (.inr (va_up (fun _ => none) 0 (some (ad44 161))))))) := (hfr83 157 (by omega)).trans ((hne69 157 (by decide)).trans (hw60))
  have ha88 : ad74 157 = ad7 157 := (((ha75 157 (by decide)).trans (ha71 157 (by decide))).trans ha62)
  have ha89 : ad74 167 = ad70 167 := (ha75 167 (by decide))
  refine tw_aast (r := 157) (t := 4) (j := 1) (r2 := 167) F hH rfl ha88 (by decide) hw84 rfl ha89 (by decide) hw78 (by decide) (by decide) dX0_init_60 (fun H locs w85 hw86 hne87 hH => ?_)
  refine lv_iinc (v := (2 : Int32)) (lv' := [(2, .int (2 : Int32)), (0, .ref (ad 156)), (1, .ref (ad 1))]) hx hb dX0_init_61 hl (k := 0) rfl (by decide) (by decide) rfl (fun ls hl => ?_)
  refine lv_goto (tgt := 42) hx hb dX0_init_64 (by decide) ?_
  refine lv_iload_n hx hb dX0_init_42 rfl (lv_at hl 0 rfl) ?_
  refine lv_bipush (v := 10) hx hb dX0_init_43 (by decide) ?_
  refine lv_icmp_ge (tgt := 67) hx hb dX0_init_45 (by decide) (fun c => absurd c (by decide)) (fun _ => ?_)
  refine lv_aload_n hx hb dX0_init_48 rfl (lv_at hl 1 rfl) ?_
  have hw91 : w85 156 = .inr (0, [.ref (ad 1), .ref (ad7 157), .ref (ad16 158), .int (0 : Int32), .ref (ad25 159)]) := (hne87 156 (by decide)).trans ((hfr83 156 (by omega)).trans ((hne69 156 (by decide)).trans (hw65)))
  have ha92 : ad74 156 = ad 156 := (((ha75 156 (by decide)).trans (ha71 156 (by decide))).trans ha66)
  refine tw_get (r := 156) F hH kf_RX0_17 ha92 (by decide) hw91 rfl dX0_init_49 ?_
  refine lv_iload_n hx hb dX0_init_52 rfl (lv_at hl 0 rfl) ?_
  refine tw_new (ci := 8) (T := TX8) F hH rfl iw_X8 tyX8 tyX8_ok (tw_gl kw_389 rfl) (tw_gl kw_153 rfl) (tw_gl kw_8 rfl) kd_X8 (Nat.le_of_ble_eq_true rfl) (Nat.le_of_ble_eq_true rfl) dX0_init_53 (fun H locs ad96 w93 ha97 hw94 hne95 hH => ?_)
  refine lv_dup hx hb dX0_init_56 rfl ?_
  refine tw_calln F hH (tw_runI (r := 173) (As := []) (rest := [.ref (ad96 173), .int (2 : Int32), .ref (ad7 157)]) F hH (c_X8_init l G 173 ad96 w93 H.size hw94) (tw_gl kw_393 rfl) km_X8_init (tw_gl kw_155 rfl) rfl rfl rfl ⟨(Nat.le_of_ble_eq_true rfl), (Nat.le_of_ble_eq_true rfl)⟩ rfl hl.1 rfl (Nat.le_of_ble_eq_true rfl) dX0_init_57 ⟨(Nat.le_of_ble_eq_true rfl), (Nat.le_of_ble_eq_true rfl)⟩) (fun ad100 w98 H locs hp99 ha101 _ hH => ?_)
  obtain ⟨-, hw103, hw104, hw105, hw106, hw107, hw108, hfr109⟩ := hp99
  have hw110 : w98 157 = .inl (G.2.1 4, 10, .inr (.inr (.inr (.inr (va_up (va_up (fun _ => none) 0 (some (ad44 161))) 1 (some (ad70 167))))))) := (hfr109 157 (by omega)).trans ((hne95 157 (by decide)).trans (hw86))
  have ha114 : ad100 157 = ad7 157 := (((ha101 157 (by decide)).trans (ha97 157 (by decide))).trans ha88)
  have ha115 : ad100 173 = ad96 173 := (ha101 173 (by decide))
  refine tw_aast (r := 157) (t := 4) (j := 2) (r2 := 173) F hH rfl ha114 (by decide) hw110 rfl ha115 (by decide) hw104 (by decide) (by decide) dX0_init_60 (fun H locs w111 hw112 hne113 hH => ?_)
  refine lv_iinc (v := (3 : Int32)) (lv' := [(2, .int (3 : Int32)), (0, .ref (ad 156)), (1, .ref (ad 1))]) hx hb dX0_init_61 hl (k := 0) rfl (by decide) (by decide) rfl (fun ls hl => ?_)
  refine lv_goto (tgt := 42) hx hb dX0_init_64 (by decide) ?_
  refine lv_iload_n hx hb dX0_init_42 rfl (lv_at hl 0 rfl) ?_
  refine lv_bipush (v := 10) hx hb dX0_init_43 (by decide) ?_
  refine lv_icmp_ge (tgt := 67) hx hb dX0_init_45 (by decide) (fun c => absurd c (by decide)) (fun _ => ?_)
  refine lv_aload_n hx hb dX0_init_48 rfl (lv_at hl 1 rfl) ?_
  have hw117 : w111 156 = .inr (0, [.ref (ad 1), .ref (ad7 157), .ref (ad16 158), .int (0 : Int32), .ref (ad25 159)]) := (hne113 156 (by decide)).trans ((hfr109 156 (by omega)).trans ((hne95 156 (by decide)).trans (hw91)))
  have ha118 : ad100 156 = ad 156 := (((ha101 156 (by decide)).trans (ha97 156 (by decide))).trans ha92)
  refine tw_get (r := 156) F hH kf_RX0_17 ha118 (by decide) hw117 rfl dX0_init_49 ?_
  refine lv_iload_n hx hb dX0_init_52 rfl (lv_at hl 0 rfl) ?_
  refine tw_new (ci := 8) (T := TX8) F hH rfl iw_X8 tyX8 tyX8_ok (tw_gl kw_389 rfl) (tw_gl kw_153 rfl) (tw_gl kw_8 rfl) kd_X8 (Nat.le_of_ble_eq_true rfl) (Nat.le_of_ble_eq_true rfl) dX0_init_53 (fun H locs ad122 w119 ha123 hw120 hne121 hH => ?_)
  refine lv_dup hx hb dX0_init_56 rfl ?_
  refine tw_calln F hH (tw_runI (r := 179) (As := []) (rest := [.ref (ad122 179), .int (3 : Int32), .ref (ad7 157)]) F hH (c_X8_init l G 179 ad122 w119 H.size hw120) (tw_gl kw_393 rfl) km_X8_init (tw_gl kw_155 rfl) rfl rfl rfl ⟨(Nat.le_of_ble_eq_true rfl), (Nat.le_of_ble_eq_true rfl)⟩ rfl hl.1 rfl (Nat.le_of_ble_eq_true rfl) dX0_init_57 ⟨(Nat.le_of_ble_eq_true rfl), (Nat.le_of_ble_eq_true rfl)⟩) (fun ad126 w124 H locs hp125 ha127 _ hH => ?_)
  obtain ⟨-, hw129, hw130, hw131, hw132, hw133, hw134, hfr135⟩ := hp125
  have hw136 : w124 157 = .inl (G.2.1 4, 10, .inr (.inr (.inr (.inr (va_up (va_up (va_up (fun _ => none) 0 (some (ad44 161))) 1 (some (ad70 167))) 2 (some (ad96 173))))))) := (hfr135 157 (by omega)).trans ((hne121 157 (by decide)).trans (hw112))
  have ha140 : ad126 157 = ad7 157 := (((ha127 157 (by decide)).trans (ha123 157 (by decide))).trans ha114)
  have ha141 : ad126 179 = ad122 179 := (ha127 179 (by decide))
  refine tw_aast (r := 157) (t := 4) (j := 3) (r2 := 179) F hH rfl ha140 (by decide) hw136 rfl ha141 (by decide) hw130 (by decide) (by decide) dX0_init_60 (fun H locs w137 hw138 hne139 hH => ?_)
  refine lv_iinc (v := (4 : Int32)) (lv' := [(2, .int (4 : Int32)), (0, .ref (ad 156)), (1, .ref (ad 1))]) hx hb dX0_init_61 hl (k := 0) rfl (by decide) (by decide) rfl (fun ls hl => ?_)
  refine lv_goto (tgt := 42) hx hb dX0_init_64 (by decide) ?_
  refine lv_iload_n hx hb dX0_init_42 rfl (lv_at hl 0 rfl) ?_
  refine lv_bipush (v := 10) hx hb dX0_init_43 (by decide) ?_
  refine lv_icmp_ge (tgt := 67) hx hb dX0_init_45 (by decide) (fun c => absurd c (by decide)) (fun _ => ?_)
  refine lv_aload_n hx hb dX0_init_48 rfl (lv_at hl 1 rfl) ?_
  have hw143 : w137 156 = .inr (0, [.ref (ad 1), .ref (ad7 157), .ref (ad16 158), .int (0 : Int32), .ref (ad25 159)]) := (hne139 156 (by decide)).trans ((hfr135 156 (by omega)).trans ((hne121 156 (by decide)).trans (hw117)))
  have ha144 : ad126 156 = ad 156 := (((ha127 156 (by decide)).trans (ha123 156 (by decide))).trans ha118)
  refine tw_get (r := 156) F hH kf_RX0_17 ha144 (by decide) hw143 rfl dX0_init_49 ?_
  refine lv_iload_n hx hb dX0_init_52 rfl (lv_at hl 0 rfl) ?_
  refine tw_new (ci := 8) (T := TX8) F hH rfl iw_X8 tyX8 tyX8_ok (tw_gl kw_389 rfl) (tw_gl kw_153 rfl) (tw_gl kw_8 rfl) kd_X8 (Nat.le_of_ble_eq_true rfl) (Nat.le_of_ble_eq_true rfl) dX0_init_53 (fun H locs ad148 w145 ha149 hw146 hne147 hH => ?_)
  refine lv_dup hx hb dX0_init_56 rfl ?_
  refine tw_calln F hH (tw_runI (r := 185) (As := []) (rest := [.ref (ad148 185), .int (4 : Int32), .ref (ad7 157)]) F hH (c_X8_init l G 185 ad148 w145 H.size hw146) (tw_gl kw_393 rfl) km_X8_init (tw_gl kw_155 rfl) rfl rfl rfl ⟨(Nat.le_of_ble_eq_true rfl), (Nat.le_of_ble_eq_true rfl)⟩ rfl hl.1 rfl (Nat.le_of_ble_eq_true rfl) dX0_init_57 ⟨(Nat.le_of_ble_eq_true rfl), (Nat.le_of_ble_eq_true rfl)⟩) (fun ad152 w150 H locs hp151 ha153 _ hH => ?_)
  obtain ⟨-, hw155, hw156, hw157, hw158, hw159, hw160, hfr161⟩ := hp151
  have hw162 : w150 157 = .inl (G.2.1 4, 10, .inr (.inr (.inr (.inr (va_up (va_up (va_up (va_up (fun _ => none) 0 (some (ad44 161))) 1 (some (ad70 167))) 2 (some (ad96 173))) 3 (some (ad122 179))))))) := (hfr161 157 (by omega)).trans ((hne147 157 (by decide)).trans (hw138))
  have ha166 : ad152 157 = ad7 157 := (((ha153 157 (by decide)).trans (ha149 157 (by decide))).trans ha140)
  have ha167 : ad152 185 = ad148 185 := (ha153 185 (by decide))
  refine tw_aast (r := 157) (t := 4) (j := 4) (r2 := 185) F hH rfl ha166 (by decide) hw162 rfl ha167 (by decide) hw156 (by decide) (by decide) dX0_init_60 (fun H locs w163 hw164 hne165 hH => ?_)
  refine lv_iinc (v := (5 : Int32)) (lv' := [(2, .int (5 : Int32)), (0, .ref (ad 156)), (1, .ref (ad 1))]) hx hb dX0_init_61 hl (k := 0) rfl (by decide) (by decide) rfl (fun ls hl => ?_)
  refine lv_goto (tgt := 42) hx hb dX0_init_64 (by decide) ?_
  refine lv_iload_n hx hb dX0_init_42 rfl (lv_at hl 0 rfl) ?_
  refine lv_bipush (v := 10) hx hb dX0_init_43 (by decide) ?_
  refine lv_icmp_ge (tgt := 67) hx hb dX0_init_45 (by decide) (fun c => absurd c (by decide)) (fun _ => ?_)
  refine lv_aload_n hx hb dX0_init_48 rfl (lv_at hl 1 rfl) ?_
  have hw169 : w163 156 = .inr (0, [.ref (ad 1), .ref (ad7 157), .ref (ad16 158), .int (0 : Int32), .ref (ad25 159)]) := (hne165 156 (by decide)).trans ((hfr161 156 (by omega)).trans ((hne147 156 (by decide)).trans (hw143)))
  have ha170 : ad152 156 = ad 156 := (((ha153 156 (by decide)).trans (ha149 156 (by decide))).trans ha144)
  refine tw_get (r := 156) F hH kf_RX0_17 ha170 (by decide) hw169 rfl dX0_init_49 ?_
  refine lv_iload_n hx hb dX0_init_52 rfl (lv_at hl 0 rfl) ?_
  refine tw_new (ci := 8) (T := TX8) F hH rfl iw_X8 tyX8 tyX8_ok (tw_gl kw_389 rfl) (tw_gl kw_153 rfl) (tw_gl kw_8 rfl) kd_X8 (Nat.le_of_ble_eq_true rfl) (Nat.le_of_ble_eq_true rfl) dX0_init_53 (fun H locs ad174 w171 ha175 hw172 hne173 hH => ?_)
  refine lv_dup hx hb dX0_init_56 rfl ?_
  refine tw_calln F hH (tw_runI (r := 191) (As := []) (rest := [.ref (ad174 191), .int (5 : Int32), .ref (ad7 157)]) F hH (c_X8_init l G 191 ad174 w171 H.size hw172) (tw_gl kw_393 rfl) km_X8_init (tw_gl kw_155 rfl) rfl rfl rfl ⟨(Nat.le_of_ble_eq_true rfl), (Nat.le_of_ble_eq_true rfl)⟩ rfl hl.1 rfl (Nat.le_of_ble_eq_true rfl) dX0_init_57 ⟨(Nat.le_of_ble_eq_true rfl), (Nat.le_of_ble_eq_true rfl)⟩) (fun ad178 w176 H locs hp177 ha179 _ hH => ?_)
  obtain ⟨-, hw181, hw182, hw183, hw184, hw185, hw186, hfr187⟩ := hp177
  have hw188 : w176 157 = .inl (G.2.1 4, 10, .inr (.inr (.inr (.inr (va_up (va_up (va_up (va_up (va_up (fun _ => none) 0 (some (ad44 161))) 1 (some (ad70 167))) 2 (some (ad96 173))) 3 (some (ad122 179))) 4 (some (ad148 185))))))) := (hfr187 157 (by omega)).trans ((hne173 157 (by decide)).trans (hw164))
  have ha192 : ad178 157 = ad7 157 := (((ha179 157 (by decide)).trans (ha175 157 (by decide))).trans ha166)
  have ha193 : ad178 191 = ad174 191 := (ha179 191 (by decide))
  refine tw_aast (r := 157) (t := 4) (j := 5) (r2 := 191) F hH rfl ha192 (by decide) hw188 rfl ha193 (by decide) hw182 (by decide) (by decide) dX0_init_60 (fun H locs w189 hw190 hne191 hH => ?_)
  refine lv_iinc (v := (6 : Int32)) (lv' := [(2, .int (6 : Int32)), (0, .ref (ad 156)), (1, .ref (ad 1))]) hx hb dX0_init_61 hl (k := 0) rfl (by decide) (by decide) rfl (fun ls hl => ?_)
  refine lv_goto (tgt := 42) hx hb dX0_init_64 (by decide) ?_
  refine lv_iload_n hx hb dX0_init_42 rfl (lv_at hl 0 rfl) ?_
  refine lv_bipush (v := 10) hx hb dX0_init_43 (by decide) ?_
  refine lv_icmp_ge (tgt := 67) hx hb dX0_init_45 (by decide) (fun c => absurd c (by decide)) (fun _ => ?_)
  refine lv_aload_n hx hb dX0_init_48 rfl (lv_at hl 1 rfl) ?_
  have hw195 : w189 156 = .inr (0, [.ref (ad 1), .ref (ad7 157), .ref (ad16 158), .int (0 : Int32), .ref (ad25 159)]) := (hne191 156 (by decide)).trans ((hfr187 156 (by omega)).trans ((hne173 156 (by decide)).trans (hw169)))
  have ha196 : ad178 156 = ad 156 := (((ha179 156 (by decide)).trans (ha175 156 (by decide))).trans ha170)
  refine tw_get (r := 156) F hH kf_RX0_17 ha196 (by decide) hw195 rfl dX0_init_49 ?_
  refine lv_iload_n hx hb dX0_init_52 rfl (lv_at hl 0 rfl) ?_
  refine tw_new (ci := 8) (T := TX8) F hH rfl iw_X8 tyX8 tyX8_ok (tw_gl kw_389 rfl) (tw_gl kw_153 rfl) (tw_gl kw_8 rfl) kd_X8 (Nat.le_of_ble_eq_true rfl) (Nat.le_of_ble_eq_true rfl) dX0_init_53 (fun H locs ad200 w197 ha201 hw198 hne199 hH => ?_)
  refine lv_dup hx hb dX0_init_56 rfl ?_
  refine tw_calln F hH (tw_runI (r := 197) (As := []) (rest := [.ref (ad200 197), .int (6 : Int32), .ref (ad7 157)]) F hH (c_X8_init l G 197 ad200 w197 H.size hw198) (tw_gl kw_393 rfl) km_X8_init (tw_gl kw_155 rfl) rfl rfl rfl ⟨(Nat.le_of_ble_eq_true rfl), (Nat.le_of_ble_eq_true rfl)⟩ rfl hl.1 rfl (Nat.le_of_ble_eq_true rfl) dX0_init_57 ⟨(Nat.le_of_ble_eq_true rfl), (Nat.le_of_ble_eq_true rfl)⟩) (fun ad204 w202 H locs hp203 ha205 _ hH => ?_)
  obtain ⟨-, hw207, hw208, hw209, hw210, hw211, hw212, hfr213⟩ := hp203
  have hw214 : w202 157 = .inl (G.2.1 4, 10, .inr (.inr (.inr (.inr (va_up (va_up (va_up (va_up (va_up (va_up (fun _ => none) 0 (some (ad44 161))) 1 (some (ad70 167))) 2 (some (ad96 173))) 3 (some (ad122 179))) 4 (some (ad148 185))) 5 (some (ad174 191))))))) := (hfr213 157 (by omega)).trans ((hne199 157 (by decide)).trans (hw190))
  have ha218 : ad204 157 = ad7 157 := (((ha205 157 (by decide)).trans (ha201 157 (by decide))).trans ha192)
  have ha219 : ad204 197 = ad200 197 := (ha205 197 (by decide))
  refine tw_aast (r := 157) (t := 4) (j := 6) (r2 := 197) F hH rfl ha218 (by decide) hw214 rfl ha219 (by decide) hw208 (by decide) (by decide) dX0_init_60 (fun H locs w215 hw216 hne217 hH => ?_)
  refine lv_iinc (v := (7 : Int32)) (lv' := [(2, .int (7 : Int32)), (0, .ref (ad 156)), (1, .ref (ad 1))]) hx hb dX0_init_61 hl (k := 0) rfl (by decide) (by decide) rfl (fun ls hl => ?_)
  refine lv_goto (tgt := 42) hx hb dX0_init_64 (by decide) ?_
  refine lv_iload_n hx hb dX0_init_42 rfl (lv_at hl 0 rfl) ?_
  refine lv_bipush (v := 10) hx hb dX0_init_43 (by decide) ?_
  refine lv_icmp_ge (tgt := 67) hx hb dX0_init_45 (by decide) (fun c => absurd c (by decide)) (fun _ => ?_)
  refine lv_aload_n hx hb dX0_init_48 rfl (lv_at hl 1 rfl) ?_
  have hw221 : w215 156 = .inr (0, [.ref (ad 1), .ref (ad7 157), .ref (ad16 158), .int (0 : Int32), .ref (ad25 159)]) := (hne217 156 (by decide)).trans ((hfr213 156 (by omega)).trans ((hne199 156 (by decide)).trans (hw195)))
  have ha222 : ad204 156 = ad 156 := (((ha205 156 (by decide)).trans (ha201 156 (by decide))).trans ha196)
  refine tw_get (r := 156) F hH kf_RX0_17 ha222 (by decide) hw221 rfl dX0_init_49 ?_
  refine lv_iload_n hx hb dX0_init_52 rfl (lv_at hl 0 rfl) ?_
  refine tw_new (ci := 8) (T := TX8) F hH rfl iw_X8 tyX8 tyX8_ok (tw_gl kw_389 rfl) (tw_gl kw_153 rfl) (tw_gl kw_8 rfl) kd_X8 (Nat.le_of_ble_eq_true rfl) (Nat.le_of_ble_eq_true rfl) dX0_init_53 (fun H locs ad226 w223 ha227 hw224 hne225 hH => ?_)
  refine lv_dup hx hb dX0_init_56 rfl ?_
  refine tw_calln F hH (tw_runI (r := 203) (As := []) (rest := [.ref (ad226 203), .int (7 : Int32), .ref (ad7 157)]) F hH (c_X8_init l G 203 ad226 w223 H.size hw224) (tw_gl kw_393 rfl) km_X8_init (tw_gl kw_155 rfl) rfl rfl rfl ⟨(Nat.le_of_ble_eq_true rfl), (Nat.le_of_ble_eq_true rfl)⟩ rfl hl.1 rfl (Nat.le_of_ble_eq_true rfl) dX0_init_57 ⟨(Nat.le_of_ble_eq_true rfl), (Nat.le_of_ble_eq_true rfl)⟩) (fun ad230 w228 H locs hp229 ha231 _ hH => ?_)
  obtain ⟨-, hw233, hw234, hw235, hw236, hw237, hw238, hfr239⟩ := hp229
  have hw240 : w228 157 = .inl (G.2.1 4, 10, .inr (.inr (.inr (.inr (va_up (va_up (va_up (va_up (va_up (va_up (va_up (fun _ => none) 0 (some (ad44 161))) 1 (some (ad70 167))) 2 (some (ad96 173))) 3 (some (ad122 179))) 4 (some (ad148 185))) 5 (some (ad174 191))) 6 (some (ad200 197))))))) := (hfr239 157 (by omega)).trans ((hne225 157 (by decide)).trans (hw216))
  have ha244 : ad230 157 = ad7 157 := (((ha231 157 (by decide)).trans (ha227 157 (by decide))).trans ha218)
  have ha245 : ad230 203 = ad226 203 := (ha231 203 (by decide))
  refine tw_aast (r := 157) (t := 4) (j := 7) (r2 := 203) F hH rfl ha244 (by decide) hw240 rfl ha245 (by decide) hw234 (by decide) (by decide) dX0_init_60 (fun H locs w241 hw242 hne243 hH => ?_)
  refine lv_iinc (v := (8 : Int32)) (lv' := [(2, .int (8 : Int32)), (0, .ref (ad 156)), (1, .ref (ad 1))]) hx hb dX0_init_61 hl (k := 0) rfl (by decide) (by decide) rfl (fun ls hl => ?_)
  refine lv_goto (tgt := 42) hx hb dX0_init_64 (by decide) ?_
  refine lv_iload_n hx hb dX0_init_42 rfl (lv_at hl 0 rfl) ?_
  refine lv_bipush (v := 10) hx hb dX0_init_43 (by decide) ?_
  refine lv_icmp_ge (tgt := 67) hx hb dX0_init_45 (by decide) (fun c => absurd c (by decide)) (fun _ => ?_)
  refine lv_aload_n hx hb dX0_init_48 rfl (lv_at hl 1 rfl) ?_
  have hw247 : w241 156 = .inr (0, [.ref (ad 1), .ref (ad7 157), .ref (ad16 158), .int (0 : Int32), .ref (ad25 159)]) := (hne243 156 (by decide)).trans ((hfr239 156 (by omega)).trans ((hne225 156 (by decide)).trans (hw221)))
  have ha248 : ad230 156 = ad 156 := (((ha231 156 (by decide)).trans (ha227 156 (by decide))).trans ha222)
  refine tw_get (r := 156) F hH kf_RX0_17 ha248 (by decide) hw247 rfl dX0_init_49 ?_
  refine lv_iload_n hx hb dX0_init_52 rfl (lv_at hl 0 rfl) ?_
  refine tw_new (ci := 8) (T := TX8) F hH rfl iw_X8 tyX8 tyX8_ok (tw_gl kw_389 rfl) (tw_gl kw_153 rfl) (tw_gl kw_8 rfl) kd_X8 (Nat.le_of_ble_eq_true rfl) (Nat.le_of_ble_eq_true rfl) dX0_init_53 (fun H locs ad252 w249 ha253 hw250 hne251 hH => ?_)
  refine lv_dup hx hb dX0_init_56 rfl ?_
  refine tw_calln F hH (tw_runI (r := 209) (As := []) (rest := [.ref (ad252 209), .int (8 : Int32), .ref (ad7 157)]) F hH (c_X8_init l G 209 ad252 w249 H.size hw250) (tw_gl kw_393 rfl) km_X8_init (tw_gl kw_155 rfl) rfl rfl rfl ⟨(Nat.le_of_ble_eq_true rfl), (Nat.le_of_ble_eq_true rfl)⟩ rfl hl.1 rfl (Nat.le_of_ble_eq_true rfl) dX0_init_57 ⟨(Nat.le_of_ble_eq_true rfl), (Nat.le_of_ble_eq_true rfl)⟩) (fun ad256 w254 H locs hp255 ha257 _ hH => ?_)
  obtain ⟨-, hw259, hw260, hw261, hw262, hw263, hw264, hfr265⟩ := hp255
  have hw266 : w254 157 = .inl (G.2.1 4, 10, .inr (.inr (.inr (.inr (va_up (va_up (va_up (va_up (va_up (va_up (va_up (va_up (fun _ => none) 0 (some (ad44 161))) 1 (some (ad70 167))) 2 (some (ad96 173))) 3 (some (ad122 179))) 4 (some (ad148 185))) 5 (some (ad174 191))) 6 (some (ad200 197))) 7 (some (ad226 203))))))) := (hfr265 157 (by omega)).trans ((hne251 157 (by decide)).trans (hw242))
  have ha270 : ad256 157 = ad7 157 := (((ha257 157 (by decide)).trans (ha253 157 (by decide))).trans ha244)
  have ha271 : ad256 209 = ad252 209 := (ha257 209 (by decide))
  refine tw_aast (r := 157) (t := 4) (j := 8) (r2 := 209) F hH rfl ha270 (by decide) hw266 rfl ha271 (by decide) hw260 (by decide) (by decide) dX0_init_60 (fun H locs w267 hw268 hne269 hH => ?_)
  refine lv_iinc (v := (9 : Int32)) (lv' := [(2, .int (9 : Int32)), (0, .ref (ad 156)), (1, .ref (ad 1))]) hx hb dX0_init_61 hl (k := 0) rfl (by decide) (by decide) rfl (fun ls hl => ?_)
  refine lv_goto (tgt := 42) hx hb dX0_init_64 (by decide) ?_
  refine lv_iload_n hx hb dX0_init_42 rfl (lv_at hl 0 rfl) ?_
  refine lv_bipush (v := 10) hx hb dX0_init_43 (by decide) ?_
  refine lv_icmp_ge (tgt := 67) hx hb dX0_init_45 (by decide) (fun c => absurd c (by decide)) (fun _ => ?_)
  refine lv_aload_n hx hb dX0_init_48 rfl (lv_at hl 1 rfl) ?_
  have hw273 : w267 156 = .inr (0, [.ref (ad 1), .ref (ad7 157), .ref (ad16 158), .int (0 : Int32), .ref (ad25 159)]) := (hne269 156 (by decide)).trans ((hfr265 156 (by omega)).trans ((hne251 156 (by decide)).trans (hw247)))
  have ha274 : ad256 156 = ad 156 := (((ha257 156 (by decide)).trans (ha253 156 (by decide))).trans ha248)
  refine tw_get (r := 156) F hH kf_RX0_17 ha274 (by decide) hw273 rfl dX0_init_49 ?_
  refine lv_iload_n hx hb dX0_init_52 rfl (lv_at hl 0 rfl) ?_
  refine tw_new (ci := 8) (T := TX8) F hH rfl iw_X8 tyX8 tyX8_ok (tw_gl kw_389 rfl) (tw_gl kw_153 rfl) (tw_gl kw_8 rfl) kd_X8 (Nat.le_of_ble_eq_true rfl) (Nat.le_of_ble_eq_true rfl) dX0_init_53 (fun H locs ad278 w275 ha279 hw276 hne277 hH => ?_)
  refine lv_dup hx hb dX0_init_56 rfl ?_
  refine tw_calln F hH (tw_runI (r := 215) (As := []) (rest := [.ref (ad278 215), .int (9 : Int32), .ref (ad7 157)]) F hH (c_X8_init l G 215 ad278 w275 H.size hw276) (tw_gl kw_393 rfl) km_X8_init (tw_gl kw_155 rfl) rfl rfl rfl ⟨(Nat.le_of_ble_eq_true rfl), (Nat.le_of_ble_eq_true rfl)⟩ rfl hl.1 rfl (Nat.le_of_ble_eq_true rfl) dX0_init_57 ⟨(Nat.le_of_ble_eq_true rfl), (Nat.le_of_ble_eq_true rfl)⟩) (fun ad282 w280 H locs hp281 ha283 _ hH => ?_)
  obtain ⟨-, hw285, hw286, hw287, hw288, hw289, hw290, hfr291⟩ := hp281
  have hw292 : w280 157 = .inl (G.2.1 4, 10, .inr (.inr (.inr (.inr (va_up (va_up (va_up (va_up (va_up (va_up (va_up (va_up (va_up (fun _ => none) 0 (some (ad44 161))) 1 (some (ad70 167))) 2 (some (ad96 173))) 3 (some (ad122 179))) 4 (some (ad148 185))) 5 (some (ad174 191))) 6 (some (ad200 197))) 7 (some (ad226 203))) 8 (some (ad252 209))))))) := (hfr291 157 (by omega)).trans ((hne277 157 (by decide)).trans (hw268))
  have ha296 : ad282 157 = ad7 157 := (((ha283 157 (by decide)).trans (ha279 157 (by decide))).trans ha270)
  have ha297 : ad282 215 = ad278 215 := (ha283 215 (by decide))
  refine tw_aast (r := 157) (t := 4) (j := 9) (r2 := 215) F hH rfl ha296 (by decide) hw292 rfl ha297 (by decide) hw286 (by decide) (by decide) dX0_init_60 (fun H locs w293 hw294 hne295 hH => ?_)
  refine lv_iinc (v := (10 : Int32)) (lv' := [(2, .int (10 : Int32)), (0, .ref (ad 156)), (1, .ref (ad 1))]) hx hb dX0_init_61 hl (k := 0) rfl (by decide) (by decide) rfl (fun ls hl => ?_)
  refine lv_goto (tgt := 42) hx hb dX0_init_64 (by decide) ?_
  refine lv_iload_n hx hb dX0_init_42 rfl (lv_at hl 0 rfl) ?_
  refine lv_bipush (v := 10) hx hb dX0_init_43 (by decide) ?_
  refine lv_icmp_ge (tgt := 67) hx hb dX0_init_45 (by decide) (fun _ => ?_) (fun c => absurd c (by decide))
  have hw299 : w293 156 = .inr (0, [.ref (ad 1), .ref (ad7 157), .ref (ad16 158), .int (0 : Int32), .ref (ad25 159)]) := (hne295 156 (by decide)).trans ((hfr291 156 (by omega)).trans ((hne277 156 (by decide)).trans (hw273)))
  have ha300 : ad282 1 = ad 1 := ((((((((((((((((((((((((ha283 1 (by decide)).trans (ha279 1 (by decide))).trans (ha257 1 (by decide))).trans (ha253 1 (by decide))).trans (ha231 1 (by decide))).trans (ha227 1 (by decide))).trans (ha205 1 (by decide))).trans (ha201 1 (by decide))).trans (ha179 1 (by decide))).trans (ha175 1 (by decide))).trans (ha153 1 (by decide))).trans (ha149 1 (by decide))).trans (ha127 1 (by decide))).trans (ha123 1 (by decide))).trans (ha101 1 (by decide))).trans (ha97 1 (by decide))).trans (ha75 1 (by decide))).trans (ha71 1 (by decide))).trans (ha49 1 (by decide))).trans (ha45 1 (by decide))).trans (ha30 1 (by decide))).trans (ha26 1 (by decide))).trans (ha17 1 (by decide))).trans (ha8 1 (by decide)))
  have ha301 : ad282 158 = ad16 158 := ((((((((((((((((((((((ha283 158 (by decide)).trans (ha279 158 (by decide))).trans (ha257 158 (by decide))).trans (ha253 158 (by decide))).trans (ha231 158 (by decide))).trans (ha227 158 (by decide))).trans (ha205 158 (by decide))).trans (ha201 158 (by decide))).trans (ha179 158 (by decide))).trans (ha175 158 (by decide))).trans (ha153 158 (by decide))).trans (ha149 158 (by decide))).trans (ha127 158 (by decide))).trans (ha123 158 (by decide))).trans (ha101 158 (by decide))).trans (ha97 158 (by decide))).trans (ha75 158 (by decide))).trans (ha71 158 (by decide))).trans (ha49 158 (by decide))).trans (ha45 158 (by decide))).trans (ha30 158 (by decide))).trans (ha26 158 (by decide)))
  have ha302 : ad282 159 = ad25 159 := (((((((((((((((((((((ha283 159 (by decide)).trans (ha279 159 (by decide))).trans (ha257 159 (by decide))).trans (ha253 159 (by decide))).trans (ha231 159 (by decide))).trans (ha227 159 (by decide))).trans (ha205 159 (by decide))).trans (ha201 159 (by decide))).trans (ha179 159 (by decide))).trans (ha175 159 (by decide))).trans (ha153 159 (by decide))).trans (ha149 159 (by decide))).trans (ha127 159 (by decide))).trans (ha123 159 (by decide))).trans (ha101 159 (by decide))).trans (ha97 159 (by decide))).trans (ha75 159 (by decide))).trans (ha71 159 (by decide))).trans (ha49 159 (by decide))).trans (ha45 159 (by decide))).trans (ha30 159 (by decide)))
  have hw303 : w293 156 = .inr (0, [.ref (ad282 1), .ref (ad282 157), .ref (ad282 158), .int (0 : Int32), .ref (ad282 159)]) := by rw [hw299]; rw [show ad 1 = ad282 1 from ha300.symm, show ad7 157 = ad282 157 from ha296.symm, show ad16 158 = ad282 158 from ha301.symm, show ad25 159 = ad282 159 from ha302.symm]
  have hw304 : w293 159 = .inr (7, [.int (20 : Int32), .int (4 : Int32), .ref (ad29 160), .int (0 : Int32)]) := (hne295 159 (by decide)).trans ((hfr291 159 (by omega)).trans ((hne277 159 (by decide)).trans ((hne269 159 (by decide)).trans ((hfr265 159 (by omega)).trans ((hne251 159 (by decide)).trans ((hne243 159 (by decide)).trans ((hfr239 159 (by omega)).trans ((hne225 159 (by decide)).trans ((hne217 159 (by decide)).trans ((hfr213 159 (by omega)).trans ((hne199 159 (by decide)).trans ((hne191 159 (by decide)).trans ((hfr187 159 (by omega)).trans ((hne173 159 (by decide)).trans ((hne165 159 (by decide)).trans ((hfr161 159 (by omega)).trans ((hne147 159 (by decide)).trans ((hne139 159 (by decide)).trans ((hfr135 159 (by omega)).trans ((hne121 159 (by decide)).trans ((hne113 159 (by decide)).trans ((hfr109 159 (by omega)).trans ((hne95 159 (by decide)).trans ((hne87 159 (by decide)).trans ((hfr83 159 (by omega)).trans ((hne69 159 (by decide)).trans ((hne61 159 (by decide)).trans ((hfr57 159 (by omega)).trans ((hne43 159 (by decide)).trans ((hne38 159 (by decide)).trans (hw32)))))))))))))))))))))))))))))))
  have ha305 : ad282 160 = ad29 160 := ((((((((((((((((((((ha283 160 (by decide)).trans (ha279 160 (by decide))).trans (ha257 160 (by decide))).trans (ha253 160 (by decide))).trans (ha231 160 (by decide))).trans (ha227 160 (by decide))).trans (ha205 160 (by decide))).trans (ha201 160 (by decide))).trans (ha179 160 (by decide))).trans (ha175 160 (by decide))).trans (ha153 160 (by decide))).trans (ha149 160 (by decide))).trans (ha127 160 (by decide))).trans (ha123 160 (by decide))).trans (ha101 160 (by decide))).trans (ha97 160 (by decide))).trans (ha75 160 (by decide))).trans (ha71 160 (by decide))).trans (ha49 160 (by decide))).trans (ha45 160 (by decide)))
  have hw306 : w293 159 = .inr (7, [.int (20 : Int32), .int (4 : Int32), .ref (ad282 160), .int (0 : Int32)]) := by rw [hw304]; rw [show ad29 160 = ad282 160 from ha305.symm]
  exact tw_nret F hH (fun k hk => ((ha283 k (by omega)).trans ((ha279 k (by omega)).trans ((ha257 k (by omega)).trans ((ha253 k (by omega)).trans ((ha231 k (by omega)).trans ((ha227 k (by omega)).trans ((ha205 k (by omega)).trans ((ha201 k (by omega)).trans ((ha179 k (by omega)).trans ((ha175 k (by omega)).trans ((ha153 k (by omega)).trans ((ha149 k (by omega)).trans ((ha127 k (by omega)).trans ((ha123 k (by omega)).trans ((ha101 k (by omega)).trans ((ha97 k (by omega)).trans ((ha75 k (by omega)).trans ((ha71 k (by omega)).trans ((ha49 k (by omega)).trans ((ha45 k (by omega)).trans ((ha30 k (by omega)).trans ((ha26 k (by omega)).trans ((ha17 k (by omega)).trans (ha8 k (by omega)))))))))))))))))))))))))) hret hlk (Nat.le_of_ble_eq_true rfl) (Nat.le_of_ble_eq_true rfl) dX0_init_67 (⟨trivial, hw303, hw306, fun k hk => ((hne295 k (by omega)).trans ((hfr291 k (by omega)).trans ((hne277 k (by omega)).trans ((hne269 k (by omega)).trans ((hfr265 k (by omega)).trans ((hne251 k (by omega)).trans ((hne243 k (by omega)).trans ((hfr239 k (by omega)).trans ((hne225 k (by omega)).trans ((hne217 k (by omega)).trans ((hfr213 k (by omega)).trans ((hne199 k (by omega)).trans ((hne191 k (by omega)).trans ((hfr187 k (by omega)).trans ((hne173 k (by omega)).trans ((hne165 k (by omega)).trans ((hfr161 k (by omega)).trans ((hne147 k (by omega)).trans ((hne139 k (by omega)).trans ((hfr135 k (by omega)).trans ((hne121 k (by omega)).trans ((hne113 k (by omega)).trans ((hfr109 k (by omega)).trans ((hne95 k (by omega)).trans ((hne87 k (by omega)).trans ((hfr83 k (by omega)).trans ((hne69 k (by omega)).trans ((hne61 k (by omega)).trans ((hfr57 k (by omega)).trans ((hne43 k (by omega)).trans ((hne38 k (by omega)).trans ((hfr34 k (by omega)).trans ((hne24 k (by omega)).trans ((hne21 k (by omega)).trans ((hne15 k (by omega)).trans ((hne12 k (by omega)).trans ((hne6 k (by omega)).trans (hne3 k (by omega)))))))))))))))))))))))))))))))))))))))⟩)
set_option maxHeartbeats 4000000 in
set_option maxRecDepth 100000 in
theorem c_X5_init (l : Launch) (G : tw_G) (ad : Nat → Nat) (w : Nat → va_E) (sz : Nat) (hw_221 : w 221 = .inr (5, [.null, .null, .null, .null, .null])) : Met l yX5_init (tw_ws yX5_init cX5_init 3 none) ({ frames := 1, cells := 3, slots := 18, locals := 20 }) (tw_Pre G 222 ad w sz [.ref (ad 221), .ref (ad 14), .ref (ad 156)]) (tw_Qn G 222 3 ad (fun u => (True ∧ u.2 221 = .inr (5, [.ref (u.1 14), .ref (u.1 156), .ref (u.1 222), .ref (u.1 223), .ref (u.1 224)]) ∧ ∀ k, k < 221 → u.2 k = w k)) sz) 3 18 (tw_A 222 ad sz) := by
  refine tw_met (by decide) (Nat.le_of_ble_eq_true rfl) ?_
  intro p e s m args below meth c F hret hlk hin hargs hsz hH ls hl
  have hx := F.1.1
  have hb := F.1.2.1
  have hown := F.1.2.2.2.1
  have hts := F.1.2.2.2.2
  have hl : lv_has ls 3 [(0, .ref (ad 221)), (1, .ref (ad 14)), (2, .ref (ad 156))] := hl
  generalize hH0 : s.heap = H at hH ⊢
  refine lv_aload_n hx hb dX5_init_0 rfl (lv_at hl 0 rfl) ?_
  refine tw_objInit F (tw_gl kw_417 rfl) (tw_gl kw_32 rfl) (tw_gl kw_33 rfl) hl.1 ⟨(Nat.le_of_ble_eq_true rfl), (Nat.le_of_ble_eq_true rfl)⟩ (Nat.le_of_ble_eq_true rfl) dX5_init_1 ?_
  refine lv_aload_n hx hb dX5_init_4 rfl (lv_at hl 0 rfl) ?_
  refine lv_aload_n hx hb dX5_init_5 rfl (lv_at hl 1 rfl) ?_
  refine tw_putF (r := 221) F hH kf_RX5_9 kp_X5_0 hin rfl rfl (by decide) hw_221 (Nat.le_of_ble_eq_true rfl) rfl rfl dX5_init_6 (fun H locs w1 hw2 hne3 hH => ?_)
  have hw2 : w1 221 = .inr (5, [.ref (ad 14), .null, .null, .null, .null]) := hw2
  refine lv_aload_n hx hb dX5_init_9 rfl (lv_at hl 0 rfl) ?_
  refine lv_aload_n hx hb dX5_init_10 rfl (lv_at hl 2 rfl) ?_
  refine tw_putF (r := 221) F hH kf_RX5_15 kp_X5_1 hin rfl rfl (by decide) hw2 (Nat.le_of_ble_eq_true rfl) rfl rfl dX5_init_11 (fun H locs w4 hw5 hne6 hH => ?_)
  have hw5 : w4 221 = .inr (5, [.ref (ad 14), .ref (ad 156), .null, .null, .null]) := hw5
  refine lv_aload_n hx hb dX5_init_14 rfl (lv_at hl 0 rfl) ?_
  refine lv_bipush (v := 6) hx hb dX5_init_15 (by decide) ?_
  refine tw_newa (t := 1) (atype := .boolean) (ty := .boolean) (n' := 6) (a0 := (6, .inl (fun _ => 0))) F hH rfl (fun C h => by cases h) (tw_gl kw_83 rfl) rfl (fun _ => rfl) (by decide) (Nat.le_of_ble_eq_true rfl) (Nat.le_of_ble_eq_true rfl) (Nat.le_of_ble_eq_true rfl) dX5_init_17 (fun H locs ad10 w7 ha11 hw8 hne9 hH => ?_)
  have hw12 : w7 221 = .inr (5, [.ref (ad 14), .ref (ad 156), .null, .null, .null]) := (hne9 221 (by decide)).trans (hw5)
  refine tw_putF (r := 221) F hH kf_RX5_19 kp_X5_2 hin rfl (ha11 221 (by decide)) (by decide) hw12 (Nat.le_of_ble_eq_true rfl) rfl rfl dX5_init_19 (fun H locs w13 hw14 hne15 hH => ?_)
  have hw14 : w13 221 = .inr (5, [.ref (ad 14), .ref (ad 156), .ref (ad10 222), .null, .null]) := hw14
  refine lv_aload_n hx hb dX5_init_22 rfl (lv_at hl 0 rfl) ?_
  refine lv_bipush (v := 6) hx hb dX5_init_23 (by decide) ?_
  refine tw_newa (t := 0) (atype := .int) (ty := .int) (n' := 6) (a0 := (6, .inl (fun _ => 0))) F hH rfl (fun C h => by cases h) (tw_gl kw_47 rfl) rfl (fun _ => rfl) (by decide) (Nat.le_of_ble_eq_true rfl) (Nat.le_of_ble_eq_true rfl) (Nat.le_of_ble_eq_true rfl) dX5_init_25 (fun H locs ad19 w16 ha20 hw17 hne18 hH => ?_)
  have hw21 : w16 221 = .inr (5, [.ref (ad 14), .ref (ad 156), .ref (ad10 222), .null, .null]) := (hne18 221 (by decide)).trans (hw14)
  refine tw_putF (r := 221) F hH kf_RX5_23 kp_X5_3 hin rfl ((ha20 221 (by decide)).trans (ha11 221 (by decide))) (by decide) hw21 (Nat.le_of_ble_eq_true rfl) rfl rfl dX5_init_27 (fun H locs w22 hw23 hne24 hH => ?_)
  have hw23 : w22 221 = .inr (5, [.ref (ad 14), .ref (ad 156), .ref (ad10 222), .ref (ad19 223), .null]) := hw23
  refine lv_aload_n hx hb dX5_init_30 rfl (lv_at hl 0 rfl) ?_
  refine lv_bipush (v := 6) hx hb dX5_init_31 (by decide) ?_
  refine tw_newa (t := 0) (atype := .int) (ty := .int) (n' := 6) (a0 := (6, .inl (fun _ => 0))) F hH rfl (fun C h => by cases h) (tw_gl kw_47 rfl) rfl (fun _ => rfl) (by decide) (Nat.le_of_ble_eq_true rfl) (Nat.le_of_ble_eq_true rfl) (Nat.le_of_ble_eq_true rfl) dX5_init_33 (fun H locs ad28 w25 ha29 hw26 hne27 hH => ?_)
  have hw30 : w25 221 = .inr (5, [.ref (ad 14), .ref (ad 156), .ref (ad10 222), .ref (ad19 223), .null]) := (hne27 221 (by decide)).trans (hw23)
  refine tw_putF (r := 221) F hH kf_RX5_27 kp_X5_4 hin rfl (((ha29 221 (by decide)).trans (ha20 221 (by decide))).trans (ha11 221 (by decide))) (by decide) hw30 (Nat.le_of_ble_eq_true rfl) rfl rfl dX5_init_35 (fun H locs w31 hw32 hne33 hH => ?_)
  have hw32 : w31 221 = .inr (5, [.ref (ad 14), .ref (ad 156), .ref (ad10 222), .ref (ad19 223), .ref (ad28 224)]) := hw32
  have hw34 : w31 221 = .inr (5, [.ref (ad28 14), .ref (ad28 156), .ref (ad28 222), .ref (ad28 223), .ref (ad28 224)]) := by rw [hw32]; rw [show ad 14 = ad28 14 from (((ha29 14 (by decide)).trans (ha20 14 (by decide))).trans (ha11 14 (by decide))).symm, show ad 156 = ad28 156 from (((ha29 156 (by decide)).trans (ha20 156 (by decide))).trans (ha11 156 (by decide))).symm, show ad10 222 = ad28 222 from ((ha29 222 (by decide)).trans (ha20 222 (by decide))).symm, show ad19 223 = ad28 223 from (ha29 223 (by decide)).symm]
  exact tw_nret F hH (fun k hk => ((ha29 k (by omega)).trans ((ha20 k (by omega)).trans (ha11 k (by omega))))) hret hlk (Nat.le_of_ble_eq_true rfl) (Nat.le_of_ble_eq_true rfl) dX5_init_38 (⟨trivial, hw34, fun k hk => ((hne33 k (by omega)).trans ((hne27 k (by omega)).trans ((hne24 k (by omega)).trans ((hne18 k (by omega)).trans ((hne15 k (by omega)).trans ((hne9 k (by omega)).trans ((hne6 k (by omega)).trans (hne3 k (by omega)))))))))⟩)
set_option maxHeartbeats 4000000 in
set_option maxRecDepth 100000 in
theorem c_X10_init (l : Launch) (G : tw_G) (ad : Nat → Nat) (w : Nat → va_E) (sz : Nat) (hw_225 : w 225 = .inr (10, [.null, .null, .null, .null, .null, .int (0 : Int32), .int (0 : Int32), .null, .null, .null, .null])) : Met l yX10_init (tw_ws yX10_init cX10_init 3 none) ({ frames := 1, cells := 7, slots := 72, locals := 20 }) (tw_Pre G 226 ad w sz [.ref (ad 225), .ref (ad 14), .ref (ad 221)]) (tw_Qn G 226 7 ad (fun u => (True ∧ ∀ k, k < 225 → u.2 k = w k)) sz) 7 72 (tw_A 226 ad sz) := by
  refine tw_met (by decide) (Nat.le_of_ble_eq_true rfl) ?_
  intro p e s m args below meth c F hret hlk hin hargs hsz hH ls hl
  have hx := F.1.1
  have hb := F.1.2.1
  have hown := F.1.2.2.2.1
  have hts := F.1.2.2.2.2
  have hl : lv_has ls 3 [(0, .ref (ad 225)), (1, .ref (ad 14)), (2, .ref (ad 221))] := hl
  generalize hH0 : s.heap = H at hH ⊢
  refine lv_aload_n hx hb dX10_init_0 rfl (lv_at hl 0 rfl) ?_
  refine tw_objInit F (tw_gl kw_441 rfl) (tw_gl kw_32 rfl) (tw_gl kw_33 rfl) hl.1 ⟨(Nat.le_of_ble_eq_true rfl), (Nat.le_of_ble_eq_true rfl)⟩ (Nat.le_of_ble_eq_true rfl) dX10_init_1 ?_
  refine lv_aload_n hx hb dX10_init_4 rfl (lv_at hl 0 rfl) ?_
  refine lv_aload_n hx hb dX10_init_5 rfl (lv_at hl 1 rfl) ?_
  refine tw_putF (r := 225) F hH kf_RX10_9 kp_X10_0 hin rfl rfl (by decide) hw_225 (Nat.le_of_ble_eq_true rfl) rfl rfl dX10_init_6 (fun H locs w1 hw2 hne3 hH => ?_)
  have hw2 : w1 225 = .inr (10, [.ref (ad 14), .null, .null, .null, .null, .int (0 : Int32), .int (0 : Int32), .null, .null, .null, .null]) := hw2
  refine lv_aload_n hx hb dX10_init_9 rfl (lv_at hl 0 rfl) ?_
  refine lv_aload_n hx hb dX10_init_10 rfl (lv_at hl 2 rfl) ?_
  refine tw_putF (r := 225) F hH kf_RX10_15 kp_X10_1 hin rfl rfl (by decide) hw2 (Nat.le_of_ble_eq_true rfl) rfl rfl dX10_init_11 (fun H locs w4 hw5 hne6 hH => ?_)
  have hw5 : w4 225 = .inr (10, [.ref (ad 14), .ref (ad 221), .null, .null, .null, .int (0 : Int32), .int (0 : Int32), .null, .null, .null, .null]) := hw5
  refine lv_aload_n hx hb dX10_init_14 rfl (lv_at hl 0 rfl) ?_
  refine lv_iconst (v := 2) hx hb dX10_init_15 (by decide) ?_
  refine tw_newa (t := 0) (atype := .int) (ty := .int) (n' := 2) (a0 := (2, .inl (fun _ => 0))) F hH rfl (fun C h => by cases h) (tw_gl kw_47 rfl) rfl (fun _ => rfl) (by decide) (Nat.le_of_ble_eq_true rfl) (Nat.le_of_ble_eq_true rfl) (Nat.le_of_ble_eq_true rfl) dX10_init_16 (fun H locs ad10 w7 ha11 hw8 hne9 hH => ?_)
  have hw12 : w7 225 = .inr (10, [.ref (ad 14), .ref (ad 221), .null, .null, .null, .int (0 : Int32), .int (0 : Int32), .null, .null, .null, .null]) := (hne9 225 (by decide)).trans (hw5)
  refine tw_putF (r := 225) F hH kf_RX10_19 kp_X10_2 hin rfl (ha11 225 (by decide)) (by decide) hw12 (Nat.le_of_ble_eq_true rfl) rfl rfl dX10_init_18 (fun H locs w13 hw14 hne15 hH => ?_)
  have hw14 : w13 225 = .inr (10, [.ref (ad 14), .ref (ad 221), .ref (ad10 226), .null, .null, .int (0 : Int32), .int (0 : Int32), .null, .null, .null, .null]) := hw14
  refine lv_aload_n hx hb dX10_init_21 rfl (lv_at hl 0 rfl) ?_
  refine lv_iconst (v := 2) hx hb dX10_init_22 (by decide) ?_
  refine tw_newa (t := 0) (atype := .int) (ty := .int) (n' := 2) (a0 := (2, .inl (fun _ => 0))) F hH rfl (fun C h => by cases h) (tw_gl kw_47 rfl) rfl (fun _ => rfl) (by decide) (Nat.le_of_ble_eq_true rfl) (Nat.le_of_ble_eq_true rfl) (Nat.le_of_ble_eq_true rfl) dX10_init_23 (fun H locs ad19 w16 ha20 hw17 hne18 hH => ?_)
  have hw21 : w16 225 = .inr (10, [.ref (ad 14), .ref (ad 221), .ref (ad10 226), .null, .null, .int (0 : Int32), .int (0 : Int32), .null, .null, .null, .null]) := (hne18 225 (by decide)).trans (hw14)
  refine tw_putF (r := 225) F hH kf_RX10_23 kp_X10_3 hin rfl ((ha20 225 (by decide)).trans (ha11 225 (by decide))) (by decide) hw21 (Nat.le_of_ble_eq_true rfl) rfl rfl dX10_init_25 (fun H locs w22 hw23 hne24 hH => ?_)
  have hw23 : w22 225 = .inr (10, [.ref (ad 14), .ref (ad 221), .ref (ad10 226), .ref (ad19 227), .null, .int (0 : Int32), .int (0 : Int32), .null, .null, .null, .null]) := hw23
  refine lv_aload_n hx hb dX10_init_28 rfl (lv_at hl 0 rfl) ?_
  refine lv_iconst (v := 4) hx hb dX10_init_29 (by decide) ?_
  refine tw_newa (t := 0) (atype := .int) (ty := .int) (n' := 4) (a0 := (4, .inl (fun _ => 0))) F hH rfl (fun C h => by cases h) (tw_gl kw_47 rfl) rfl (fun _ => rfl) (by decide) (Nat.le_of_ble_eq_true rfl) (Nat.le_of_ble_eq_true rfl) (Nat.le_of_ble_eq_true rfl) dX10_init_30 (fun H locs ad28 w25 ha29 hw26 hne27 hH => ?_)
  have hw30 : w25 225 = .inr (10, [.ref (ad 14), .ref (ad 221), .ref (ad10 226), .ref (ad19 227), .null, .int (0 : Int32), .int (0 : Int32), .null, .null, .null, .null]) := (hne27 225 (by decide)).trans (hw23)
  refine tw_putF (r := 225) F hH kf_RX10_26 kp_X10_4 hin rfl (((ha29 225 (by decide)).trans (ha20 225 (by decide))).trans (ha11 225 (by decide))) (by decide) hw30 (Nat.le_of_ble_eq_true rfl) rfl rfl dX10_init_32 (fun H locs w31 hw32 hne33 hH => ?_)
  have hw32 : w31 225 = .inr (10, [.ref (ad 14), .ref (ad 221), .ref (ad10 226), .ref (ad19 227), .ref (ad28 228), .int (0 : Int32), .int (0 : Int32), .null, .null, .null, .null]) := hw32
  refine lv_aload_n hx hb dX10_init_35 rfl (lv_at hl 0 rfl) ?_
  refine lv_bipush (v := 16) hx hb dX10_init_36 (by decide) ?_
  refine tw_newa (t := 0) (atype := .int) (ty := .int) (n' := 16) (a0 := (16, .inl (fun _ => 0))) F hH rfl (fun C h => by cases h) (tw_gl kw_47 rfl) rfl (fun _ => rfl) (by decide) (Nat.le_of_ble_eq_true rfl) (Nat.le_of_ble_eq_true rfl) (Nat.le_of_ble_eq_true rfl) dX10_init_38 (fun H locs ad37 w34 ha38 hw35 hne36 hH => ?_)
  have hw39 : w34 225 = .inr (10, [.ref (ad 14), .ref (ad 221), .ref (ad10 226), .ref (ad19 227), .ref (ad28 228), .int (0 : Int32), .int (0 : Int32), .null, .null, .null, .null]) := (hne36 225 (by decide)).trans (hw32)
  have ha43 : ad37 225 = ad 225 := ((((ha38 225 (by decide)).trans (ha29 225 (by decide))).trans (ha20 225 (by decide))).trans (ha11 225 (by decide)))
  refine tw_putF (r := 225) F hH kf_RX10_29 kp_X10_7 hin rfl ha43 (by decide) hw39 (Nat.le_of_ble_eq_true rfl) rfl rfl dX10_init_40 (fun H locs w40 hw41 hne42 hH => ?_)
  have hw41 : w40 225 = .inr (10, [.ref (ad 14), .ref (ad 221), .ref (ad10 226), .ref (ad19 227), .ref (ad28 228), .int (0 : Int32), .int (0 : Int32), .ref (ad37 229), .null, .null, .null]) := hw41
  refine lv_aload_n hx hb dX10_init_43 rfl (lv_at hl 0 rfl) ?_
  refine lv_bipush (v := 16) hx hb dX10_init_44 (by decide) ?_
  refine tw_newa (t := 0) (atype := .int) (ty := .int) (n' := 16) (a0 := (16, .inl (fun _ => 0))) F hH rfl (fun C h => by cases h) (tw_gl kw_47 rfl) rfl (fun _ => rfl) (by decide) (Nat.le_of_ble_eq_true rfl) (Nat.le_of_ble_eq_true rfl) (Nat.le_of_ble_eq_true rfl) dX10_init_46 (fun H locs ad47 w44 ha48 hw45 hne46 hH => ?_)
  have hw49 : w44 225 = .inr (10, [.ref (ad 14), .ref (ad 221), .ref (ad10 226), .ref (ad19 227), .ref (ad28 228), .int (0 : Int32), .int (0 : Int32), .ref (ad37 229), .null, .null, .null]) := (hne46 225 (by decide)).trans (hw41)
  have ha53 : ad47 225 = ad 225 := ((ha48 225 (by decide)).trans ha43)
  refine tw_putF (r := 225) F hH kf_RX10_32 kp_X10_8 hin rfl ha53 (by decide) hw49 (Nat.le_of_ble_eq_true rfl) rfl rfl dX10_init_48 (fun H locs w50 hw51 hne52 hH => ?_)
  have hw51 : w50 225 = .inr (10, [.ref (ad 14), .ref (ad 221), .ref (ad10 226), .ref (ad19 227), .ref (ad28 228), .int (0 : Int32), .int (0 : Int32), .ref (ad37 229), .ref (ad47 230), .null, .null]) := hw51
  refine lv_aload_n hx hb dX10_init_51 rfl (lv_at hl 0 rfl) ?_
  refine lv_bipush (v := 16) hx hb dX10_init_52 (by decide) ?_
  refine tw_newa (t := 0) (atype := .int) (ty := .int) (n' := 16) (a0 := (16, .inl (fun _ => 0))) F hH rfl (fun C h => by cases h) (tw_gl kw_47 rfl) rfl (fun _ => rfl) (by decide) (Nat.le_of_ble_eq_true rfl) (Nat.le_of_ble_eq_true rfl) (Nat.le_of_ble_eq_true rfl) dX10_init_54 (fun H locs ad57 w54 ha58 hw55 hne56 hH => ?_)
  have hw59 : w54 225 = .inr (10, [.ref (ad 14), .ref (ad 221), .ref (ad10 226), .ref (ad19 227), .ref (ad28 228), .int (0 : Int32), .int (0 : Int32), .ref (ad37 229), .ref (ad47 230), .null, .null]) := (hne56 225 (by decide)).trans (hw51)
  have ha63 : ad57 225 = ad 225 := ((ha58 225 (by decide)).trans ha53)
  refine tw_putF (r := 225) F hH kf_RX10_35 kp_X10_9 hin rfl ha63 (by decide) hw59 (Nat.le_of_ble_eq_true rfl) rfl rfl dX10_init_56 (fun H locs w60 hw61 hne62 hH => ?_)
  have hw61 : w60 225 = .inr (10, [.ref (ad 14), .ref (ad 221), .ref (ad10 226), .ref (ad19 227), .ref (ad28 228), .int (0 : Int32), .int (0 : Int32), .ref (ad37 229), .ref (ad47 230), .ref (ad57 231), .null]) := hw61
  refine lv_aload_n hx hb dX10_init_59 rfl (lv_at hl 0 rfl) ?_
  refine lv_bipush (v := 16) hx hb dX10_init_60 (by decide) ?_
  refine tw_newa (t := 0) (atype := .int) (ty := .int) (n' := 16) (a0 := (16, .inl (fun _ => 0))) F hH rfl (fun C h => by cases h) (tw_gl kw_47 rfl) rfl (fun _ => rfl) (by decide) (Nat.le_of_ble_eq_true rfl) (Nat.le_of_ble_eq_true rfl) (Nat.le_of_ble_eq_true rfl) dX10_init_62 (fun H locs ad67 w64 ha68 hw65 hne66 hH => ?_)
  have hw69 : w64 225 = .inr (10, [.ref (ad 14), .ref (ad 221), .ref (ad10 226), .ref (ad19 227), .ref (ad28 228), .int (0 : Int32), .int (0 : Int32), .ref (ad37 229), .ref (ad47 230), .ref (ad57 231), .null]) := (hne66 225 (by decide)).trans (hw61)
  have ha73 : ad67 225 = ad 225 := ((ha68 225 (by decide)).trans ha63)
  refine tw_putF (r := 225) F hH kf_RX10_38 kp_X10_10 hin rfl ha73 (by decide) hw69 (Nat.le_of_ble_eq_true rfl) rfl rfl dX10_init_64 (fun H locs w70 hw71 hne72 hH => ?_)
  have hw71 : w70 225 = .inr (10, [.ref (ad 14), .ref (ad 221), .ref (ad10 226), .ref (ad19 227), .ref (ad28 228), .int (0 : Int32), .int (0 : Int32), .ref (ad37 229), .ref (ad47 230), .ref (ad57 231), .ref (ad67 232)]) := hw71
  exact tw_nret F hH (fun k hk => ((ha68 k (by omega)).trans ((ha58 k (by omega)).trans ((ha48 k (by omega)).trans ((ha38 k (by omega)).trans ((ha29 k (by omega)).trans ((ha20 k (by omega)).trans (ha11 k (by omega))))))))) hret hlk (Nat.le_of_ble_eq_true rfl) (Nat.le_of_ble_eq_true rfl) dX10_init_67 (⟨trivial, fun k hk => ((hne72 k (by omega)).trans ((hne66 k (by omega)).trans ((hne62 k (by omega)).trans ((hne56 k (by omega)).trans ((hne52 k (by omega)).trans ((hne46 k (by omega)).trans ((hne42 k (by omega)).trans ((hne36 k (by omega)).trans ((hne33 k (by omega)).trans ((hne27 k (by omega)).trans ((hne24 k (by omega)).trans ((hne18 k (by omega)).trans ((hne15 k (by omega)).trans ((hne9 k (by omega)).trans ((hne6 k (by omega)).trans (hne3 k (by omega)))))))))))))))))⟩)
