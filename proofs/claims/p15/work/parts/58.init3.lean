set_option maxHeartbeats 4000000 in
set_option maxRecDepth 100000 in
theorem c_X0_init (l : Launch) (G : tw_G) (ad : Nat → Nat) (w : Nat → va_E) (sz : Nat) (hw_156 : w 156 = .inr (0, [.null, .null, .null, .int (0 : Int32), .null])) : Met l yX0_init (tw_ws yX0_init cX0_init 3 none) ({ frames := 2, cells := 64, slots := 1624, locals := 43 }) (tw_Pre G 157 ad w sz [.ref (ad 156), .ref (ad 1)]) (tw_Qn G 157 64 ad (fun u => (bookBs G u.1 u.2 ∧ u.2 156 = .inr (0, [.ref (u.1 1), .ref (u.1 157), .ref (u.1 158), .int (0 : Int32), .ref (u.1 159)]) ∧ u.2 157 = .inl (G.2.1 4, 10, .inr (.inr (.inr (.inr (va_up (va_up (va_up (va_up (va_up (va_up (va_up (va_up (va_up (va_up (fun _ => none) 0 (some (u.1 161))) 1 (some (u.1 167))) 2 (some (u.1 173))) 3 (some (u.1 179))) 4 (some (u.1 185))) 5 (some (u.1 191))) 6 (some (u.1 197))) 7 (some (u.1 203))) 8 (some (u.1 209))) 9 (some (u.1 215))))))) ∧ u.2 158 = .inl (G.2.1 0, 10, .inl (fun _ => 0)) ∧ u.2 159 = .inr (7, [.int (20 : Int32), .int (4 : Int32), .ref (u.1 160), .int (0 : Int32)]) ∧ u.2 160 = .inl (G.2.1 0, 80, .inl (fun _ => 0)) ∧ ∀ k, k < 156 → u.2 k = w k)) sz) 64 1624 (tw_A 157 ad sz) := by
  refine tw_met (by decide) (Nat.le_of_ble_eq_true rfl) ?_
  intro p e s m args below meth c F hret hlk hin hargs hsz hH ls hl
  have hx := F.1.1
  have hb := F.1.2.1
  have hown := F.1.2.2.2.1
  have hts := F.1.2.2.2.2
  have hl : lv_has ls 3 [(0, .ref (ad 156)), (1, .ref (ad 1))] := hl
  generalize hH0 : s.heap = H at hH ⊢
  refine lv_aload_n hx hb dX0_init_0 rfl (lv_at hl 0 rfl) ?_
  refine tw_objInit F (tw_gl kw_388 rfl) (tw_gl kw_32 rfl) (tw_gl kw_33 rfl) hl.1 ⟨(Nat.le_of_ble_eq_true rfl), (Nat.le_of_ble_eq_true rfl)⟩ (Nat.le_of_ble_eq_true rfl) dX0_init_1 ?_
  refine lv_aload_n hx hb dX0_init_4 rfl (lv_at hl 0 rfl) ?_
  refine lv_aload_n hx hb dX0_init_5 rfl (lv_at hl 1 rfl) ?_
  refine tw_putF (r := 156) F hH kf_RX0_9 kp_X0_0 hin rfl rfl (by decide) hw_156 (Nat.le_of_ble_eq_true rfl) rfl rfl dX0_init_6 (fun H locs w1 hw2 hne3 hH => ?_)
  have hw2 : w1 156 = .inr (0, [.ref (ad 1), .null, .null, .int (0 : Int32), .null]) := hw2
  refine lv_aload_n hx hb dX0_init_9 rfl (lv_at hl 0 rfl) ?_
  refine lv_bipush (v := 10) hx hb dX0_init_10 (by decide) ?_
  refine tw_newq (t := 4) (n' := 10) F hH rfl (tw_gl kw_389 rfl) F.2.1.2.2.1.2.2 (by decide) (Nat.le_of_ble_eq_true rfl) (Nat.le_of_ble_eq_true rfl) (Nat.le_of_ble_eq_true rfl) dX0_init_12 (fun H locs ad7 w4 ha8 hw5 hne6 hH => ?_)
  have hw9 : w4 156 = .inr (0, [.ref (ad 1), .null, .null, .int (0 : Int32), .null]) := (hne6 156 (nn_ne rfl)).trans (hw2)
  refine tw_putF (r := 156) F hH kf_RX0_17 kp_X0_1 hin rfl (ha8 156 (nn_lt rfl)) (by decide) hw9 (Nat.le_of_ble_eq_true rfl) rfl rfl dX0_init_15 (fun H locs w10 hw11 hne12 hH => ?_)
  have hw11 : w10 156 = .inr (0, [.ref (ad 1), .ref (ad7 157), .null, .int (0 : Int32), .null]) := hw11
  refine lv_aload_n hx hb dX0_init_18 rfl (lv_at hl 0 rfl) ?_
  refine lv_bipush (v := 10) hx hb dX0_init_19 (by decide) ?_
  refine tw_newa (t := 0) (atype := .int) (ty := .int) (n' := 10) (a0 := (10, .inl (fun _ => 0))) F hH rfl (fun C h => by cases h) (tw_gl kw_47 rfl) rfl (fun _ => rfl) (by decide) (Nat.le_of_ble_eq_true rfl) (Nat.le_of_ble_eq_true rfl) (Nat.le_of_ble_eq_true rfl) dX0_init_21 (fun H locs ad16 w13 ha17 hw14 hne15 hH => ?_)
  have hw18 : w13 156 = .inr (0, [.ref (ad 1), .ref (ad7 157), .null, .int (0 : Int32), .null]) := (hne15 156 (nn_ne rfl)).trans (hw11)
  refine tw_putF (r := 156) F hH kf_RX0_21 kp_X0_2 hin rfl ((ha17 156 (nn_lt rfl)).trans (ha8 156 (nn_lt rfl))) (by decide) hw18 (Nat.le_of_ble_eq_true rfl) rfl rfl dX0_init_23 (fun H locs w19 hw20 hne21 hH => ?_)
  have hw20 : w19 156 = .inr (0, [.ref (ad 1), .ref (ad7 157), .ref (ad16 158), .int (0 : Int32), .null]) := hw20
  refine lv_aload_n hx hb dX0_init_26 rfl (lv_at hl 0 rfl) ?_
  refine tw_new (ci := 7) (T := TX7) F hH rfl iw_X7 tyX7 tyX7_ok (tw_gl kw_391 rfl) (tw_gl kw_55 rfl) (tw_gl kw_4 rfl) kd_X7 (Nat.le_of_ble_eq_true rfl) (Nat.le_of_ble_eq_true rfl) dX0_init_27 (fun H locs ad25 w22 ha26 hw23 hne24 hH => ?_)
  refine lv_dup hx hb dX0_init_30 rfl ?_
  refine lv_bipush (v := 20) hx hb dX0_init_31 (by decide) ?_
  refine lv_iconst (v := 4) hx hb dX0_init_33 (by decide) ?_
  refine tw_calln F hH (tw_runI (r := 159) (As := [.int (20 : Int32), .int (4 : Int32)]) (rest := [.ref (ad25 159), .ref (ad 156)]) F hH (c_X7_init_v2 l G 159 ad25 w22 H.size hw23) (tw_gl kw_392 rfl) km_X7_init (tw_gl kw_57 rfl) rfl rfl rfl ⟨(Nat.le_of_ble_eq_true rfl), (Nat.le_of_ble_eq_true rfl)⟩ rfl hl.1 rfl (Nat.le_of_ble_eq_true rfl) dX0_init_34 ⟨(Nat.le_of_ble_eq_true rfl), (Nat.le_of_ble_eq_true rfl)⟩) (fun ad29 w27 H locs hp28 ha30 _ hH => ?_)
  obtain ⟨-, hw32, hw33, hfr34⟩ := hp28
  have hw35 : w27 156 = .inr (0, [.ref (ad 1), .ref (ad7 157), .ref (ad16 158), .int (0 : Int32), .null]) := (hfr34 156 (by decide)).trans ((hne24 156 (nn_ne rfl)).trans (hw20))
  have ha39 : ad29 156 = ad 156 := ((((ha30 156 (nn_lt rfl)).trans (ha26 156 (nn_lt rfl))).trans (ha17 156 (nn_lt rfl))).trans (ha8 156 (nn_lt rfl)))
  refine tw_putF (r := 156) F hH kf_RX0_30 kp_X0_4 hin rfl ha39 (by decide) hw35 (Nat.le_of_ble_eq_true rfl) rfl rfl dX0_init_37 (fun H locs w36 hw37 hne38 hH => ?_)
  have hw37 : w36 156 = .inr (0, [.ref (ad 1), .ref (ad7 157), .ref (ad16 158), .int (0 : Int32), .ref (ad25 159)]) := hw37
  refine lv_iconst (v := 0) hx hb dX0_init_40 (by decide) ?_
  refine lv_istore_n (lv' := [(2, .int (0 : Int32)), (0, .ref (ad 156)), (1, .ref (ad 1))]) hx hb dX0_init_41 rfl hl (by decide) rfl (fun ls hl => ?_)
  refine lv_iload_n hx hb dX0_init_42 rfl (lv_at hl 0 rfl) ?_
  refine lv_bipush (v := 10) hx hb dX0_init_43 (by decide) ?_
  refine lv_icmp_ge (tgt := 67) hx hb dX0_init_45 (by decide) (fun c => absurd c (by decide)) (fun _ => ?_)
  refine lv_aload_n hx hb dX0_init_48 rfl (lv_at hl 1 rfl) ?_
  refine tw_get (r := 156) F hH kf_RX0_17 ha39 (by decide) hw37 rfl dX0_init_49 ?_
  refine lv_iload_n hx hb dX0_init_52 rfl (lv_at hl 0 rfl) ?_
  refine tw_new (ci := 8) (T := TX8) F hH rfl iw_X8 tyX8 tyX8_ok (tw_gl kw_389 rfl) (tw_gl kw_153 rfl) (tw_gl kw_8 rfl) kd_X8 (Nat.le_of_ble_eq_true rfl) (Nat.le_of_ble_eq_true rfl) dX0_init_53 (fun H locs ad44 w41 ha45 hw42 hne43 hH => ?_)
  refine lv_dup hx hb dX0_init_56 rfl ?_
  refine tw_calln F hH (tw_runI (r := 161) (As := []) (rest := [.ref (ad44 161), .int (0 : Int32), .ref (ad7 157)]) F hH (c_X8_init l G 161 ad44 w41 H.size hw42) (tw_gl kw_393 rfl) km_X8_init (tw_gl kw_155 rfl) rfl rfl rfl ⟨(Nat.le_of_ble_eq_true rfl), (Nat.le_of_ble_eq_true rfl)⟩ rfl hl.1 rfl (Nat.le_of_ble_eq_true rfl) dX0_init_57 ⟨(Nat.le_of_ble_eq_true rfl), (Nat.le_of_ble_eq_true rfl)⟩) (fun ad48 w46 H locs hp47 ha49 _ hH => ?_)
  obtain ⟨-, hw51, hw52, hw53, hw54, hw55, hw56, hfr57⟩ := hp47
  have bk161 : textB G ad48 w46 161 := ⟨hw51, hw52, hw53, hw54, hw55, hw56⟩
  clear hw51 hw53 hw54 hw55 hw56
  have hw58 : w46 157 = .inl (G.2.1 4, 10, .inr (.inr (.inr (.inr (fun _ => none))))) := (hfr57 157 (by decide)).trans ((hne43 157 (nn_ne rfl)).trans ((hne38 157 (nn_ne rfl)).trans ((hfr34 157 (by decide)).trans ((hne24 157 (nn_ne rfl)).trans ((hne21 157 (nn_ne rfl)).trans ((hne15 157 (nn_ne rfl)).trans ((hne12 157 (nn_ne rfl)).trans (hw5))))))))
  have ha62 : ad48 157 = ad7 157 := (((((ha49 157 (nn_lt rfl)).trans (ha45 157 (nn_lt rfl))).trans (ha30 157 (nn_lt rfl))).trans (ha26 157 (nn_lt rfl))).trans (ha17 157 (nn_lt rfl)))
  have ha63 : ad48 161 = ad44 161 := (ha49 161 (nn_lt rfl))
  refine tw_aast (r := 157) (t := 4) (j := 0) (r2 := 161) F hH rfl ha62 (by decide) hw58 rfl ha63 (by decide) hw52 (by decide) (by decide) dX0_init_60 (fun H locs w59 hw60 hne61 hH => ?_)
  refine lv_iinc (v := (1 : Int32)) (lv' := [(2, .int (1 : Int32)), (0, .ref (ad 156)), (1, .ref (ad 1))]) hx hb dX0_init_61 hl (k := 0) rfl (by decide) (by decide) rfl (fun ls hl => ?_)
  refine lv_goto (tgt := 42) hx hb dX0_init_64 (by decide) ?_
  refine lv_iload_n hx hb dX0_init_42 rfl (lv_at hl 0 rfl) ?_
  refine lv_bipush (v := 10) hx hb dX0_init_43 (by decide) ?_
  refine lv_icmp_ge (tgt := 67) hx hb dX0_init_45 (by decide) (fun c => absurd c (by decide)) (fun _ => ?_)
  refine lv_aload_n hx hb dX0_init_48 rfl (lv_at hl 1 rfl) ?_
  have hw65 : w59 156 = .inr (0, [.ref (ad 1), .ref (ad7 157), .ref (ad16 158), .int (0 : Int32), .ref (ad25 159)]) := (hne61 156 (nn_ne rfl)).trans ((hfr57 156 (by decide)).trans ((hne43 156 (nn_ne rfl)).trans (hw37)))
  have ha66 : ad48 156 = ad 156 := (((ha49 156 (nn_lt rfl)).trans (ha45 156 (nn_lt rfl))).trans ha39)
  refine tw_get (r := 156) F hH kf_RX0_17 ha66 (by decide) hw65 rfl dX0_init_49 ?_
  refine lv_iload_n hx hb dX0_init_52 rfl (lv_at hl 0 rfl) ?_
  refine tw_new (ci := 8) (T := TX8) F hH rfl iw_X8 tyX8 tyX8_ok (tw_gl kw_389 rfl) (tw_gl kw_153 rfl) (tw_gl kw_8 rfl) kd_X8 (Nat.le_of_ble_eq_true rfl) (Nat.le_of_ble_eq_true rfl) dX0_init_53 (fun H locs ad70 w67 ha71 hw68 hne69 hH => ?_)
  refine lv_dup hx hb dX0_init_56 rfl ?_
  refine tw_calln F hH (tw_runI (r := 167) (As := []) (rest := [.ref (ad70 167), .int (1 : Int32), .ref (ad7 157)]) F hH (c_X8_init l G 167 ad70 w67 H.size hw68) (tw_gl kw_393 rfl) km_X8_init (tw_gl kw_155 rfl) rfl rfl rfl ⟨(Nat.le_of_ble_eq_true rfl), (Nat.le_of_ble_eq_true rfl)⟩ rfl hl.1 rfl (Nat.le_of_ble_eq_true rfl) dX0_init_57 ⟨(Nat.le_of_ble_eq_true rfl), (Nat.le_of_ble_eq_true rfl)⟩) (fun ad74 w72 H locs hp73 ha75 _ hH => ?_)
  obtain ⟨-, hw77, hw78, hw79, hw80, hw81, hw82, hfr83⟩ := hp73
  have bk167 : textB G ad74 w72 167 := ⟨hw77, hw78, hw79, hw80, hw81, hw82⟩
  clear hw77 hw79 hw80 hw81 hw82
  have hw84 : w72 157 = .inl (G.2.1 4, 10, .inr (.inr (.inr (.inr (va_up (fun _ => none) 0 (some (ad44 161))))))) := (hfr83 157 (by decide)).trans ((hne69 157 (nn_ne rfl)).trans (hw60))
  have ha88 : ad74 157 = ad7 157 := (((ha75 157 (nn_lt rfl)).trans (ha71 157 (nn_lt rfl))).trans ha62)
  have ha89 : ad74 167 = ad70 167 := (ha75 167 (nn_lt rfl))
  refine tw_aast (r := 157) (t := 4) (j := 1) (r2 := 167) F hH rfl ha88 (by decide) hw84 rfl ha89 (by decide) hw78 (by decide) (by decide) dX0_init_60 (fun H locs w85 hw86 hne87 hH => ?_)
  refine lv_iinc (v := (2 : Int32)) (lv' := [(2, .int (2 : Int32)), (0, .ref (ad 156)), (1, .ref (ad 1))]) hx hb dX0_init_61 hl (k := 0) rfl (by decide) (by decide) rfl (fun ls hl => ?_)
  refine lv_goto (tgt := 42) hx hb dX0_init_64 (by decide) ?_
  refine lv_iload_n hx hb dX0_init_42 rfl (lv_at hl 0 rfl) ?_
  refine lv_bipush (v := 10) hx hb dX0_init_43 (by decide) ?_
  refine lv_icmp_ge (tgt := 67) hx hb dX0_init_45 (by decide) (fun c => absurd c (by decide)) (fun _ => ?_)
  refine lv_aload_n hx hb dX0_init_48 rfl (lv_at hl 1 rfl) ?_
  have hw91 : w85 156 = .inr (0, [.ref (ad 1), .ref (ad7 157), .ref (ad16 158), .int (0 : Int32), .ref (ad25 159)]) := (hne87 156 (nn_ne rfl)).trans ((hfr83 156 (by decide)).trans ((hne69 156 (nn_ne rfl)).trans (hw65)))
  have ha92 : ad74 156 = ad 156 := (((ha75 156 (nn_lt rfl)).trans (ha71 156 (nn_lt rfl))).trans ha66)
  refine tw_get (r := 156) F hH kf_RX0_17 ha92 (by decide) hw91 rfl dX0_init_49 ?_
  refine lv_iload_n hx hb dX0_init_52 rfl (lv_at hl 0 rfl) ?_
  refine tw_new (ci := 8) (T := TX8) F hH rfl iw_X8 tyX8 tyX8_ok (tw_gl kw_389 rfl) (tw_gl kw_153 rfl) (tw_gl kw_8 rfl) kd_X8 (Nat.le_of_ble_eq_true rfl) (Nat.le_of_ble_eq_true rfl) dX0_init_53 (fun H locs ad96 w93 ha97 hw94 hne95 hH => ?_)
  refine lv_dup hx hb dX0_init_56 rfl ?_
  refine tw_calln F hH (tw_runI (r := 173) (As := []) (rest := [.ref (ad96 173), .int (2 : Int32), .ref (ad7 157)]) F hH (c_X8_init l G 173 ad96 w93 H.size hw94) (tw_gl kw_393 rfl) km_X8_init (tw_gl kw_155 rfl) rfl rfl rfl ⟨(Nat.le_of_ble_eq_true rfl), (Nat.le_of_ble_eq_true rfl)⟩ rfl hl.1 rfl (Nat.le_of_ble_eq_true rfl) dX0_init_57 ⟨(Nat.le_of_ble_eq_true rfl), (Nat.le_of_ble_eq_true rfl)⟩) (fun ad100 w98 H locs hp99 ha101 _ hH => ?_)
  obtain ⟨-, hw103, hw104, hw105, hw106, hw107, hw108, hfr109⟩ := hp99
  have bk173 : textB G ad100 w98 173 := ⟨hw103, hw104, hw105, hw106, hw107, hw108⟩
  clear hw103 hw105 hw106 hw107 hw108
  have hw110 : w98 157 = .inl (G.2.1 4, 10, .inr (.inr (.inr (.inr (va_up (va_up (fun _ => none) 0 (some (ad44 161))) 1 (some (ad70 167))))))) := (hfr109 157 (by decide)).trans ((hne95 157 (nn_ne rfl)).trans (hw86))
  have ha114 : ad100 157 = ad7 157 := (((ha101 157 (nn_lt rfl)).trans (ha97 157 (nn_lt rfl))).trans ha88)
  have ha115 : ad100 173 = ad96 173 := (ha101 173 (nn_lt rfl))
  refine tw_aast (r := 157) (t := 4) (j := 2) (r2 := 173) F hH rfl ha114 (by decide) hw110 rfl ha115 (by decide) hw104 (by decide) (by decide) dX0_init_60 (fun H locs w111 hw112 hne113 hH => ?_)
  refine lv_iinc (v := (3 : Int32)) (lv' := [(2, .int (3 : Int32)), (0, .ref (ad 156)), (1, .ref (ad 1))]) hx hb dX0_init_61 hl (k := 0) rfl (by decide) (by decide) rfl (fun ls hl => ?_)
  refine lv_goto (tgt := 42) hx hb dX0_init_64 (by decide) ?_
  refine lv_iload_n hx hb dX0_init_42 rfl (lv_at hl 0 rfl) ?_
  refine lv_bipush (v := 10) hx hb dX0_init_43 (by decide) ?_
  refine lv_icmp_ge (tgt := 67) hx hb dX0_init_45 (by decide) (fun c => absurd c (by decide)) (fun _ => ?_)
  refine lv_aload_n hx hb dX0_init_48 rfl (lv_at hl 1 rfl) ?_
  have hw117 : w111 156 = .inr (0, [.ref (ad 1), .ref (ad7 157), .ref (ad16 158), .int (0 : Int32), .ref (ad25 159)]) := (hne113 156 (nn_ne rfl)).trans ((hfr109 156 (by decide)).trans ((hne95 156 (nn_ne rfl)).trans (hw91)))
  have ha118 : ad100 156 = ad 156 := (((ha101 156 (nn_lt rfl)).trans (ha97 156 (nn_lt rfl))).trans ha92)
  refine tw_get (r := 156) F hH kf_RX0_17 ha118 (by decide) hw117 rfl dX0_init_49 ?_
  refine lv_iload_n hx hb dX0_init_52 rfl (lv_at hl 0 rfl) ?_
  refine tw_new (ci := 8) (T := TX8) F hH rfl iw_X8 tyX8 tyX8_ok (tw_gl kw_389 rfl) (tw_gl kw_153 rfl) (tw_gl kw_8 rfl) kd_X8 (Nat.le_of_ble_eq_true rfl) (Nat.le_of_ble_eq_true rfl) dX0_init_53 (fun H locs ad122 w119 ha123 hw120 hne121 hH => ?_)
  refine lv_dup hx hb dX0_init_56 rfl ?_
  refine tw_calln F hH (tw_runI (r := 179) (As := []) (rest := [.ref (ad122 179), .int (3 : Int32), .ref (ad7 157)]) F hH (c_X8_init l G 179 ad122 w119 H.size hw120) (tw_gl kw_393 rfl) km_X8_init (tw_gl kw_155 rfl) rfl rfl rfl ⟨(Nat.le_of_ble_eq_true rfl), (Nat.le_of_ble_eq_true rfl)⟩ rfl hl.1 rfl (Nat.le_of_ble_eq_true rfl) dX0_init_57 ⟨(Nat.le_of_ble_eq_true rfl), (Nat.le_of_ble_eq_true rfl)⟩) (fun ad126 w124 H locs hp125 ha127 _ hH => ?_)
  obtain ⟨-, hw129, hw130, hw131, hw132, hw133, hw134, hfr135⟩ := hp125
  have bk179 : textB G ad126 w124 179 := ⟨hw129, hw130, hw131, hw132, hw133, hw134⟩
  clear hw129 hw131 hw132 hw133 hw134
  have hw136 : w124 157 = .inl (G.2.1 4, 10, .inr (.inr (.inr (.inr (va_up (va_up (va_up (fun _ => none) 0 (some (ad44 161))) 1 (some (ad70 167))) 2 (some (ad96 173))))))) := (hfr135 157 (by decide)).trans ((hne121 157 (nn_ne rfl)).trans (hw112))
  have ha140 : ad126 157 = ad7 157 := (((ha127 157 (nn_lt rfl)).trans (ha123 157 (nn_lt rfl))).trans ha114)
  have ha141 : ad126 179 = ad122 179 := (ha127 179 (nn_lt rfl))
  refine tw_aast (r := 157) (t := 4) (j := 3) (r2 := 179) F hH rfl ha140 (by decide) hw136 rfl ha141 (by decide) hw130 (by decide) (by decide) dX0_init_60 (fun H locs w137 hw138 hne139 hH => ?_)
  refine lv_iinc (v := (4 : Int32)) (lv' := [(2, .int (4 : Int32)), (0, .ref (ad 156)), (1, .ref (ad 1))]) hx hb dX0_init_61 hl (k := 0) rfl (by decide) (by decide) rfl (fun ls hl => ?_)
  refine lv_goto (tgt := 42) hx hb dX0_init_64 (by decide) ?_
  refine lv_iload_n hx hb dX0_init_42 rfl (lv_at hl 0 rfl) ?_
  refine lv_bipush (v := 10) hx hb dX0_init_43 (by decide) ?_
  refine lv_icmp_ge (tgt := 67) hx hb dX0_init_45 (by decide) (fun c => absurd c (by decide)) (fun _ => ?_)
  refine lv_aload_n hx hb dX0_init_48 rfl (lv_at hl 1 rfl) ?_
  have hw143 : w137 156 = .inr (0, [.ref (ad 1), .ref (ad7 157), .ref (ad16 158), .int (0 : Int32), .ref (ad25 159)]) := (hne139 156 (nn_ne rfl)).trans ((hfr135 156 (by decide)).trans ((hne121 156 (nn_ne rfl)).trans (hw117)))
  have ha144 : ad126 156 = ad 156 := (((ha127 156 (nn_lt rfl)).trans (ha123 156 (nn_lt rfl))).trans ha118)
  refine tw_get (r := 156) F hH kf_RX0_17 ha144 (by decide) hw143 rfl dX0_init_49 ?_
  refine lv_iload_n hx hb dX0_init_52 rfl (lv_at hl 0 rfl) ?_
  refine tw_new (ci := 8) (T := TX8) F hH rfl iw_X8 tyX8 tyX8_ok (tw_gl kw_389 rfl) (tw_gl kw_153 rfl) (tw_gl kw_8 rfl) kd_X8 (Nat.le_of_ble_eq_true rfl) (Nat.le_of_ble_eq_true rfl) dX0_init_53 (fun H locs ad148 w145 ha149 hw146 hne147 hH => ?_)
  refine lv_dup hx hb dX0_init_56 rfl ?_
  refine tw_calln F hH (tw_runI (r := 185) (As := []) (rest := [.ref (ad148 185), .int (4 : Int32), .ref (ad7 157)]) F hH (c_X8_init l G 185 ad148 w145 H.size hw146) (tw_gl kw_393 rfl) km_X8_init (tw_gl kw_155 rfl) rfl rfl rfl ⟨(Nat.le_of_ble_eq_true rfl), (Nat.le_of_ble_eq_true rfl)⟩ rfl hl.1 rfl (Nat.le_of_ble_eq_true rfl) dX0_init_57 ⟨(Nat.le_of_ble_eq_true rfl), (Nat.le_of_ble_eq_true rfl)⟩) (fun ad152 w150 H locs hp151 ha153 _ hH => ?_)
  obtain ⟨-, hw155, hw156, hw157, hw158, hw159, hw160, hfr161⟩ := hp151
  have bk185 : textB G ad152 w150 185 := ⟨hw155, hw156, hw157, hw158, hw159, hw160⟩
  clear hw155 hw157 hw158 hw159 hw160
  have hw162 : w150 157 = .inl (G.2.1 4, 10, .inr (.inr (.inr (.inr (va_up (va_up (va_up (va_up (fun _ => none) 0 (some (ad44 161))) 1 (some (ad70 167))) 2 (some (ad96 173))) 3 (some (ad122 179))))))) := (hfr161 157 (by decide)).trans ((hne147 157 (nn_ne rfl)).trans (hw138))
  have ha166 : ad152 157 = ad7 157 := (((ha153 157 (nn_lt rfl)).trans (ha149 157 (nn_lt rfl))).trans ha140)
  have ha167 : ad152 185 = ad148 185 := (ha153 185 (nn_lt rfl))
  refine tw_aast (r := 157) (t := 4) (j := 4) (r2 := 185) F hH rfl ha166 (by decide) hw162 rfl ha167 (by decide) hw156 (by decide) (by decide) dX0_init_60 (fun H locs w163 hw164 hne165 hH => ?_)
  refine lv_iinc (v := (5 : Int32)) (lv' := [(2, .int (5 : Int32)), (0, .ref (ad 156)), (1, .ref (ad 1))]) hx hb dX0_init_61 hl (k := 0) rfl (by decide) (by decide) rfl (fun ls hl => ?_)
  refine lv_goto (tgt := 42) hx hb dX0_init_64 (by decide) ?_
  refine lv_iload_n hx hb dX0_init_42 rfl (lv_at hl 0 rfl) ?_
  refine lv_bipush (v := 10) hx hb dX0_init_43 (by decide) ?_
  refine lv_icmp_ge (tgt := 67) hx hb dX0_init_45 (by decide) (fun c => absurd c (by decide)) (fun _ => ?_)
  refine lv_aload_n hx hb dX0_init_48 rfl (lv_at hl 1 rfl) ?_
  have hw169 : w163 156 = .inr (0, [.ref (ad 1), .ref (ad7 157), .ref (ad16 158), .int (0 : Int32), .ref (ad25 159)]) := (hne165 156 (nn_ne rfl)).trans ((hfr161 156 (by decide)).trans ((hne147 156 (nn_ne rfl)).trans (hw143)))
  have ha170 : ad152 156 = ad 156 := (((ha153 156 (nn_lt rfl)).trans (ha149 156 (nn_lt rfl))).trans ha144)
  refine tw_get (r := 156) F hH kf_RX0_17 ha170 (by decide) hw169 rfl dX0_init_49 ?_
  refine lv_iload_n hx hb dX0_init_52 rfl (lv_at hl 0 rfl) ?_
  refine tw_new (ci := 8) (T := TX8) F hH rfl iw_X8 tyX8 tyX8_ok (tw_gl kw_389 rfl) (tw_gl kw_153 rfl) (tw_gl kw_8 rfl) kd_X8 (Nat.le_of_ble_eq_true rfl) (Nat.le_of_ble_eq_true rfl) dX0_init_53 (fun H locs ad174 w171 ha175 hw172 hne173 hH => ?_)
  refine lv_dup hx hb dX0_init_56 rfl ?_
  refine tw_calln F hH (tw_runI (r := 191) (As := []) (rest := [.ref (ad174 191), .int (5 : Int32), .ref (ad7 157)]) F hH (c_X8_init l G 191 ad174 w171 H.size hw172) (tw_gl kw_393 rfl) km_X8_init (tw_gl kw_155 rfl) rfl rfl rfl ⟨(Nat.le_of_ble_eq_true rfl), (Nat.le_of_ble_eq_true rfl)⟩ rfl hl.1 rfl (Nat.le_of_ble_eq_true rfl) dX0_init_57 ⟨(Nat.le_of_ble_eq_true rfl), (Nat.le_of_ble_eq_true rfl)⟩) (fun ad178 w176 H locs hp177 ha179 _ hH => ?_)
  obtain ⟨-, hw181, hw182, hw183, hw184, hw185, hw186, hfr187⟩ := hp177
  have bk191 : textB G ad178 w176 191 := ⟨hw181, hw182, hw183, hw184, hw185, hw186⟩
  clear hw181 hw183 hw184 hw185 hw186
  have hw188 : w176 157 = .inl (G.2.1 4, 10, .inr (.inr (.inr (.inr (va_up (va_up (va_up (va_up (va_up (fun _ => none) 0 (some (ad44 161))) 1 (some (ad70 167))) 2 (some (ad96 173))) 3 (some (ad122 179))) 4 (some (ad148 185))))))) := (hfr187 157 (by decide)).trans ((hne173 157 (nn_ne rfl)).trans (hw164))
  have ha192 : ad178 157 = ad7 157 := (((ha179 157 (nn_lt rfl)).trans (ha175 157 (nn_lt rfl))).trans ha166)
  have ha193 : ad178 191 = ad174 191 := (ha179 191 (nn_lt rfl))
  refine tw_aast (r := 157) (t := 4) (j := 5) (r2 := 191) F hH rfl ha192 (by decide) hw188 rfl ha193 (by decide) hw182 (by decide) (by decide) dX0_init_60 (fun H locs w189 hw190 hne191 hH => ?_)
  refine lv_iinc (v := (6 : Int32)) (lv' := [(2, .int (6 : Int32)), (0, .ref (ad 156)), (1, .ref (ad 1))]) hx hb dX0_init_61 hl (k := 0) rfl (by decide) (by decide) rfl (fun ls hl => ?_)
  refine lv_goto (tgt := 42) hx hb dX0_init_64 (by decide) ?_
  refine lv_iload_n hx hb dX0_init_42 rfl (lv_at hl 0 rfl) ?_
  refine lv_bipush (v := 10) hx hb dX0_init_43 (by decide) ?_
  refine lv_icmp_ge (tgt := 67) hx hb dX0_init_45 (by decide) (fun c => absurd c (by decide)) (fun _ => ?_)
  refine lv_aload_n hx hb dX0_init_48 rfl (lv_at hl 1 rfl) ?_
  have hw195 : w189 156 = .inr (0, [.ref (ad 1), .ref (ad7 157), .ref (ad16 158), .int (0 : Int32), .ref (ad25 159)]) := (hne191 156 (nn_ne rfl)).trans ((hfr187 156 (by decide)).trans ((hne173 156 (nn_ne rfl)).trans (hw169)))
  have ha196 : ad178 156 = ad 156 := (((ha179 156 (nn_lt rfl)).trans (ha175 156 (nn_lt rfl))).trans ha170)
  refine tw_get (r := 156) F hH kf_RX0_17 ha196 (by decide) hw195 rfl dX0_init_49 ?_
  refine lv_iload_n hx hb dX0_init_52 rfl (lv_at hl 0 rfl) ?_
  refine tw_new (ci := 8) (T := TX8) F hH rfl iw_X8 tyX8 tyX8_ok (tw_gl kw_389 rfl) (tw_gl kw_153 rfl) (tw_gl kw_8 rfl) kd_X8 (Nat.le_of_ble_eq_true rfl) (Nat.le_of_ble_eq_true rfl) dX0_init_53 (fun H locs ad200 w197 ha201 hw198 hne199 hH => ?_)
  refine lv_dup hx hb dX0_init_56 rfl ?_
  refine tw_calln F hH (tw_runI (r := 197) (As := []) (rest := [.ref (ad200 197), .int (6 : Int32), .ref (ad7 157)]) F hH (c_X8_init l G 197 ad200 w197 H.size hw198) (tw_gl kw_393 rfl) km_X8_init (tw_gl kw_155 rfl) rfl rfl rfl ⟨(Nat.le_of_ble_eq_true rfl), (Nat.le_of_ble_eq_true rfl)⟩ rfl hl.1 rfl (Nat.le_of_ble_eq_true rfl) dX0_init_57 ⟨(Nat.le_of_ble_eq_true rfl), (Nat.le_of_ble_eq_true rfl)⟩) (fun ad204 w202 H locs hp203 ha205 _ hH => ?_)
  obtain ⟨-, hw207, hw208, hw209, hw210, hw211, hw212, hfr213⟩ := hp203
  have bk197 : textB G ad204 w202 197 := ⟨hw207, hw208, hw209, hw210, hw211, hw212⟩
  clear hw207 hw209 hw210 hw211 hw212
  have hw214 : w202 157 = .inl (G.2.1 4, 10, .inr (.inr (.inr (.inr (va_up (va_up (va_up (va_up (va_up (va_up (fun _ => none) 0 (some (ad44 161))) 1 (some (ad70 167))) 2 (some (ad96 173))) 3 (some (ad122 179))) 4 (some (ad148 185))) 5 (some (ad174 191))))))) := (hfr213 157 (by decide)).trans ((hne199 157 (nn_ne rfl)).trans (hw190))
  have ha218 : ad204 157 = ad7 157 := (((ha205 157 (nn_lt rfl)).trans (ha201 157 (nn_lt rfl))).trans ha192)
  have ha219 : ad204 197 = ad200 197 := (ha205 197 (nn_lt rfl))
  refine tw_aast (r := 157) (t := 4) (j := 6) (r2 := 197) F hH rfl ha218 (by decide) hw214 rfl ha219 (by decide) hw208 (by decide) (by decide) dX0_init_60 (fun H locs w215 hw216 hne217 hH => ?_)
  refine lv_iinc (v := (7 : Int32)) (lv' := [(2, .int (7 : Int32)), (0, .ref (ad 156)), (1, .ref (ad 1))]) hx hb dX0_init_61 hl (k := 0) rfl (by decide) (by decide) rfl (fun ls hl => ?_)
  refine lv_goto (tgt := 42) hx hb dX0_init_64 (by decide) ?_
  refine lv_iload_n hx hb dX0_init_42 rfl (lv_at hl 0 rfl) ?_
  refine lv_bipush (v := 10) hx hb dX0_init_43 (by decide) ?_
  refine lv_icmp_ge (tgt := 67) hx hb dX0_init_45 (by decide) (fun c => absurd c (by decide)) (fun _ => ?_)
  refine lv_aload_n hx hb dX0_init_48 rfl (lv_at hl 1 rfl) ?_
  have hw221 : w215 156 = .inr (0, [.ref (ad 1), .ref (ad7 157), .ref (ad16 158), .int (0 : Int32), .ref (ad25 159)]) := (hne217 156 (nn_ne rfl)).trans ((hfr213 156 (by decide)).trans ((hne199 156 (nn_ne rfl)).trans (hw195)))
  have ha222 : ad204 156 = ad 156 := (((ha205 156 (nn_lt rfl)).trans (ha201 156 (nn_lt rfl))).trans ha196)
  refine tw_get (r := 156) F hH kf_RX0_17 ha222 (by decide) hw221 rfl dX0_init_49 ?_
  refine lv_iload_n hx hb dX0_init_52 rfl (lv_at hl 0 rfl) ?_
  refine tw_new (ci := 8) (T := TX8) F hH rfl iw_X8 tyX8 tyX8_ok (tw_gl kw_389 rfl) (tw_gl kw_153 rfl) (tw_gl kw_8 rfl) kd_X8 (Nat.le_of_ble_eq_true rfl) (Nat.le_of_ble_eq_true rfl) dX0_init_53 (fun H locs ad226 w223 ha227 hw224 hne225 hH => ?_)
  refine lv_dup hx hb dX0_init_56 rfl ?_
  refine tw_calln F hH (tw_runI (r := 203) (As := []) (rest := [.ref (ad226 203), .int (7 : Int32), .ref (ad7 157)]) F hH (c_X8_init l G 203 ad226 w223 H.size hw224) (tw_gl kw_393 rfl) km_X8_init (tw_gl kw_155 rfl) rfl rfl rfl ⟨(Nat.le_of_ble_eq_true rfl), (Nat.le_of_ble_eq_true rfl)⟩ rfl hl.1 rfl (Nat.le_of_ble_eq_true rfl) dX0_init_57 ⟨(Nat.le_of_ble_eq_true rfl), (Nat.le_of_ble_eq_true rfl)⟩) (fun ad230 w228 H locs hp229 ha231 _ hH => ?_)
  obtain ⟨-, hw233, hw234, hw235, hw236, hw237, hw238, hfr239⟩ := hp229
  have bk203 : textB G ad230 w228 203 := ⟨hw233, hw234, hw235, hw236, hw237, hw238⟩
  clear hw233 hw235 hw236 hw237 hw238
  have hw240 : w228 157 = .inl (G.2.1 4, 10, .inr (.inr (.inr (.inr (va_up (va_up (va_up (va_up (va_up (va_up (va_up (fun _ => none) 0 (some (ad44 161))) 1 (some (ad70 167))) 2 (some (ad96 173))) 3 (some (ad122 179))) 4 (some (ad148 185))) 5 (some (ad174 191))) 6 (some (ad200 197))))))) := (hfr239 157 (by decide)).trans ((hne225 157 (nn_ne rfl)).trans (hw216))
  have ha244 : ad230 157 = ad7 157 := (((ha231 157 (nn_lt rfl)).trans (ha227 157 (nn_lt rfl))).trans ha218)
  have ha245 : ad230 203 = ad226 203 := (ha231 203 (nn_lt rfl))
  refine tw_aast (r := 157) (t := 4) (j := 7) (r2 := 203) F hH rfl ha244 (by decide) hw240 rfl ha245 (by decide) hw234 (by decide) (by decide) dX0_init_60 (fun H locs w241 hw242 hne243 hH => ?_)
  refine lv_iinc (v := (8 : Int32)) (lv' := [(2, .int (8 : Int32)), (0, .ref (ad 156)), (1, .ref (ad 1))]) hx hb dX0_init_61 hl (k := 0) rfl (by decide) (by decide) rfl (fun ls hl => ?_)
  refine lv_goto (tgt := 42) hx hb dX0_init_64 (by decide) ?_
  refine lv_iload_n hx hb dX0_init_42 rfl (lv_at hl 0 rfl) ?_
  refine lv_bipush (v := 10) hx hb dX0_init_43 (by decide) ?_
  refine lv_icmp_ge (tgt := 67) hx hb dX0_init_45 (by decide) (fun c => absurd c (by decide)) (fun _ => ?_)
  refine lv_aload_n hx hb dX0_init_48 rfl (lv_at hl 1 rfl) ?_
  have hw247 : w241 156 = .inr (0, [.ref (ad 1), .ref (ad7 157), .ref (ad16 158), .int (0 : Int32), .ref (ad25 159)]) := (hne243 156 (nn_ne rfl)).trans ((hfr239 156 (by decide)).trans ((hne225 156 (nn_ne rfl)).trans (hw221)))
  have ha248 : ad230 156 = ad 156 := (((ha231 156 (nn_lt rfl)).trans (ha227 156 (nn_lt rfl))).trans ha222)
  refine tw_get (r := 156) F hH kf_RX0_17 ha248 (by decide) hw247 rfl dX0_init_49 ?_
  refine lv_iload_n hx hb dX0_init_52 rfl (lv_at hl 0 rfl) ?_
  refine tw_new (ci := 8) (T := TX8) F hH rfl iw_X8 tyX8 tyX8_ok (tw_gl kw_389 rfl) (tw_gl kw_153 rfl) (tw_gl kw_8 rfl) kd_X8 (Nat.le_of_ble_eq_true rfl) (Nat.le_of_ble_eq_true rfl) dX0_init_53 (fun H locs ad252 w249 ha253 hw250 hne251 hH => ?_)
  refine lv_dup hx hb dX0_init_56 rfl ?_
  refine tw_calln F hH (tw_runI (r := 209) (As := []) (rest := [.ref (ad252 209), .int (8 : Int32), .ref (ad7 157)]) F hH (c_X8_init l G 209 ad252 w249 H.size hw250) (tw_gl kw_393 rfl) km_X8_init (tw_gl kw_155 rfl) rfl rfl rfl ⟨(Nat.le_of_ble_eq_true rfl), (Nat.le_of_ble_eq_true rfl)⟩ rfl hl.1 rfl (Nat.le_of_ble_eq_true rfl) dX0_init_57 ⟨(Nat.le_of_ble_eq_true rfl), (Nat.le_of_ble_eq_true rfl)⟩) (fun ad256 w254 H locs hp255 ha257 _ hH => ?_)
  obtain ⟨-, hw259, hw260, hw261, hw262, hw263, hw264, hfr265⟩ := hp255
  have bk209 : textB G ad256 w254 209 := ⟨hw259, hw260, hw261, hw262, hw263, hw264⟩
  clear hw259 hw261 hw262 hw263 hw264
  have hw266 : w254 157 = .inl (G.2.1 4, 10, .inr (.inr (.inr (.inr (va_up (va_up (va_up (va_up (va_up (va_up (va_up (va_up (fun _ => none) 0 (some (ad44 161))) 1 (some (ad70 167))) 2 (some (ad96 173))) 3 (some (ad122 179))) 4 (some (ad148 185))) 5 (some (ad174 191))) 6 (some (ad200 197))) 7 (some (ad226 203))))))) := (hfr265 157 (by decide)).trans ((hne251 157 (nn_ne rfl)).trans (hw242))
  have ha270 : ad256 157 = ad7 157 := (((ha257 157 (nn_lt rfl)).trans (ha253 157 (nn_lt rfl))).trans ha244)
  have ha271 : ad256 209 = ad252 209 := (ha257 209 (nn_lt rfl))
  refine tw_aast (r := 157) (t := 4) (j := 8) (r2 := 209) F hH rfl ha270 (by decide) hw266 rfl ha271 (by decide) hw260 (by decide) (by decide) dX0_init_60 (fun H locs w267 hw268 hne269 hH => ?_)
  refine lv_iinc (v := (9 : Int32)) (lv' := [(2, .int (9 : Int32)), (0, .ref (ad 156)), (1, .ref (ad 1))]) hx hb dX0_init_61 hl (k := 0) rfl (by decide) (by decide) rfl (fun ls hl => ?_)
  refine lv_goto (tgt := 42) hx hb dX0_init_64 (by decide) ?_
  refine lv_iload_n hx hb dX0_init_42 rfl (lv_at hl 0 rfl) ?_
  refine lv_bipush (v := 10) hx hb dX0_init_43 (by decide) ?_
  refine lv_icmp_ge (tgt := 67) hx hb dX0_init_45 (by decide) (fun c => absurd c (by decide)) (fun _ => ?_)
  refine lv_aload_n hx hb dX0_init_48 rfl (lv_at hl 1 rfl) ?_
  have hw273 : w267 156 = .inr (0, [.ref (ad 1), .ref (ad7 157), .ref (ad16 158), .int (0 : Int32), .ref (ad25 159)]) := (hne269 156 (nn_ne rfl)).trans ((hfr265 156 (by decide)).trans ((hne251 156 (nn_ne rfl)).trans (hw247)))
  have ha274 : ad256 156 = ad 156 := (((ha257 156 (nn_lt rfl)).trans (ha253 156 (nn_lt rfl))).trans ha248)
  refine tw_get (r := 156) F hH kf_RX0_17 ha274 (by decide) hw273 rfl dX0_init_49 ?_
  refine lv_iload_n hx hb dX0_init_52 rfl (lv_at hl 0 rfl) ?_
  refine tw_new (ci := 8) (T := TX8) F hH rfl iw_X8 tyX8 tyX8_ok (tw_gl kw_389 rfl) (tw_gl kw_153 rfl) (tw_gl kw_8 rfl) kd_X8 (Nat.le_of_ble_eq_true rfl) (Nat.le_of_ble_eq_true rfl) dX0_init_53 (fun H locs ad278 w275 ha279 hw276 hne277 hH => ?_)
  refine lv_dup hx hb dX0_init_56 rfl ?_
  refine tw_calln F hH (tw_runI (r := 215) (As := []) (rest := [.ref (ad278 215), .int (9 : Int32), .ref (ad7 157)]) F hH (c_X8_init l G 215 ad278 w275 H.size hw276) (tw_gl kw_393 rfl) km_X8_init (tw_gl kw_155 rfl) rfl rfl rfl ⟨(Nat.le_of_ble_eq_true rfl), (Nat.le_of_ble_eq_true rfl)⟩ rfl hl.1 rfl (Nat.le_of_ble_eq_true rfl) dX0_init_57 ⟨(Nat.le_of_ble_eq_true rfl), (Nat.le_of_ble_eq_true rfl)⟩) (fun ad282 w280 H locs hp281 ha283 _ hH => ?_)
  obtain ⟨-, hw285, hw286, hw287, hw288, hw289, hw290, hfr291⟩ := hp281
  have bk215 : textB G ad282 w280 215 := ⟨hw285, hw286, hw287, hw288, hw289, hw290⟩
  clear hw285 hw287 hw288 hw289 hw290
  have hw292 : w280 157 = .inl (G.2.1 4, 10, .inr (.inr (.inr (.inr (va_up (va_up (va_up (va_up (va_up (va_up (va_up (va_up (va_up (fun _ => none) 0 (some (ad44 161))) 1 (some (ad70 167))) 2 (some (ad96 173))) 3 (some (ad122 179))) 4 (some (ad148 185))) 5 (some (ad174 191))) 6 (some (ad200 197))) 7 (some (ad226 203))) 8 (some (ad252 209))))))) := (hfr291 157 (by decide)).trans ((hne277 157 (nn_ne rfl)).trans (hw268))
  have ha296 : ad282 157 = ad7 157 := (((ha283 157 (nn_lt rfl)).trans (ha279 157 (nn_lt rfl))).trans ha270)
  have ha297 : ad282 215 = ad278 215 := (ha283 215 (nn_lt rfl))
  refine tw_aast (r := 157) (t := 4) (j := 9) (r2 := 215) F hH rfl ha296 (by decide) hw292 rfl ha297 (by decide) hw286 (by decide) (by decide) dX0_init_60 (fun H locs w293 hw294 hne295 hH => ?_)
  refine lv_iinc (v := (10 : Int32)) (lv' := [(2, .int (10 : Int32)), (0, .ref (ad 156)), (1, .ref (ad 1))]) hx hb dX0_init_61 hl (k := 0) rfl (by decide) (by decide) rfl (fun ls hl => ?_)
  refine lv_goto (tgt := 42) hx hb dX0_init_64 (by decide) ?_
  refine lv_iload_n hx hb dX0_init_42 rfl (lv_at hl 0 rfl) ?_
  refine lv_bipush (v := 10) hx hb dX0_init_43 (by decide) ?_
  refine lv_icmp_ge (tgt := 67) hx hb dX0_init_45 (by decide) (fun _ => ?_) (fun c => absurd c (by decide))
  have hw299 : w293 156 = .inr (0, [.ref (ad 1), .ref (ad7 157), .ref (ad16 158), .int (0 : Int32), .ref (ad25 159)]) := (hne295 156 (nn_ne rfl)).trans ((hfr291 156 (by decide)).trans ((hne277 156 (nn_ne rfl)).trans (hw273)))
  have ha300 : ad282 1 = ad 1 := ((((((((((((((((((((((((ha283 1 (nn_lt rfl)).trans (ha279 1 (nn_lt rfl))).trans (ha257 1 (nn_lt rfl))).trans (ha253 1 (nn_lt rfl))).trans (ha231 1 (nn_lt rfl))).trans (ha227 1 (nn_lt rfl))).trans (ha205 1 (nn_lt rfl))).trans (ha201 1 (nn_lt rfl))).trans (ha179 1 (nn_lt rfl))).trans (ha175 1 (nn_lt rfl))).trans (ha153 1 (nn_lt rfl))).trans (ha149 1 (nn_lt rfl))).trans (ha127 1 (nn_lt rfl))).trans (ha123 1 (nn_lt rfl))).trans (ha101 1 (nn_lt rfl))).trans (ha97 1 (nn_lt rfl))).trans (ha75 1 (nn_lt rfl))).trans (ha71 1 (nn_lt rfl))).trans (ha49 1 (nn_lt rfl))).trans (ha45 1 (nn_lt rfl))).trans (ha30 1 (nn_lt rfl))).trans (ha26 1 (nn_lt rfl))).trans (ha17 1 (nn_lt rfl))).trans (ha8 1 (nn_lt rfl)))
  have ha301 : ad282 158 = ad16 158 := ((((((((((((((((((((((ha283 158 (nn_lt rfl)).trans (ha279 158 (nn_lt rfl))).trans (ha257 158 (nn_lt rfl))).trans (ha253 158 (nn_lt rfl))).trans (ha231 158 (nn_lt rfl))).trans (ha227 158 (nn_lt rfl))).trans (ha205 158 (nn_lt rfl))).trans (ha201 158 (nn_lt rfl))).trans (ha179 158 (nn_lt rfl))).trans (ha175 158 (nn_lt rfl))).trans (ha153 158 (nn_lt rfl))).trans (ha149 158 (nn_lt rfl))).trans (ha127 158 (nn_lt rfl))).trans (ha123 158 (nn_lt rfl))).trans (ha101 158 (nn_lt rfl))).trans (ha97 158 (nn_lt rfl))).trans (ha75 158 (nn_lt rfl))).trans (ha71 158 (nn_lt rfl))).trans (ha49 158 (nn_lt rfl))).trans (ha45 158 (nn_lt rfl))).trans (ha30 158 (nn_lt rfl))).trans (ha26 158 (nn_lt rfl)))
  have ha302 : ad282 159 = ad25 159 := (((((((((((((((((((((ha283 159 (nn_lt rfl)).trans (ha279 159 (nn_lt rfl))).trans (ha257 159 (nn_lt rfl))).trans (ha253 159 (nn_lt rfl))).trans (ha231 159 (nn_lt rfl))).trans (ha227 159 (nn_lt rfl))).trans (ha205 159 (nn_lt rfl))).trans (ha201 159 (nn_lt rfl))).trans (ha179 159 (nn_lt rfl))).trans (ha175 159 (nn_lt rfl))).trans (ha153 159 (nn_lt rfl))).trans (ha149 159 (nn_lt rfl))).trans (ha127 159 (nn_lt rfl))).trans (ha123 159 (nn_lt rfl))).trans (ha101 159 (nn_lt rfl))).trans (ha97 159 (nn_lt rfl))).trans (ha75 159 (nn_lt rfl))).trans (ha71 159 (nn_lt rfl))).trans (ha49 159 (nn_lt rfl))).trans (ha45 159 (nn_lt rfl))).trans (ha30 159 (nn_lt rfl)))
  have hw303 : w293 156 = .inr (0, [.ref (ad282 1), .ref (ad282 157), .ref (ad282 158), .int (0 : Int32), .ref (ad282 159)]) := by rw [hw299]; rw [show ad 1 = ad282 1 from ha300.symm, show ad7 157 = ad282 157 from ha296.symm, show ad16 158 = ad282 158 from ha301.symm, show ad25 159 = ad282 159 from ha302.symm]
  have ha304 : ad282 161 = ad44 161 := (((((((((((((((((((ha283 161 (nn_lt rfl)).trans (ha279 161 (nn_lt rfl))).trans (ha257 161 (nn_lt rfl))).trans (ha253 161 (nn_lt rfl))).trans (ha231 161 (nn_lt rfl))).trans (ha227 161 (nn_lt rfl))).trans (ha205 161 (nn_lt rfl))).trans (ha201 161 (nn_lt rfl))).trans (ha179 161 (nn_lt rfl))).trans (ha175 161 (nn_lt rfl))).trans (ha153 161 (nn_lt rfl))).trans (ha149 161 (nn_lt rfl))).trans (ha127 161 (nn_lt rfl))).trans (ha123 161 (nn_lt rfl))).trans (ha101 161 (nn_lt rfl))).trans (ha97 161 (nn_lt rfl))).trans (ha75 161 (nn_lt rfl))).trans (ha71 161 (nn_lt rfl))).trans ha63)
  have ha305 : ad282 167 = ad70 167 := (((((((((((((((((ha283 167 (nn_lt rfl)).trans (ha279 167 (nn_lt rfl))).trans (ha257 167 (nn_lt rfl))).trans (ha253 167 (nn_lt rfl))).trans (ha231 167 (nn_lt rfl))).trans (ha227 167 (nn_lt rfl))).trans (ha205 167 (nn_lt rfl))).trans (ha201 167 (nn_lt rfl))).trans (ha179 167 (nn_lt rfl))).trans (ha175 167 (nn_lt rfl))).trans (ha153 167 (nn_lt rfl))).trans (ha149 167 (nn_lt rfl))).trans (ha127 167 (nn_lt rfl))).trans (ha123 167 (nn_lt rfl))).trans (ha101 167 (nn_lt rfl))).trans (ha97 167 (nn_lt rfl))).trans ha89)
  have ha306 : ad282 173 = ad96 173 := (((((((((((((((ha283 173 (nn_lt rfl)).trans (ha279 173 (nn_lt rfl))).trans (ha257 173 (nn_lt rfl))).trans (ha253 173 (nn_lt rfl))).trans (ha231 173 (nn_lt rfl))).trans (ha227 173 (nn_lt rfl))).trans (ha205 173 (nn_lt rfl))).trans (ha201 173 (nn_lt rfl))).trans (ha179 173 (nn_lt rfl))).trans (ha175 173 (nn_lt rfl))).trans (ha153 173 (nn_lt rfl))).trans (ha149 173 (nn_lt rfl))).trans (ha127 173 (nn_lt rfl))).trans (ha123 173 (nn_lt rfl))).trans ha115)
  have ha307 : ad282 179 = ad122 179 := (((((((((((((ha283 179 (nn_lt rfl)).trans (ha279 179 (nn_lt rfl))).trans (ha257 179 (nn_lt rfl))).trans (ha253 179 (nn_lt rfl))).trans (ha231 179 (nn_lt rfl))).trans (ha227 179 (nn_lt rfl))).trans (ha205 179 (nn_lt rfl))).trans (ha201 179 (nn_lt rfl))).trans (ha179 179 (nn_lt rfl))).trans (ha175 179 (nn_lt rfl))).trans (ha153 179 (nn_lt rfl))).trans (ha149 179 (nn_lt rfl))).trans ha141)
  have ha308 : ad282 185 = ad148 185 := (((((((((((ha283 185 (nn_lt rfl)).trans (ha279 185 (nn_lt rfl))).trans (ha257 185 (nn_lt rfl))).trans (ha253 185 (nn_lt rfl))).trans (ha231 185 (nn_lt rfl))).trans (ha227 185 (nn_lt rfl))).trans (ha205 185 (nn_lt rfl))).trans (ha201 185 (nn_lt rfl))).trans (ha179 185 (nn_lt rfl))).trans (ha175 185 (nn_lt rfl))).trans ha167)
  have ha309 : ad282 191 = ad174 191 := (((((((((ha283 191 (nn_lt rfl)).trans (ha279 191 (nn_lt rfl))).trans (ha257 191 (nn_lt rfl))).trans (ha253 191 (nn_lt rfl))).trans (ha231 191 (nn_lt rfl))).trans (ha227 191 (nn_lt rfl))).trans (ha205 191 (nn_lt rfl))).trans (ha201 191 (nn_lt rfl))).trans ha193)
  have ha310 : ad282 197 = ad200 197 := (((((((ha283 197 (nn_lt rfl)).trans (ha279 197 (nn_lt rfl))).trans (ha257 197 (nn_lt rfl))).trans (ha253 197 (nn_lt rfl))).trans (ha231 197 (nn_lt rfl))).trans (ha227 197 (nn_lt rfl))).trans ha219)
  have ha311 : ad282 203 = ad226 203 := (((((ha283 203 (nn_lt rfl)).trans (ha279 203 (nn_lt rfl))).trans (ha257 203 (nn_lt rfl))).trans (ha253 203 (nn_lt rfl))).trans ha245)
  have ha312 : ad282 209 = ad252 209 := (((ha283 209 (nn_lt rfl)).trans (ha279 209 (nn_lt rfl))).trans ha271)
  have hw313 : w293 157 = .inl (G.2.1 4, 10, .inr (.inr (.inr (.inr (va_up (va_up (va_up (va_up (va_up (va_up (va_up (va_up (va_up (va_up (fun _ => none) 0 (some (ad282 161))) 1 (some (ad282 167))) 2 (some (ad282 173))) 3 (some (ad282 179))) 4 (some (ad282 185))) 5 (some (ad282 191))) 6 (some (ad282 197))) 7 (some (ad282 203))) 8 (some (ad282 209))) 9 (some (ad282 215))))))) := by rw [hw294]; rw [show ad44 161 = ad282 161 from ha304.symm, show ad70 167 = ad282 167 from ha305.symm, show ad96 173 = ad282 173 from ha306.symm, show ad122 179 = ad282 179 from ha307.symm, show ad148 185 = ad282 185 from ha308.symm, show ad174 191 = ad282 191 from ha309.symm, show ad200 197 = ad282 197 from ha310.symm, show ad226 203 = ad282 203 from ha311.symm, show ad252 209 = ad282 209 from ha312.symm, show ad278 215 = ad282 215 from ha297.symm]
  have hw314 : w293 158 = .inl (G.2.1 0, 10, .inl (fun _ => 0)) := (hne295 158 (nn_ne rfl)).trans ((hfr291 158 (by decide)).trans ((hne277 158 (nn_ne rfl)).trans ((hne269 158 (nn_ne rfl)).trans ((hfr265 158 (by decide)).trans ((hne251 158 (nn_ne rfl)).trans ((hne243 158 (nn_ne rfl)).trans ((hfr239 158 (by decide)).trans ((hne225 158 (nn_ne rfl)).trans ((hne217 158 (nn_ne rfl)).trans ((hfr213 158 (by decide)).trans ((hne199 158 (nn_ne rfl)).trans ((hne191 158 (nn_ne rfl)).trans ((hfr187 158 (by decide)).trans ((hne173 158 (nn_ne rfl)).trans ((hne165 158 (nn_ne rfl)).trans ((hfr161 158 (by decide)).trans ((hne147 158 (nn_ne rfl)).trans ((hne139 158 (nn_ne rfl)).trans ((hfr135 158 (by decide)).trans ((hne121 158 (nn_ne rfl)).trans ((hne113 158 (nn_ne rfl)).trans ((hfr109 158 (by decide)).trans ((hne95 158 (nn_ne rfl)).trans ((hne87 158 (nn_ne rfl)).trans ((hfr83 158 (by decide)).trans ((hne69 158 (nn_ne rfl)).trans ((hne61 158 (nn_ne rfl)).trans ((hfr57 158 (by decide)).trans ((hne43 158 (nn_ne rfl)).trans ((hne38 158 (nn_ne rfl)).trans ((hfr34 158 (by decide)).trans ((hne24 158 (nn_ne rfl)).trans ((hne21 158 (nn_ne rfl)).trans (hw14))))))))))))))))))))))))))))))))))
  have hw315 : w293 159 = .inr (7, [.int (20 : Int32), .int (4 : Int32), .ref (ad29 160), .int (0 : Int32)]) := (hne295 159 (nn_ne rfl)).trans ((hfr291 159 (by decide)).trans ((hne277 159 (nn_ne rfl)).trans ((hne269 159 (nn_ne rfl)).trans ((hfr265 159 (by decide)).trans ((hne251 159 (nn_ne rfl)).trans ((hne243 159 (nn_ne rfl)).trans ((hfr239 159 (by decide)).trans ((hne225 159 (nn_ne rfl)).trans ((hne217 159 (nn_ne rfl)).trans ((hfr213 159 (by decide)).trans ((hne199 159 (nn_ne rfl)).trans ((hne191 159 (nn_ne rfl)).trans ((hfr187 159 (by decide)).trans ((hne173 159 (nn_ne rfl)).trans ((hne165 159 (nn_ne rfl)).trans ((hfr161 159 (by decide)).trans ((hne147 159 (nn_ne rfl)).trans ((hne139 159 (nn_ne rfl)).trans ((hfr135 159 (by decide)).trans ((hne121 159 (nn_ne rfl)).trans ((hne113 159 (nn_ne rfl)).trans ((hfr109 159 (by decide)).trans ((hne95 159 (nn_ne rfl)).trans ((hne87 159 (nn_ne rfl)).trans ((hfr83 159 (by decide)).trans ((hne69 159 (nn_ne rfl)).trans ((hne61 159 (nn_ne rfl)).trans ((hfr57 159 (by decide)).trans ((hne43 159 (nn_ne rfl)).trans ((hne38 159 (nn_ne rfl)).trans (hw32)))))))))))))))))))))))))))))))
  have ha316 : ad282 160 = ad29 160 := ((((((((((((((((((((ha283 160 (nn_lt rfl)).trans (ha279 160 (nn_lt rfl))).trans (ha257 160 (nn_lt rfl))).trans (ha253 160 (nn_lt rfl))).trans (ha231 160 (nn_lt rfl))).trans (ha227 160 (nn_lt rfl))).trans (ha205 160 (nn_lt rfl))).trans (ha201 160 (nn_lt rfl))).trans (ha179 160 (nn_lt rfl))).trans (ha175 160 (nn_lt rfl))).trans (ha153 160 (nn_lt rfl))).trans (ha149 160 (nn_lt rfl))).trans (ha127 160 (nn_lt rfl))).trans (ha123 160 (nn_lt rfl))).trans (ha101 160 (nn_lt rfl))).trans (ha97 160 (nn_lt rfl))).trans (ha75 160 (nn_lt rfl))).trans (ha71 160 (nn_lt rfl))).trans (ha49 160 (nn_lt rfl))).trans (ha45 160 (nn_lt rfl)))
  have hw317 : w293 159 = .inr (7, [.int (20 : Int32), .int (4 : Int32), .ref (ad282 160), .int (0 : Int32)]) := by rw [hw315]; rw [show ad29 160 = ad282 160 from ha316.symm]
  have hw318 : w293 160 = .inl (G.2.1 0, 80, .inl (fun _ => 0)) := (hne295 160 (nn_ne rfl)).trans ((hfr291 160 (by decide)).trans ((hne277 160 (nn_ne rfl)).trans ((hne269 160 (nn_ne rfl)).trans ((hfr265 160 (by decide)).trans ((hne251 160 (nn_ne rfl)).trans ((hne243 160 (nn_ne rfl)).trans ((hfr239 160 (by decide)).trans ((hne225 160 (nn_ne rfl)).trans ((hne217 160 (nn_ne rfl)).trans ((hfr213 160 (by decide)).trans ((hne199 160 (nn_ne rfl)).trans ((hne191 160 (nn_ne rfl)).trans ((hfr187 160 (by decide)).trans ((hne173 160 (nn_ne rfl)).trans ((hne165 160 (nn_ne rfl)).trans ((hfr161 160 (by decide)).trans ((hne147 160 (nn_ne rfl)).trans ((hne139 160 (nn_ne rfl)).trans ((hfr135 160 (by decide)).trans ((hne121 160 (nn_ne rfl)).trans ((hne113 160 (nn_ne rfl)).trans ((hfr109 160 (by decide)).trans ((hne95 160 (nn_ne rfl)).trans ((hne87 160 (nn_ne rfl)).trans ((hfr83 160 (by decide)).trans ((hne69 160 (nn_ne rfl)).trans ((hne61 160 (nn_ne rfl)).trans ((hfr57 160 (by decide)).trans ((hne43 160 (nn_ne rfl)).trans ((hne38 160 (nn_ne rfl)).trans (hw33)))))))))))))))))))))))))))))))
  have hBs : bookBs G ad282 w293 := ⟨bk161.ext (fun k h1 h2 => ((ha283 k (by omega)).trans ((ha279 k (by omega)).trans ((ha257 k (by omega)).trans ((ha253 k (by omega)).trans ((ha231 k (by omega)).trans ((ha227 k (by omega)).trans ((ha205 k (by omega)).trans ((ha201 k (by omega)).trans ((ha179 k (by omega)).trans ((ha175 k (by omega)).trans ((ha153 k (by omega)).trans ((ha149 k (by omega)).trans ((ha127 k (by omega)).trans ((ha123 k (by omega)).trans ((ha101 k (by omega)).trans ((ha97 k (by omega)).trans ((ha75 k (by omega)).trans (ha71 k (by omega)))))))))))))))))))) (fun k h1 h2 => ((hne295 k (by omega)).trans ((hfr291 k (by omega)).trans ((hne277 k (by omega)).trans ((hne269 k (by omega)).trans ((hfr265 k (by omega)).trans ((hne251 k (by omega)).trans ((hne243 k (by omega)).trans ((hfr239 k (by omega)).trans ((hne225 k (by omega)).trans ((hne217 k (by omega)).trans ((hfr213 k (by omega)).trans ((hne199 k (by omega)).trans ((hne191 k (by omega)).trans ((hfr187 k (by omega)).trans ((hne173 k (by omega)).trans ((hne165 k (by omega)).trans ((hfr161 k (by omega)).trans ((hne147 k (by omega)).trans ((hne139 k (by omega)).trans ((hfr135 k (by omega)).trans ((hne121 k (by omega)).trans ((hne113 k (by omega)).trans ((hfr109 k (by omega)).trans ((hne95 k (by omega)).trans ((hne87 k (by omega)).trans ((hfr83 k (by omega)).trans ((hne69 k (by omega)).trans (hne61 k (by omega)))))))))))))))))))))))))))))),
    bk167.ext (fun k h1 h2 => ((ha283 k (by omega)).trans ((ha279 k (by omega)).trans ((ha257 k (by omega)).trans ((ha253 k (by omega)).trans ((ha231 k (by omega)).trans ((ha227 k (by omega)).trans ((ha205 k (by omega)).trans ((ha201 k (by omega)).trans ((ha179 k (by omega)).trans ((ha175 k (by omega)).trans ((ha153 k (by omega)).trans ((ha149 k (by omega)).trans ((ha127 k (by omega)).trans ((ha123 k (by omega)).trans ((ha101 k (by omega)).trans (ha97 k (by omega)))))))))))))))))) (fun k h1 h2 => ((hne295 k (by omega)).trans ((hfr291 k (by omega)).trans ((hne277 k (by omega)).trans ((hne269 k (by omega)).trans ((hfr265 k (by omega)).trans ((hne251 k (by omega)).trans ((hne243 k (by omega)).trans ((hfr239 k (by omega)).trans ((hne225 k (by omega)).trans ((hne217 k (by omega)).trans ((hfr213 k (by omega)).trans ((hne199 k (by omega)).trans ((hne191 k (by omega)).trans ((hfr187 k (by omega)).trans ((hne173 k (by omega)).trans ((hne165 k (by omega)).trans ((hfr161 k (by omega)).trans ((hne147 k (by omega)).trans ((hne139 k (by omega)).trans ((hfr135 k (by omega)).trans ((hne121 k (by omega)).trans ((hne113 k (by omega)).trans ((hfr109 k (by omega)).trans ((hne95 k (by omega)).trans (hne87 k (by omega))))))))))))))))))))))))))),
    bk173.ext (fun k h1 h2 => ((ha283 k (by omega)).trans ((ha279 k (by omega)).trans ((ha257 k (by omega)).trans ((ha253 k (by omega)).trans ((ha231 k (by omega)).trans ((ha227 k (by omega)).trans ((ha205 k (by omega)).trans ((ha201 k (by omega)).trans ((ha179 k (by omega)).trans ((ha175 k (by omega)).trans ((ha153 k (by omega)).trans ((ha149 k (by omega)).trans ((ha127 k (by omega)).trans (ha123 k (by omega)))))))))))))))) (fun k h1 h2 => ((hne295 k (by omega)).trans ((hfr291 k (by omega)).trans ((hne277 k (by omega)).trans ((hne269 k (by omega)).trans ((hfr265 k (by omega)).trans ((hne251 k (by omega)).trans ((hne243 k (by omega)).trans ((hfr239 k (by omega)).trans ((hne225 k (by omega)).trans ((hne217 k (by omega)).trans ((hfr213 k (by omega)).trans ((hne199 k (by omega)).trans ((hne191 k (by omega)).trans ((hfr187 k (by omega)).trans ((hne173 k (by omega)).trans ((hne165 k (by omega)).trans ((hfr161 k (by omega)).trans ((hne147 k (by omega)).trans ((hne139 k (by omega)).trans ((hfr135 k (by omega)).trans ((hne121 k (by omega)).trans (hne113 k (by omega)))))))))))))))))))))))),
    bk179.ext (fun k h1 h2 => ((ha283 k (by omega)).trans ((ha279 k (by omega)).trans ((ha257 k (by omega)).trans ((ha253 k (by omega)).trans ((ha231 k (by omega)).trans ((ha227 k (by omega)).trans ((ha205 k (by omega)).trans ((ha201 k (by omega)).trans ((ha179 k (by omega)).trans ((ha175 k (by omega)).trans ((ha153 k (by omega)).trans (ha149 k (by omega)))))))))))))) (fun k h1 h2 => ((hne295 k (by omega)).trans ((hfr291 k (by omega)).trans ((hne277 k (by omega)).trans ((hne269 k (by omega)).trans ((hfr265 k (by omega)).trans ((hne251 k (by omega)).trans ((hne243 k (by omega)).trans ((hfr239 k (by omega)).trans ((hne225 k (by omega)).trans ((hne217 k (by omega)).trans ((hfr213 k (by omega)).trans ((hne199 k (by omega)).trans ((hne191 k (by omega)).trans ((hfr187 k (by omega)).trans ((hne173 k (by omega)).trans ((hne165 k (by omega)).trans ((hfr161 k (by omega)).trans ((hne147 k (by omega)).trans (hne139 k (by omega))))))))))))))))))))),
    bk185.ext (fun k h1 h2 => ((ha283 k (by omega)).trans ((ha279 k (by omega)).trans ((ha257 k (by omega)).trans ((ha253 k (by omega)).trans ((ha231 k (by omega)).trans ((ha227 k (by omega)).trans ((ha205 k (by omega)).trans ((ha201 k (by omega)).trans ((ha179 k (by omega)).trans (ha175 k (by omega)))))))))))) (fun k h1 h2 => ((hne295 k (by omega)).trans ((hfr291 k (by omega)).trans ((hne277 k (by omega)).trans ((hne269 k (by omega)).trans ((hfr265 k (by omega)).trans ((hne251 k (by omega)).trans ((hne243 k (by omega)).trans ((hfr239 k (by omega)).trans ((hne225 k (by omega)).trans ((hne217 k (by omega)).trans ((hfr213 k (by omega)).trans ((hne199 k (by omega)).trans ((hne191 k (by omega)).trans ((hfr187 k (by omega)).trans ((hne173 k (by omega)).trans (hne165 k (by omega)))))))))))))))))),
    bk191.ext (fun k h1 h2 => ((ha283 k (by omega)).trans ((ha279 k (by omega)).trans ((ha257 k (by omega)).trans ((ha253 k (by omega)).trans ((ha231 k (by omega)).trans ((ha227 k (by omega)).trans ((ha205 k (by omega)).trans (ha201 k (by omega)))))))))) (fun k h1 h2 => ((hne295 k (by omega)).trans ((hfr291 k (by omega)).trans ((hne277 k (by omega)).trans ((hne269 k (by omega)).trans ((hfr265 k (by omega)).trans ((hne251 k (by omega)).trans ((hne243 k (by omega)).trans ((hfr239 k (by omega)).trans ((hne225 k (by omega)).trans ((hne217 k (by omega)).trans ((hfr213 k (by omega)).trans ((hne199 k (by omega)).trans (hne191 k (by omega))))))))))))))),
    bk197.ext (fun k h1 h2 => ((ha283 k (by omega)).trans ((ha279 k (by omega)).trans ((ha257 k (by omega)).trans ((ha253 k (by omega)).trans ((ha231 k (by omega)).trans (ha227 k (by omega)))))))) (fun k h1 h2 => ((hne295 k (by omega)).trans ((hfr291 k (by omega)).trans ((hne277 k (by omega)).trans ((hne269 k (by omega)).trans ((hfr265 k (by omega)).trans ((hne251 k (by omega)).trans ((hne243 k (by omega)).trans ((hfr239 k (by omega)).trans ((hne225 k (by omega)).trans (hne217 k (by omega)))))))))))),
    bk203.ext (fun k h1 h2 => ((ha283 k (by omega)).trans ((ha279 k (by omega)).trans ((ha257 k (by omega)).trans (ha253 k (by omega)))))) (fun k h1 h2 => ((hne295 k (by omega)).trans ((hfr291 k (by omega)).trans ((hne277 k (by omega)).trans ((hne269 k (by omega)).trans ((hfr265 k (by omega)).trans ((hne251 k (by omega)).trans (hne243 k (by omega))))))))),
    bk209.ext (fun k h1 h2 => ((ha283 k (by omega)).trans (ha279 k (by omega)))) (fun k h1 h2 => ((hne295 k (by omega)).trans ((hfr291 k (by omega)).trans ((hne277 k (by omega)).trans (hne269 k (by omega)))))),
    bk215.ext (fun _ _ _ => rfl) (fun k h1 h2 => (hne295 k (by omega)))⟩
  exact tw_nret F hH (fun k hk => ((ha283 k (by omega)).trans ((ha279 k (by omega)).trans ((ha257 k (by omega)).trans ((ha253 k (by omega)).trans ((ha231 k (by omega)).trans ((ha227 k (by omega)).trans ((ha205 k (by omega)).trans ((ha201 k (by omega)).trans ((ha179 k (by omega)).trans ((ha175 k (by omega)).trans ((ha153 k (by omega)).trans ((ha149 k (by omega)).trans ((ha127 k (by omega)).trans ((ha123 k (by omega)).trans ((ha101 k (by omega)).trans ((ha97 k (by omega)).trans ((ha75 k (by omega)).trans ((ha71 k (by omega)).trans ((ha49 k (by omega)).trans ((ha45 k (by omega)).trans ((ha30 k (by omega)).trans ((ha26 k (by omega)).trans ((ha17 k (by omega)).trans (ha8 k (by omega)))))))))))))))))))))))))) hret hlk (Nat.le_of_ble_eq_true rfl) (Nat.le_of_ble_eq_true rfl) dX0_init_67 (⟨hBs, hw303, hw313, hw314, hw317, hw318, fun k hk => ((hne295 k (by omega)).trans ((hfr291 k (by omega)).trans ((hne277 k (by omega)).trans ((hne269 k (by omega)).trans ((hfr265 k (by omega)).trans ((hne251 k (by omega)).trans ((hne243 k (by omega)).trans ((hfr239 k (by omega)).trans ((hne225 k (by omega)).trans ((hne217 k (by omega)).trans ((hfr213 k (by omega)).trans ((hne199 k (by omega)).trans ((hne191 k (by omega)).trans ((hfr187 k (by omega)).trans ((hne173 k (by omega)).trans ((hne165 k (by omega)).trans ((hfr161 k (by omega)).trans ((hne147 k (by omega)).trans ((hne139 k (by omega)).trans ((hfr135 k (by omega)).trans ((hne121 k (by omega)).trans ((hne113 k (by omega)).trans ((hfr109 k (by omega)).trans ((hne95 k (by omega)).trans ((hne87 k (by omega)).trans ((hfr83 k (by omega)).trans ((hne69 k (by omega)).trans ((hne61 k (by omega)).trans ((hfr57 k (by omega)).trans ((hne43 k (by omega)).trans ((hne38 k (by omega)).trans ((hfr34 k (by omega)).trans ((hne24 k (by omega)).trans ((hne21 k (by omega)).trans ((hne15 k (by omega)).trans ((hne12 k (by omega)).trans ((hne6 k (by omega)).trans (hne3 k (by omega)))))))))))))))))))))))))))))))))))))))⟩)
set_option maxHeartbeats 4000000 in
set_option maxRecDepth 100000 in
theorem c_X5_init (l : Launch) (G : tw_G) (ad : Nat → Nat) (w : Nat → va_E) (sz : Nat) (hw_221 : w 221 = .inr (5, [.null, .null, .null, .null, .null])) : Met l yX5_init (tw_ws yX5_init cX5_init 3 none) ({ frames := 1, cells := 3, slots := 18, locals := 20 }) (tw_Pre G 222 ad w sz [.ref (ad 221), .ref (ad 14), .ref (ad 156)]) (tw_Qn G 222 3 ad (fun u => (True ∧ u.2 221 = .inr (5, [.ref (u.1 14), .ref (u.1 156), .ref (u.1 222), .ref (u.1 223), .ref (u.1 224)]) ∧ u.2 222 = .inl (G.2.1 1, 6, .inl (fun _ => 0)) ∧ u.2 223 = .inl (G.2.1 0, 6, .inl (fun _ => 0)) ∧ u.2 224 = .inl (G.2.1 0, 6, .inl (fun _ => 0)) ∧ ∀ k, k < 221 → u.2 k = w k)) sz) 3 18 (tw_A 222 ad sz) := by
  refine tw_met (by decide) (Nat.le_of_ble_eq_true rfl) ?_
  intro p e s m args below meth c F hret hlk hin hargs hsz hH ls hl
  have hx := F.1.1
  have hb := F.1.2.1
  have hown := F.1.2.2.2.1
  have hts := F.1.2.2.2.2
  have hl : lv_has ls 3 [(0, .ref (ad 221)), (1, .ref (ad 14)), (2, .ref (ad 156))] := hl
  generalize hH0 : s.heap = H at hH ⊢
  refine lv_aload_n hx hb dX5_init_0 rfl (lv_at hl 0 rfl) ?_
  refine tw_objInit F (tw_gl kw_417 rfl) (tw_gl kw_32 rfl) (tw_gl kw_33 rfl) hl.1 ⟨(Nat.le_of_ble_eq_true rfl), (Nat.le_of_ble_eq_true rfl)⟩ (Nat.le_of_ble_eq_true rfl) dX5_init_1 ?_
  refine lv_aload_n hx hb dX5_init_4 rfl (lv_at hl 0 rfl) ?_
  refine lv_aload_n hx hb dX5_init_5 rfl (lv_at hl 1 rfl) ?_
  refine tw_putF (r := 221) F hH kf_RX5_9 kp_X5_0 hin rfl rfl (by decide) hw_221 (Nat.le_of_ble_eq_true rfl) rfl rfl dX5_init_6 (fun H locs w1 hw2 hne3 hH => ?_)
  have hw2 : w1 221 = .inr (5, [.ref (ad 14), .null, .null, .null, .null]) := hw2
  refine lv_aload_n hx hb dX5_init_9 rfl (lv_at hl 0 rfl) ?_
  refine lv_aload_n hx hb dX5_init_10 rfl (lv_at hl 2 rfl) ?_
  refine tw_putF (r := 221) F hH kf_RX5_15 kp_X5_1 hin rfl rfl (by decide) hw2 (Nat.le_of_ble_eq_true rfl) rfl rfl dX5_init_11 (fun H locs w4 hw5 hne6 hH => ?_)
  have hw5 : w4 221 = .inr (5, [.ref (ad 14), .ref (ad 156), .null, .null, .null]) := hw5
  refine lv_aload_n hx hb dX5_init_14 rfl (lv_at hl 0 rfl) ?_
  refine lv_bipush (v := 6) hx hb dX5_init_15 (by decide) ?_
  refine tw_newa (t := 1) (atype := .boolean) (ty := .boolean) (n' := 6) (a0 := (6, .inl (fun _ => 0))) F hH rfl (fun C h => by cases h) (tw_gl kw_83 rfl) rfl (fun _ => rfl) (by decide) (Nat.le_of_ble_eq_true rfl) (Nat.le_of_ble_eq_true rfl) (Nat.le_of_ble_eq_true rfl) dX5_init_17 (fun H locs ad10 w7 ha11 hw8 hne9 hH => ?_)
  have hw12 : w7 221 = .inr (5, [.ref (ad 14), .ref (ad 156), .null, .null, .null]) := (hne9 221 (nn_ne rfl)).trans (hw5)
  refine tw_putF (r := 221) F hH kf_RX5_19 kp_X5_2 hin rfl (ha11 221 (nn_lt rfl)) (by decide) hw12 (Nat.le_of_ble_eq_true rfl) rfl rfl dX5_init_19 (fun H locs w13 hw14 hne15 hH => ?_)
  have hw14 : w13 221 = .inr (5, [.ref (ad 14), .ref (ad 156), .ref (ad10 222), .null, .null]) := hw14
  refine lv_aload_n hx hb dX5_init_22 rfl (lv_at hl 0 rfl) ?_
  refine lv_bipush (v := 6) hx hb dX5_init_23 (by decide) ?_
  refine tw_newa (t := 0) (atype := .int) (ty := .int) (n' := 6) (a0 := (6, .inl (fun _ => 0))) F hH rfl (fun C h => by cases h) (tw_gl kw_47 rfl) rfl (fun _ => rfl) (by decide) (Nat.le_of_ble_eq_true rfl) (Nat.le_of_ble_eq_true rfl) (Nat.le_of_ble_eq_true rfl) dX5_init_25 (fun H locs ad19 w16 ha20 hw17 hne18 hH => ?_)
  have hw21 : w16 221 = .inr (5, [.ref (ad 14), .ref (ad 156), .ref (ad10 222), .null, .null]) := (hne18 221 (nn_ne rfl)).trans (hw14)
  refine tw_putF (r := 221) F hH kf_RX5_23 kp_X5_3 hin rfl ((ha20 221 (nn_lt rfl)).trans (ha11 221 (nn_lt rfl))) (by decide) hw21 (Nat.le_of_ble_eq_true rfl) rfl rfl dX5_init_27 (fun H locs w22 hw23 hne24 hH => ?_)
  have hw23 : w22 221 = .inr (5, [.ref (ad 14), .ref (ad 156), .ref (ad10 222), .ref (ad19 223), .null]) := hw23
  refine lv_aload_n hx hb dX5_init_30 rfl (lv_at hl 0 rfl) ?_
  refine lv_bipush (v := 6) hx hb dX5_init_31 (by decide) ?_
  refine tw_newa (t := 0) (atype := .int) (ty := .int) (n' := 6) (a0 := (6, .inl (fun _ => 0))) F hH rfl (fun C h => by cases h) (tw_gl kw_47 rfl) rfl (fun _ => rfl) (by decide) (Nat.le_of_ble_eq_true rfl) (Nat.le_of_ble_eq_true rfl) (Nat.le_of_ble_eq_true rfl) dX5_init_33 (fun H locs ad28 w25 ha29 hw26 hne27 hH => ?_)
  have hw30 : w25 221 = .inr (5, [.ref (ad 14), .ref (ad 156), .ref (ad10 222), .ref (ad19 223), .null]) := (hne27 221 (nn_ne rfl)).trans (hw23)
  refine tw_putF (r := 221) F hH kf_RX5_27 kp_X5_4 hin rfl (((ha29 221 (nn_lt rfl)).trans (ha20 221 (nn_lt rfl))).trans (ha11 221 (nn_lt rfl))) (by decide) hw30 (Nat.le_of_ble_eq_true rfl) rfl rfl dX5_init_35 (fun H locs w31 hw32 hne33 hH => ?_)
  have hw32 : w31 221 = .inr (5, [.ref (ad 14), .ref (ad 156), .ref (ad10 222), .ref (ad19 223), .ref (ad28 224)]) := hw32
  have hw34 : w31 221 = .inr (5, [.ref (ad28 14), .ref (ad28 156), .ref (ad28 222), .ref (ad28 223), .ref (ad28 224)]) := by rw [hw32]; rw [show ad 14 = ad28 14 from (((ha29 14 (nn_lt rfl)).trans (ha20 14 (nn_lt rfl))).trans (ha11 14 (nn_lt rfl))).symm, show ad 156 = ad28 156 from (((ha29 156 (nn_lt rfl)).trans (ha20 156 (nn_lt rfl))).trans (ha11 156 (nn_lt rfl))).symm, show ad10 222 = ad28 222 from ((ha29 222 (nn_lt rfl)).trans (ha20 222 (nn_lt rfl))).symm, show ad19 223 = ad28 223 from (ha29 223 (nn_lt rfl)).symm]
  have hw35 : w31 222 = .inl (G.2.1 1, 6, .inl (fun _ => 0)) := (hne33 222 (nn_ne rfl)).trans ((hne27 222 (nn_ne rfl)).trans ((hne24 222 (nn_ne rfl)).trans ((hne18 222 (nn_ne rfl)).trans ((hne15 222 (nn_ne rfl)).trans (hw8)))))
  have hw36 : w31 223 = .inl (G.2.1 0, 6, .inl (fun _ => 0)) := (hne33 223 (nn_ne rfl)).trans ((hne27 223 (nn_ne rfl)).trans ((hne24 223 (nn_ne rfl)).trans (hw17)))
  have hw37 : w31 224 = .inl (G.2.1 0, 6, .inl (fun _ => 0)) := (hne33 224 (nn_ne rfl)).trans (hw26)
  exact tw_nret F hH (fun k hk => ((ha29 k (by omega)).trans ((ha20 k (by omega)).trans (ha11 k (by omega))))) hret hlk (Nat.le_of_ble_eq_true rfl) (Nat.le_of_ble_eq_true rfl) dX5_init_38 (⟨trivial, hw34, hw35, hw36, hw37, fun k hk => ((hne33 k (by omega)).trans ((hne27 k (by omega)).trans ((hne24 k (by omega)).trans ((hne18 k (by omega)).trans ((hne15 k (by omega)).trans ((hne9 k (by omega)).trans ((hne6 k (by omega)).trans (hne3 k (by omega)))))))))⟩)
set_option maxHeartbeats 4000000 in
set_option maxRecDepth 100000 in
theorem c_X10_init (l : Launch) (G : tw_G) (ad : Nat → Nat) (w : Nat → va_E) (sz : Nat) (hw_225 : w 225 = .inr (10, [.null, .null, .null, .null, .null, .int (0 : Int32), .int (0 : Int32), .null, .null, .null, .null])) : Met l yX10_init (tw_ws yX10_init cX10_init 3 none) ({ frames := 1, cells := 7, slots := 72, locals := 20 }) (tw_Pre G 226 ad w sz [.ref (ad 225), .ref (ad 14), .ref (ad 221)]) (tw_Qn G 226 7 ad (fun u => (True ∧ u.2 225 = .inr (10, [.ref (u.1 14), .ref (u.1 221), .ref (u.1 226), .ref (u.1 227), .ref (u.1 228), .int (0 : Int32), .int (0 : Int32), .ref (u.1 229), .ref (u.1 230), .ref (u.1 231), .ref (u.1 232)]) ∧ u.2 226 = .inl (G.2.1 0, 2, .inl (fun _ => 0)) ∧ u.2 227 = .inl (G.2.1 0, 2, .inl (fun _ => 0)) ∧ u.2 228 = .inl (G.2.1 0, 4, .inl (fun _ => 0)) ∧ u.2 229 = .inl (G.2.1 0, 16, .inl (fun _ => 0)) ∧ u.2 230 = .inl (G.2.1 0, 16, .inl (fun _ => 0)) ∧ u.2 231 = .inl (G.2.1 0, 16, .inl (fun _ => 0)) ∧ u.2 232 = .inl (G.2.1 0, 16, .inl (fun _ => 0)) ∧ ∀ k, k < 225 → u.2 k = w k)) sz) 7 72 (tw_A 226 ad sz) := by
  refine tw_met (by decide) (Nat.le_of_ble_eq_true rfl) ?_
  intro p e s m args below meth c F hret hlk hin hargs hsz hH ls hl
  have hx := F.1.1
  have hb := F.1.2.1
  have hown := F.1.2.2.2.1
  have hts := F.1.2.2.2.2
  have hl : lv_has ls 3 [(0, .ref (ad 225)), (1, .ref (ad 14)), (2, .ref (ad 221))] := hl
  generalize hH0 : s.heap = H at hH ⊢
  refine lv_aload_n hx hb dX10_init_0 rfl (lv_at hl 0 rfl) ?_
  refine tw_objInit F (tw_gl kw_441 rfl) (tw_gl kw_32 rfl) (tw_gl kw_33 rfl) hl.1 ⟨(Nat.le_of_ble_eq_true rfl), (Nat.le_of_ble_eq_true rfl)⟩ (Nat.le_of_ble_eq_true rfl) dX10_init_1 ?_
  refine lv_aload_n hx hb dX10_init_4 rfl (lv_at hl 0 rfl) ?_
  refine lv_aload_n hx hb dX10_init_5 rfl (lv_at hl 1 rfl) ?_
  refine tw_putF (r := 225) F hH kf_RX10_9 kp_X10_0 hin rfl rfl (by decide) hw_225 (Nat.le_of_ble_eq_true rfl) rfl rfl dX10_init_6 (fun H locs w1 hw2 hne3 hH => ?_)
  have hw2 : w1 225 = .inr (10, [.ref (ad 14), .null, .null, .null, .null, .int (0 : Int32), .int (0 : Int32), .null, .null, .null, .null]) := hw2
  refine lv_aload_n hx hb dX10_init_9 rfl (lv_at hl 0 rfl) ?_
  refine lv_aload_n hx hb dX10_init_10 rfl (lv_at hl 2 rfl) ?_
  refine tw_putF (r := 225) F hH kf_RX10_15 kp_X10_1 hin rfl rfl (by decide) hw2 (Nat.le_of_ble_eq_true rfl) rfl rfl dX10_init_11 (fun H locs w4 hw5 hne6 hH => ?_)
  have hw5 : w4 225 = .inr (10, [.ref (ad 14), .ref (ad 221), .null, .null, .null, .int (0 : Int32), .int (0 : Int32), .null, .null, .null, .null]) := hw5
  refine lv_aload_n hx hb dX10_init_14 rfl (lv_at hl 0 rfl) ?_
  refine lv_iconst (v := 2) hx hb dX10_init_15 (by decide) ?_
  refine tw_newa (t := 0) (atype := .int) (ty := .int) (n' := 2) (a0 := (2, .inl (fun _ => 0))) F hH rfl (fun C h => by cases h) (tw_gl kw_47 rfl) rfl (fun _ => rfl) (by decide) (Nat.le_of_ble_eq_true rfl) (Nat.le_of_ble_eq_true rfl) (Nat.le_of_ble_eq_true rfl) dX10_init_16 (fun H locs ad10 w7 ha11 hw8 hne9 hH => ?_)
  have hw12 : w7 225 = .inr (10, [.ref (ad 14), .ref (ad 221), .null, .null, .null, .int (0 : Int32), .int (0 : Int32), .null, .null, .null, .null]) := (hne9 225 (nn_ne rfl)).trans (hw5)
  refine tw_putF (r := 225) F hH kf_RX10_19 kp_X10_2 hin rfl (ha11 225 (nn_lt rfl)) (by decide) hw12 (Nat.le_of_ble_eq_true rfl) rfl rfl dX10_init_18 (fun H locs w13 hw14 hne15 hH => ?_)
  have hw14 : w13 225 = .inr (10, [.ref (ad 14), .ref (ad 221), .ref (ad10 226), .null, .null, .int (0 : Int32), .int (0 : Int32), .null, .null, .null, .null]) := hw14
  refine lv_aload_n hx hb dX10_init_21 rfl (lv_at hl 0 rfl) ?_
  refine lv_iconst (v := 2) hx hb dX10_init_22 (by decide) ?_
  refine tw_newa (t := 0) (atype := .int) (ty := .int) (n' := 2) (a0 := (2, .inl (fun _ => 0))) F hH rfl (fun C h => by cases h) (tw_gl kw_47 rfl) rfl (fun _ => rfl) (by decide) (Nat.le_of_ble_eq_true rfl) (Nat.le_of_ble_eq_true rfl) (Nat.le_of_ble_eq_true rfl) dX10_init_23 (fun H locs ad19 w16 ha20 hw17 hne18 hH => ?_)
  have hw21 : w16 225 = .inr (10, [.ref (ad 14), .ref (ad 221), .ref (ad10 226), .null, .null, .int (0 : Int32), .int (0 : Int32), .null, .null, .null, .null]) := (hne18 225 (nn_ne rfl)).trans (hw14)
  refine tw_putF (r := 225) F hH kf_RX10_23 kp_X10_3 hin rfl ((ha20 225 (nn_lt rfl)).trans (ha11 225 (nn_lt rfl))) (by decide) hw21 (Nat.le_of_ble_eq_true rfl) rfl rfl dX10_init_25 (fun H locs w22 hw23 hne24 hH => ?_)
  have hw23 : w22 225 = .inr (10, [.ref (ad 14), .ref (ad 221), .ref (ad10 226), .ref (ad19 227), .null, .int (0 : Int32), .int (0 : Int32), .null, .null, .null, .null]) := hw23
  refine lv_aload_n hx hb dX10_init_28 rfl (lv_at hl 0 rfl) ?_
  refine lv_iconst (v := 4) hx hb dX10_init_29 (by decide) ?_
  refine tw_newa (t := 0) (atype := .int) (ty := .int) (n' := 4) (a0 := (4, .inl (fun _ => 0))) F hH rfl (fun C h => by cases h) (tw_gl kw_47 rfl) rfl (fun _ => rfl) (by decide) (Nat.le_of_ble_eq_true rfl) (Nat.le_of_ble_eq_true rfl) (Nat.le_of_ble_eq_true rfl) dX10_init_30 (fun H locs ad28 w25 ha29 hw26 hne27 hH => ?_)
  have hw30 : w25 225 = .inr (10, [.ref (ad 14), .ref (ad 221), .ref (ad10 226), .ref (ad19 227), .null, .int (0 : Int32), .int (0 : Int32), .null, .null, .null, .null]) := (hne27 225 (nn_ne rfl)).trans (hw23)
  refine tw_putF (r := 225) F hH kf_RX10_26 kp_X10_4 hin rfl (((ha29 225 (nn_lt rfl)).trans (ha20 225 (nn_lt rfl))).trans (ha11 225 (nn_lt rfl))) (by decide) hw30 (Nat.le_of_ble_eq_true rfl) rfl rfl dX10_init_32 (fun H locs w31 hw32 hne33 hH => ?_)
  have hw32 : w31 225 = .inr (10, [.ref (ad 14), .ref (ad 221), .ref (ad10 226), .ref (ad19 227), .ref (ad28 228), .int (0 : Int32), .int (0 : Int32), .null, .null, .null, .null]) := hw32
  refine lv_aload_n hx hb dX10_init_35 rfl (lv_at hl 0 rfl) ?_
  refine lv_bipush (v := 16) hx hb dX10_init_36 (by decide) ?_
  refine tw_newa (t := 0) (atype := .int) (ty := .int) (n' := 16) (a0 := (16, .inl (fun _ => 0))) F hH rfl (fun C h => by cases h) (tw_gl kw_47 rfl) rfl (fun _ => rfl) (by decide) (Nat.le_of_ble_eq_true rfl) (Nat.le_of_ble_eq_true rfl) (Nat.le_of_ble_eq_true rfl) dX10_init_38 (fun H locs ad37 w34 ha38 hw35 hne36 hH => ?_)
  have hw39 : w34 225 = .inr (10, [.ref (ad 14), .ref (ad 221), .ref (ad10 226), .ref (ad19 227), .ref (ad28 228), .int (0 : Int32), .int (0 : Int32), .null, .null, .null, .null]) := (hne36 225 (nn_ne rfl)).trans (hw32)
  have ha43 : ad37 225 = ad 225 := ((((ha38 225 (nn_lt rfl)).trans (ha29 225 (nn_lt rfl))).trans (ha20 225 (nn_lt rfl))).trans (ha11 225 (nn_lt rfl)))
  refine tw_putF (r := 225) F hH kf_RX10_29 kp_X10_7 hin rfl ha43 (by decide) hw39 (Nat.le_of_ble_eq_true rfl) rfl rfl dX10_init_40 (fun H locs w40 hw41 hne42 hH => ?_)
  have hw41 : w40 225 = .inr (10, [.ref (ad 14), .ref (ad 221), .ref (ad10 226), .ref (ad19 227), .ref (ad28 228), .int (0 : Int32), .int (0 : Int32), .ref (ad37 229), .null, .null, .null]) := hw41
  refine lv_aload_n hx hb dX10_init_43 rfl (lv_at hl 0 rfl) ?_
  refine lv_bipush (v := 16) hx hb dX10_init_44 (by decide) ?_
  refine tw_newa (t := 0) (atype := .int) (ty := .int) (n' := 16) (a0 := (16, .inl (fun _ => 0))) F hH rfl (fun C h => by cases h) (tw_gl kw_47 rfl) rfl (fun _ => rfl) (by decide) (Nat.le_of_ble_eq_true rfl) (Nat.le_of_ble_eq_true rfl) (Nat.le_of_ble_eq_true rfl) dX10_init_46 (fun H locs ad47 w44 ha48 hw45 hne46 hH => ?_)
  have hw49 : w44 225 = .inr (10, [.ref (ad 14), .ref (ad 221), .ref (ad10 226), .ref (ad19 227), .ref (ad28 228), .int (0 : Int32), .int (0 : Int32), .ref (ad37 229), .null, .null, .null]) := (hne46 225 (nn_ne rfl)).trans (hw41)
  have ha53 : ad47 225 = ad 225 := ((ha48 225 (nn_lt rfl)).trans ha43)
  refine tw_putF (r := 225) F hH kf_RX10_32 kp_X10_8 hin rfl ha53 (by decide) hw49 (Nat.le_of_ble_eq_true rfl) rfl rfl dX10_init_48 (fun H locs w50 hw51 hne52 hH => ?_)
  have hw51 : w50 225 = .inr (10, [.ref (ad 14), .ref (ad 221), .ref (ad10 226), .ref (ad19 227), .ref (ad28 228), .int (0 : Int32), .int (0 : Int32), .ref (ad37 229), .ref (ad47 230), .null, .null]) := hw51
  refine lv_aload_n hx hb dX10_init_51 rfl (lv_at hl 0 rfl) ?_
  refine lv_bipush (v := 16) hx hb dX10_init_52 (by decide) ?_
  refine tw_newa (t := 0) (atype := .int) (ty := .int) (n' := 16) (a0 := (16, .inl (fun _ => 0))) F hH rfl (fun C h => by cases h) (tw_gl kw_47 rfl) rfl (fun _ => rfl) (by decide) (Nat.le_of_ble_eq_true rfl) (Nat.le_of_ble_eq_true rfl) (Nat.le_of_ble_eq_true rfl) dX10_init_54 (fun H locs ad57 w54 ha58 hw55 hne56 hH => ?_)
  have hw59 : w54 225 = .inr (10, [.ref (ad 14), .ref (ad 221), .ref (ad10 226), .ref (ad19 227), .ref (ad28 228), .int (0 : Int32), .int (0 : Int32), .ref (ad37 229), .ref (ad47 230), .null, .null]) := (hne56 225 (nn_ne rfl)).trans (hw51)
  have ha63 : ad57 225 = ad 225 := ((ha58 225 (nn_lt rfl)).trans ha53)
  refine tw_putF (r := 225) F hH kf_RX10_35 kp_X10_9 hin rfl ha63 (by decide) hw59 (Nat.le_of_ble_eq_true rfl) rfl rfl dX10_init_56 (fun H locs w60 hw61 hne62 hH => ?_)
  have hw61 : w60 225 = .inr (10, [.ref (ad 14), .ref (ad 221), .ref (ad10 226), .ref (ad19 227), .ref (ad28 228), .int (0 : Int32), .int (0 : Int32), .ref (ad37 229), .ref (ad47 230), .ref (ad57 231), .null]) := hw61
  refine lv_aload_n hx hb dX10_init_59 rfl (lv_at hl 0 rfl) ?_
  refine lv_bipush (v := 16) hx hb dX10_init_60 (by decide) ?_
  refine tw_newa (t := 0) (atype := .int) (ty := .int) (n' := 16) (a0 := (16, .inl (fun _ => 0))) F hH rfl (fun C h => by cases h) (tw_gl kw_47 rfl) rfl (fun _ => rfl) (by decide) (Nat.le_of_ble_eq_true rfl) (Nat.le_of_ble_eq_true rfl) (Nat.le_of_ble_eq_true rfl) dX10_init_62 (fun H locs ad67 w64 ha68 hw65 hne66 hH => ?_)
  have hw69 : w64 225 = .inr (10, [.ref (ad 14), .ref (ad 221), .ref (ad10 226), .ref (ad19 227), .ref (ad28 228), .int (0 : Int32), .int (0 : Int32), .ref (ad37 229), .ref (ad47 230), .ref (ad57 231), .null]) := (hne66 225 (nn_ne rfl)).trans (hw61)
  have ha73 : ad67 225 = ad 225 := ((ha68 225 (nn_lt rfl)).trans ha63)
  refine tw_putF (r := 225) F hH kf_RX10_38 kp_X10_10 hin rfl ha73 (by decide) hw69 (Nat.le_of_ble_eq_true rfl) rfl rfl dX10_init_64 (fun H locs w70 hw71 hne72 hH => ?_)
  have hw71 : w70 225 = .inr (10, [.ref (ad 14), .ref (ad 221), .ref (ad10 226), .ref (ad19 227), .ref (ad28 228), .int (0 : Int32), .int (0 : Int32), .ref (ad37 229), .ref (ad47 230), .ref (ad57 231), .ref (ad67 232)]) := hw71
  have ha74 : ad67 14 = ad 14 := (((((((ha68 14 (nn_lt rfl)).trans (ha58 14 (nn_lt rfl))).trans (ha48 14 (nn_lt rfl))).trans (ha38 14 (nn_lt rfl))).trans (ha29 14 (nn_lt rfl))).trans (ha20 14 (nn_lt rfl))).trans (ha11 14 (nn_lt rfl)))
  have ha75 : ad67 221 = ad 221 := (((((((ha68 221 (nn_lt rfl)).trans (ha58 221 (nn_lt rfl))).trans (ha48 221 (nn_lt rfl))).trans (ha38 221 (nn_lt rfl))).trans (ha29 221 (nn_lt rfl))).trans (ha20 221 (nn_lt rfl))).trans (ha11 221 (nn_lt rfl)))
  have ha76 : ad67 226 = ad10 226 := ((((((ha68 226 (nn_lt rfl)).trans (ha58 226 (nn_lt rfl))).trans (ha48 226 (nn_lt rfl))).trans (ha38 226 (nn_lt rfl))).trans (ha29 226 (nn_lt rfl))).trans (ha20 226 (nn_lt rfl)))
  have ha77 : ad67 227 = ad19 227 := (((((ha68 227 (nn_lt rfl)).trans (ha58 227 (nn_lt rfl))).trans (ha48 227 (nn_lt rfl))).trans (ha38 227 (nn_lt rfl))).trans (ha29 227 (nn_lt rfl)))
  have ha78 : ad67 228 = ad28 228 := ((((ha68 228 (nn_lt rfl)).trans (ha58 228 (nn_lt rfl))).trans (ha48 228 (nn_lt rfl))).trans (ha38 228 (nn_lt rfl)))
  have ha79 : ad67 229 = ad37 229 := (((ha68 229 (nn_lt rfl)).trans (ha58 229 (nn_lt rfl))).trans (ha48 229 (nn_lt rfl)))
  have ha80 : ad67 230 = ad47 230 := ((ha68 230 (nn_lt rfl)).trans (ha58 230 (nn_lt rfl)))
  have ha81 : ad67 231 = ad57 231 := (ha68 231 (nn_lt rfl))
  have hw82 : w70 225 = .inr (10, [.ref (ad67 14), .ref (ad67 221), .ref (ad67 226), .ref (ad67 227), .ref (ad67 228), .int (0 : Int32), .int (0 : Int32), .ref (ad67 229), .ref (ad67 230), .ref (ad67 231), .ref (ad67 232)]) := by rw [hw71]; rw [show ad 14 = ad67 14 from ha74.symm, show ad 221 = ad67 221 from ha75.symm, show ad10 226 = ad67 226 from ha76.symm, show ad19 227 = ad67 227 from ha77.symm, show ad28 228 = ad67 228 from ha78.symm, show ad37 229 = ad67 229 from ha79.symm, show ad47 230 = ad67 230 from ha80.symm, show ad57 231 = ad67 231 from ha81.symm]
  have hw83 : w70 226 = .inl (G.2.1 0, 2, .inl (fun _ => 0)) := (hne72 226 (nn_ne rfl)).trans ((hne66 226 (nn_ne rfl)).trans ((hne62 226 (nn_ne rfl)).trans ((hne56 226 (nn_ne rfl)).trans ((hne52 226 (nn_ne rfl)).trans ((hne46 226 (nn_ne rfl)).trans ((hne42 226 (nn_ne rfl)).trans ((hne36 226 (nn_ne rfl)).trans ((hne33 226 (nn_ne rfl)).trans ((hne27 226 (nn_ne rfl)).trans ((hne24 226 (nn_ne rfl)).trans ((hne18 226 (nn_ne rfl)).trans ((hne15 226 (nn_ne rfl)).trans (hw8)))))))))))))
  have hw84 : w70 227 = .inl (G.2.1 0, 2, .inl (fun _ => 0)) := (hne72 227 (nn_ne rfl)).trans ((hne66 227 (nn_ne rfl)).trans ((hne62 227 (nn_ne rfl)).trans ((hne56 227 (nn_ne rfl)).trans ((hne52 227 (nn_ne rfl)).trans ((hne46 227 (nn_ne rfl)).trans ((hne42 227 (nn_ne rfl)).trans ((hne36 227 (nn_ne rfl)).trans ((hne33 227 (nn_ne rfl)).trans ((hne27 227 (nn_ne rfl)).trans ((hne24 227 (nn_ne rfl)).trans (hw17)))))))))))
  have hw85 : w70 228 = .inl (G.2.1 0, 4, .inl (fun _ => 0)) := (hne72 228 (nn_ne rfl)).trans ((hne66 228 (nn_ne rfl)).trans ((hne62 228 (nn_ne rfl)).trans ((hne56 228 (nn_ne rfl)).trans ((hne52 228 (nn_ne rfl)).trans ((hne46 228 (nn_ne rfl)).trans ((hne42 228 (nn_ne rfl)).trans ((hne36 228 (nn_ne rfl)).trans ((hne33 228 (nn_ne rfl)).trans (hw26)))))))))
  have hw86 : w70 229 = .inl (G.2.1 0, 16, .inl (fun _ => 0)) := (hne72 229 (nn_ne rfl)).trans ((hne66 229 (nn_ne rfl)).trans ((hne62 229 (nn_ne rfl)).trans ((hne56 229 (nn_ne rfl)).trans ((hne52 229 (nn_ne rfl)).trans ((hne46 229 (nn_ne rfl)).trans ((hne42 229 (nn_ne rfl)).trans (hw35)))))))
  have hw87 : w70 230 = .inl (G.2.1 0, 16, .inl (fun _ => 0)) := (hne72 230 (nn_ne rfl)).trans ((hne66 230 (nn_ne rfl)).trans ((hne62 230 (nn_ne rfl)).trans ((hne56 230 (nn_ne rfl)).trans ((hne52 230 (nn_ne rfl)).trans (hw45)))))
  have hw88 : w70 231 = .inl (G.2.1 0, 16, .inl (fun _ => 0)) := (hne72 231 (nn_ne rfl)).trans ((hne66 231 (nn_ne rfl)).trans ((hne62 231 (nn_ne rfl)).trans (hw55)))
  have hw89 : w70 232 = .inl (G.2.1 0, 16, .inl (fun _ => 0)) := (hne72 232 (nn_ne rfl)).trans (hw65)
  exact tw_nret F hH (fun k hk => ((ha68 k (by omega)).trans ((ha58 k (by omega)).trans ((ha48 k (by omega)).trans ((ha38 k (by omega)).trans ((ha29 k (by omega)).trans ((ha20 k (by omega)).trans (ha11 k (by omega))))))))) hret hlk (Nat.le_of_ble_eq_true rfl) (Nat.le_of_ble_eq_true rfl) dX10_init_67 (⟨trivial, hw82, hw83, hw84, hw85, hw86, hw87, hw88, hw89, fun k hk => ((hne72 k (by omega)).trans ((hne66 k (by omega)).trans ((hne62 k (by omega)).trans ((hne56 k (by omega)).trans ((hne52 k (by omega)).trans ((hne46 k (by omega)).trans ((hne42 k (by omega)).trans ((hne36 k (by omega)).trans ((hne33 k (by omega)).trans ((hne27 k (by omega)).trans ((hne24 k (by omega)).trans ((hne18 k (by omega)).trans ((hne15 k (by omega)).trans ((hne9 k (by omega)).trans ((hne6 k (by omega)).trans (hne3 k (by omega)))))))))))))))))⟩)
set_option maxHeartbeats 4000000 in
set_option maxRecDepth 100000 in
theorem c_X3_init (l : Launch) (G : tw_G) (ad : Nat → Nat) (w : Nat → va_E) (sz : Nat) (hw_233 : w 233 = .inr (3, [.null, .int (0 : Int32), .null, .int (0 : Int32), .int (0 : Int32), .int (0 : Int32), .int (0 : Int32), .int (0 : Int32), .null])) : Met l yX3_init (tw_ws yX3_init cX3_init 1 none) ({ frames := 1, cells := 2, slots := 120, locals := 20 }) (tw_Pre G 234 ad w sz [.ref (ad 233)]) (tw_Qn G 234 2 ad (fun u => (True ∧ u.2 234 = .inl (G.2.1 0, 60, .inl (fun _ => 0)) ∧ u.2 233 = .inr (3, [.ref (u.1 234), .int (0 : Int32), .ref (u.1 235), .int (0 : Int32), .int (0 : Int32), .int (0 : Int32), .int (0 : Int32), .int (0 : Int32), .null]) ∧ u.2 235 = .inl (G.2.1 1, 60, .inl (fun _ => 0)) ∧ ∀ k, k < 233 → u.2 k = w k)) sz) 2 120 (tw_A 234 ad sz) := by
  refine tw_met (by decide) (Nat.le_of_ble_eq_true rfl) ?_
  intro p e s m args below meth c F hret hlk hin hargs hsz hH ls hl
  have hx := F.1.1
  have hb := F.1.2.1
  have hown := F.1.2.2.2.1
  have hts := F.1.2.2.2.2
  have hl : lv_has ls 1 [(0, .ref (ad 233))] := hl
  generalize hH0 : s.heap = H at hH ⊢
  refine lv_aload_n hx hb dX3_init_0 rfl (lv_at hl 0 rfl) ?_
  refine tw_objInit F (tw_gl kw_483 rfl) (tw_gl kw_32 rfl) (tw_gl kw_33 rfl) hl.1 ⟨(Nat.le_of_ble_eq_true rfl), (Nat.le_of_ble_eq_true rfl)⟩ (Nat.le_of_ble_eq_true rfl) dX3_init_1 ?_
  refine lv_aload_n hx hb dX3_init_4 rfl (lv_at hl 0 rfl) ?_
  refine lv_bipush (v := 60) hx hb dX3_init_5 (by decide) ?_
  refine tw_newa (t := 0) (atype := .int) (ty := .int) (n' := 60) (a0 := (60, .inl (fun _ => 0))) F hH rfl (fun C h => by cases h) (tw_gl kw_47 rfl) rfl (fun _ => rfl) (by decide) (Nat.le_of_ble_eq_true rfl) (Nat.le_of_ble_eq_true rfl) (Nat.le_of_ble_eq_true rfl) dX3_init_7 (fun H locs ad4 w1 ha5 hw2 hne3 hH => ?_)
  have hw6 : w1 233 = .inr (3, [.null, .int (0 : Int32), .null, .int (0 : Int32), .int (0 : Int32), .int (0 : Int32), .int (0 : Int32), .int (0 : Int32), .null]) := (hne3 233 (nn_ne rfl)).trans (hw_233)
  refine tw_putF (r := 233) F hH kf_RX3_9 kp_X3_0 hin rfl (ha5 233 (nn_lt rfl)) (by decide) hw6 (Nat.le_of_ble_eq_true rfl) rfl rfl dX3_init_9 (fun H locs w7 hw8 hne9 hH => ?_)
  have hw8 : w7 233 = .inr (3, [.ref (ad4 234), .int (0 : Int32), .null, .int (0 : Int32), .int (0 : Int32), .int (0 : Int32), .int (0 : Int32), .int (0 : Int32), .null]) := hw8
  refine lv_aload_n hx hb dX3_init_12 rfl (lv_at hl 0 rfl) ?_
  refine lv_bipush (v := 60) hx hb dX3_init_13 (by decide) ?_
  refine tw_newa (t := 1) (atype := .boolean) (ty := .boolean) (n' := 60) (a0 := (60, .inl (fun _ => 0))) F hH rfl (fun C h => by cases h) (tw_gl kw_83 rfl) rfl (fun _ => rfl) (by decide) (Nat.le_of_ble_eq_true rfl) (Nat.le_of_ble_eq_true rfl) (Nat.le_of_ble_eq_true rfl) dX3_init_15 (fun H locs ad13 w10 ha14 hw11 hne12 hH => ?_)
  have hw15 : w10 233 = .inr (3, [.ref (ad4 234), .int (0 : Int32), .null, .int (0 : Int32), .int (0 : Int32), .int (0 : Int32), .int (0 : Int32), .int (0 : Int32), .null]) := (hne12 233 (nn_ne rfl)).trans (hw8)
  refine tw_putF (r := 233) F hH kf_RX3_15 kp_X3_2 hin rfl ((ha14 233 (nn_lt rfl)).trans (ha5 233 (nn_lt rfl))) (by decide) hw15 (Nat.le_of_ble_eq_true rfl) rfl rfl dX3_init_17 (fun H locs w16 hw17 hne18 hH => ?_)
  have hw17 : w16 233 = .inr (3, [.ref (ad4 234), .int (0 : Int32), .ref (ad13 235), .int (0 : Int32), .int (0 : Int32), .int (0 : Int32), .int (0 : Int32), .int (0 : Int32), .null]) := hw17
  have hw19 : w16 234 = .inl (G.2.1 0, 60, .inl (fun _ => 0)) := (hne18 234 (nn_ne rfl)).trans ((hne12 234 (nn_ne rfl)).trans ((hne9 234 (nn_ne rfl)).trans (hw2)))
  have hw20 : w16 233 = .inr (3, [.ref (ad13 234), .int (0 : Int32), .ref (ad13 235), .int (0 : Int32), .int (0 : Int32), .int (0 : Int32), .int (0 : Int32), .int (0 : Int32), .null]) := by rw [hw17]; rw [show ad4 234 = ad13 234 from (ha14 234 (nn_lt rfl)).symm]
  have hw21 : w16 235 = .inl (G.2.1 1, 60, .inl (fun _ => 0)) := (hne18 235 (nn_ne rfl)).trans (hw11)
  exact tw_nret F hH (fun k hk => ((ha14 k (by omega)).trans (ha5 k (by omega)))) hret hlk (Nat.le_of_ble_eq_true rfl) (Nat.le_of_ble_eq_true rfl) dX3_init_20 (⟨trivial, hw19, hw20, hw21, fun k hk => ((hne18 k (by omega)).trans ((hne12 k (by omega)).trans ((hne9 k (by omega)).trans (hne3 k (by omega)))))⟩)
