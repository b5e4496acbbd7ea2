set_option maxHeartbeats 4000000 in
set_option maxRecDepth 100000 in
theorem c_X11_sign (l : Launch) (G : tw_G) (ad : Nat → Nat) (w : Nat → va_E) (sz : Nat) (x1 : Int32) (z1 : Int) (e1 : x1.toInt = z1) (hw_0 : w 0 = .inr (11, [.ref (ad 4), .ref (ad 14), .ref (ad 156), .ref (ad 221), .ref (ad 225), .ref (ad 233), .ref (ad 236), .int (0 : Int32), .ref (ad 237), .int (0 : Int32), .ref (ad 238)])) (hw_236 : w 236 = .inl (G.2.1 0, 100, .inl (fun _ => 0))) : Met l yX11_sign (tw_ws yX11_sign cX11_sign 3 (some .int)) ({ frames := 0, cells := 0, slots := 0, locals := 0 }) (tw_Pre G 244 ad w sz [.ref (ad 0), .int x1]) (tw_Qi G 244 ad (fun r w1 => ((4 : Int32) = r ∧ True)) sz) 0 0 (tw_A 244 ad sz) := by
  refine tw_met (by decide) (Nat.le_of_ble_eq_true rfl) ?_
  intro p e s m args below meth c F hret hlk hin hargs hsz hH ls hl
  have hx := F.1.1
  have hb := F.1.2.1
  have hown := F.1.2.2.2.1
  have hts := F.1.2.2.2.2
  have hl : lv_has ls 3 [(0, .ref (ad 0)), (1, .int x1)] := hl
  generalize hH0 : s.heap = H at hH ⊢
  refine lv_aload_n hx hb dX11_sign_0 rfl (lv_at hl 0 rfl) ?_
  refine tw_get (r := 0) F hH kf_RX11_218 rfl (by decide) hw_0 rfl dX11_sign_1 ?_
  refine lv_iconst (v := 4) hx hb dX11_sign_4 (by decide) ?_
  refine lv_iadd hx hb dX11_sign_5 ?_
  refine tw_cv (v := (4 : Int32)) (by decide) ?_
  refine lv_bipush (v := 100) hx hb dX11_sign_6 (by decide) ?_
  refine lv_icmp_le (tgt := 13) hx hb dX11_sign_8 (by decide) (fun _ => ?_) (fun c => absurd c (by decide))
  refine lv_bipush (v := 24) hx hb dX11_sign_13 (by decide) ?_
  refine lv_istore_n (lv' := [(2, .int (24 : Int32)), (0, .ref (ad 0)), (1, .int x1)]) hx hb dX11_sign_15 rfl hl (by decide) rfl (fun ls hl => ?_)
  refine lv_iload_n hx hb dX11_sign_16 rfl (lv_at hl 0 rfl) ?_
  refine lv_if_lt (tgt := 52) hx hb dX11_sign_17 (by decide) (fun c => absurd c (by decide)) (fun _ => ?_)
  refine lv_aload_n hx hb dX11_sign_20 rfl (lv_at hl 1 rfl) ?_
  refine tw_get (r := 0) F hH kf_RX11_62 rfl (by decide) hw_0 rfl dX11_sign_21 ?_
  refine lv_aload_n hx hb dX11_sign_24 rfl (lv_at hl 1 rfl) ?_
  refine tw_get (r := 0) F hH kf_RX11_218 rfl (by decide) hw_0 rfl dX11_sign_25 ?_
  refine lv_iload_n hx hb dX11_sign_28 rfl (lv_at hl 2 rfl) ?_
  refine lv_iload_n hx hb dX11_sign_29 rfl (lv_at hl 0 rfl) ?_
  refine lv_iushr hx hb dX11_sign_30 rfl ?_
  refine lv_topi (fun f3 ef3 => ?_)
  refine lv_sipush (v := 255) hx hb dX11_sign_31 (by decide) ?_
  refine lv_iand hx hb dX11_sign_34 ?_
  refine lv_topi (fun f4 ef4 => ?_)
  refine tw_iast (r := 236) (j := 0) F hH rfl (by decide) hw_236 (by decide) (by decide) dX11_sign_35 (fun H locs w5 hw6 hne7 hH => ?_)
  refine lv_aload_n hx hb dX11_sign_36 rfl (lv_at hl 1 rfl) ?_
  refine lv_dup hx hb dX11_sign_37 rfl ?_
  have hw8 : w5 0 = .inr (11, [.ref (ad 4), .ref (ad 14), .ref (ad 156), .ref (ad 221), .ref (ad 225), .ref (ad 233), .ref (ad 236), .int (0 : Int32), .ref (ad 237), .int (0 : Int32), .ref (ad 238)]) := (hne7 0 (by decide)).trans (hw_0)
  refine tw_get (r := 0) F hH kf_RX11_218 rfl (by decide) hw8 rfl dX11_sign_38 ?_
  refine lv_iconst (v := 1) hx hb dX11_sign_41 (by decide) ?_
  refine lv_iadd hx hb dX11_sign_42 ?_
  refine tw_cv (v := (1 : Int32)) (by decide) ?_
  refine tw_put (r := 0) F hH kf_RX11_218 kp_X11_7 rfl (by decide) hw8 (Nat.le_of_ble_eq_true rfl) rfl rfl dX11_sign_43 (fun H locs w9 hw10 hne11 hH => ?_)
  have hw10 : w9 0 = .inr (11, [.ref (ad 4), .ref (ad 14), .ref (ad 156), .ref (ad 221), .ref (ad 225), .ref (ad 233), .ref (ad 236), .int (1 : Int32), .ref (ad 237), .int (0 : Int32), .ref (ad 238)]) := hw10
  refine lv_iinc (v := (16 : Int32)) (lv' := [(2, .int (16 : Int32)), (0, .ref (ad 0)), (1, .int x1)]) hx hb dX11_sign_46 hl (k := 0) rfl (by decide) (by decide) rfl (fun ls hl => ?_)
  refine lv_goto (tgt := 16) hx hb dX11_sign_49 (by decide) ?_
  refine lv_iload_n hx hb dX11_sign_16 rfl (lv_at hl 0 rfl) ?_
  refine lv_if_lt (tgt := 52) hx hb dX11_sign_17 (by decide) (fun c => absurd c (by decide)) (fun _ => ?_)
  refine lv_aload_n hx hb dX11_sign_20 rfl (lv_at hl 1 rfl) ?_
  refine tw_get (r := 0) F hH kf_RX11_62 rfl (by decide) hw10 rfl dX11_sign_21 ?_
  refine lv_aload_n hx hb dX11_sign_24 rfl (lv_at hl 1 rfl) ?_
  refine tw_get (r := 0) F hH kf_RX11_218 rfl (by decide) hw10 rfl dX11_sign_25 ?_
  refine lv_iload_n hx hb dX11_sign_28 rfl (lv_at hl 2 rfl) ?_
  refine lv_iload_n hx hb dX11_sign_29 rfl (lv_at hl 0 rfl) ?_
  refine lv_iushr hx hb dX11_sign_30 rfl ?_
  refine lv_topi (fun f13 ef13 => ?_)
  refine lv_sipush (v := 255) hx hb dX11_sign_31 (by decide) ?_
  refine lv_iand hx hb dX11_sign_34 ?_
  refine lv_topi (fun f14 ef14 => ?_)
  have hw15 : w9 236 = .inl (G.2.1 0, 100, .inl (upd (fun _ => 0) 0 f4)) := (hne11 236 (by decide)).trans (hw6)
  refine tw_iast (r := 236) (j := 1) F hH rfl (by decide) hw15 (by decide) (by decide) dX11_sign_35 (fun H locs w16 hw17 hne18 hH => ?_)
  refine lv_aload_n hx hb dX11_sign_36 rfl (lv_at hl 1 rfl) ?_
  refine lv_dup hx hb dX11_sign_37 rfl ?_
  have hw19 : w16 0 = .inr (11, [.ref (ad 4), .ref (ad 14), .ref (ad 156), .ref (ad 221), .ref (ad 225), .ref (ad 233), .ref (ad 236), .int (1 : Int32), .ref (ad 237), .int (0 : Int32), .ref (ad 238)]) := (hne18 0 (by decide)).trans (hw10)
  refine tw_get (r := 0) F hH kf_RX11_218 rfl (by decide) hw19 rfl dX11_sign_38 ?_
  refine lv_iconst (v := 1) hx hb dX11_sign_41 (by decide) ?_
  refine lv_iadd hx hb dX11_sign_42 ?_
  refine tw_cv (v := (2 : Int32)) (by decide) ?_
  refine tw_put (r := 0) F hH kf_RX11_218 kp_X11_7 rfl (by decide) hw19 (Nat.le_of_ble_eq_true rfl) rfl rfl dX11_sign_43 (fun H locs w20 hw21 hne22 hH => ?_)
  have hw21 : w20 0 = .inr (11, [.ref (ad 4), .ref (ad 14), .ref (ad 156), .ref (ad 221), .ref (ad 225), .ref (ad 233), .ref (ad 236), .int (2 : Int32), .ref (ad 237), .int (0 : Int32), .ref (ad 238)]) := hw21
  refine lv_iinc (v := (8 : Int32)) (lv' := [(2, .int (8 : Int32)), (0, .ref (ad 0)), (1, .int x1)]) hx hb dX11_sign_46 hl (k := 0) rfl (by decide) (by decide) rfl (fun ls hl => ?_)
  refine lv_goto (tgt := 16) hx hb dX11_sign_49 (by decide) ?_
  refine lv_iload_n hx hb dX11_sign_16 rfl (lv_at hl 0 rfl) ?_
  refine lv_if_lt (tgt := 52) hx hb dX11_sign_17 (by decide) (fun c => absurd c (by decide)) (fun _ => ?_)
  refine lv_aload_n hx hb dX11_sign_20 rfl (lv_at hl 1 rfl) ?_
  refine tw_get (r := 0) F hH kf_RX11_62 rfl (by decide) hw21 rfl dX11_sign_21 ?_
  refine lv_aload_n hx hb dX11_sign_24 rfl (lv_at hl 1 rfl) ?_
  refine tw_get (r := 0) F hH kf_RX11_218 rfl (by decide) hw21 rfl dX11_sign_25 ?_
  refine lv_iload_n hx hb dX11_sign_28 rfl (lv_at hl 2 rfl) ?_
  refine lv_iload_n hx hb dX11_sign_29 rfl (lv_at hl 0 rfl) ?_
  refine lv_iushr hx hb dX11_sign_30 rfl ?_
  refine lv_topi (fun f24 ef24 => ?_)
  refine lv_sipush (v := 255) hx hb dX11_sign_31 (by decide) ?_
  refine lv_iand hx hb dX11_sign_34 ?_
  refine lv_topi (fun f25 ef25 => ?_)
  have hw26 : w20 236 = .inl (G.2.1 0, 100, .inl (upd (upd (fun _ => 0) 0 f4) 1 f14)) := (hne22 236 (by decide)).trans (hw17)
  refine tw_iast (r := 236) (j := 2) F hH rfl (by decide) hw26 (by decide) (by decide) dX11_sign_35 (fun H locs w27 hw28 hne29 hH => ?_)
  refine lv_aload_n hx hb dX11_sign_36 rfl (lv_at hl 1 rfl) ?_
  refine lv_dup hx hb dX11_sign_37 rfl ?_
  have hw30 : w27 0 = .inr (11, [.ref (ad 4), .ref (ad 14), .ref (ad 156), .ref (ad 221), .ref (ad 225), .ref (ad 233), .ref (ad 236), .int (2 : Int32), .ref (ad 237), .int (0 : Int32), .ref (ad 238)]) := (hne29 0 (by decide)).trans (hw21)
  refine tw_get (r := 0) F hH kf_RX11_218 rfl (by decide) hw30 rfl dX11_sign_38 ?_
  refine lv_iconst (v := 1) hx hb dX11_sign_41 (by decide) ?_
  refine lv_iadd hx hb dX11_sign_42 ?_
  refine tw_cv (v := (3 : Int32)) (by decide) ?_
  refine tw_put (r := 0) F hH kf_RX11_218 kp_X11_7 rfl (by decide) hw30 (Nat.le_of_ble_eq_true rfl) rfl rfl dX11_sign_43 (fun H locs w31 hw32 hne33 hH => ?_)
  have hw32 : w31 0 = .inr (11, [.ref (ad 4), .ref (ad 14), .ref (ad 156), .ref (ad 221), .ref (ad 225), .ref (ad 233), .ref (ad 236), .int (3 : Int32), .ref (ad 237), .int (0 : Int32), .ref (ad 238)]) := hw32
  refine lv_iinc (v := (0 : Int32)) (lv' := [(2, .int (0 : Int32)), (0, .ref (ad 0)), (1, .int x1)]) hx hb dX11_sign_46 hl (k := 0) rfl (by decide) (by decide) rfl (fun ls hl => ?_)
  refine lv_goto (tgt := 16) hx hb dX11_sign_49 (by decide) ?_
  refine lv_iload_n hx hb dX11_sign_16 rfl (lv_at hl 0 rfl) ?_
  refine lv_if_lt (tgt := 52) hx hb dX11_sign_17 (by decide) (fun c => absurd c (by decide)) (fun _ => ?_)
  refine lv_aload_n hx hb dX11_sign_20 rfl (lv_at hl 1 rfl) ?_
  refine tw_get (r := 0) F hH kf_RX11_62 rfl (by decide) hw32 rfl dX11_sign_21 ?_
  refine lv_aload_n hx hb dX11_sign_24 rfl (lv_at hl 1 rfl) ?_
  refine tw_get (r := 0) F hH kf_RX11_218 rfl (by decide) hw32 rfl dX11_sign_25 ?_
  refine lv_iload_n hx hb dX11_sign_28 rfl (lv_at hl 2 rfl) ?_
  refine lv_iload_n hx hb dX11_sign_29 rfl (lv_at hl 0 rfl) ?_
  refine lv_iushr hx hb dX11_sign_30 rfl ?_
  refine lv_topi (fun f35 ef35 => ?_)
  refine lv_sipush (v := 255) hx hb dX11_sign_31 (by decide) ?_
  refine lv_iand hx hb dX11_sign_34 ?_
  refine lv_topi (fun f36 ef36 => ?_)
  have hw37 : w31 236 = .inl (G.2.1 0, 100, .inl (upd (upd (upd (fun _ => 0) 0 f4) 1 f14) 2 f25)) := (hne33 236 (by decide)).trans (hw28)
  refine tw_iast (r := 236) (j := 3) F hH rfl (by decide) hw37 (by decide) (by decide) dX11_sign_35 (fun H locs w38 hw39 hne40 hH => ?_)
  refine lv_aload_n hx hb dX11_sign_36 rfl (lv_at hl 1 rfl) ?_
  refine lv_dup hx hb dX11_sign_37 rfl ?_
  have hw41 : w38 0 = .inr (11, [.ref (ad 4), .ref (ad 14), .ref (ad 156), .ref (ad 221), .ref (ad 225), .ref (ad 233), .ref (ad 236), .int (3 : Int32), .ref (ad 237), .int (0 : Int32), .ref (ad 238)]) := (hne40 0 (by decide)).trans (hw32)
  refine tw_get (r := 0) F hH kf_RX11_218 rfl (by decide) hw41 rfl dX11_sign_38 ?_
  refine lv_iconst (v := 1) hx hb dX11_sign_41 (by decide) ?_
  refine lv_iadd hx hb dX11_sign_42 ?_
  refine tw_cv (v := (4 : Int32)) (by decide) ?_
  refine tw_put (r := 0) F hH kf_RX11_218 kp_X11_7 rfl (by decide) hw41 (Nat.le_of_ble_eq_true rfl) rfl rfl dX11_sign_43 (fun H locs w42 hw43 hne44 hH => ?_)
  have hw43 : w42 0 = .inr (11, [.ref (ad 4), .ref (ad 14), .ref (ad 156), .ref (ad 221), .ref (ad 225), .ref (ad 233), .ref (ad 236), .int (4 : Int32), .ref (ad 237), .int (0 : Int32), .ref (ad 238)]) := hw43
  refine lv_iinc (v := (-8 : Int32)) (lv' := [(2, .int (-8 : Int32)), (0, .ref (ad 0)), (1, .int x1)]) hx hb dX11_sign_46 hl (k := 0) rfl (by decide) (by decide) rfl (fun ls hl => ?_)
  refine lv_goto (tgt := 16) hx hb dX11_sign_49 (by decide) ?_
  refine lv_iload_n hx hb dX11_sign_16 rfl (lv_at hl 0 rfl) ?_
  refine lv_if_lt (tgt := 52) hx hb dX11_sign_17 (by decide) (fun _ => ?_) (fun c => absurd c (by decide))
  refine lv_aload_n hx hb dX11_sign_52 rfl (lv_at hl 1 rfl) ?_
  refine tw_get (r := 0) F hH kf_RX11_218 rfl (by decide) hw43 rfl dX11_sign_53 ?_
  exact tw_iret F hH hret hlk rfl (Nat.le_of_ble_eq_true rfl) (Nat.le_of_ble_eq_true rfl) dX11_sign_56 (⟨rfl, trivial⟩)
set_option maxHeartbeats 4000000 in
set_option maxRecDepth 100000 in
theorem c_X11_end (l : Launch) (G : tw_G) (ad : Nat → Nat) (w : Nat → va_E) (sz : Nat) (x1 : Int32) (z1 : Int) (e1 : x1.toInt = z1) (hw_0 : w 0 = .inr (11, [.ref (ad 4), .ref (ad 14), .ref (ad 156), .ref (ad 221), .ref (ad 225), .ref (ad 233), .ref (ad 236), .int (0 : Int32), .ref (ad 237), .int (0 : Int32), .ref (ad 238)])) : Met l yX11_end (tw_ws yX11_end cX11_end 2 (some .boolean)) ({ frames := 0, cells := 0, slots := 0, locals := 0 }) (tw_Pre G 244 ad w sz [.ref (ad 0), .int x1]) (tw_Qi G 244 ad (fun r w1 => ((0 : Int32) = r ∧ (((z1 < 0)) ∨ ((¬ (z1 < 0)) ∧ (¬ (z1 ≤ 0))))) ∨ ((1 : Int32) = r ∧ ((¬ (z1 < 0)) ∧ (z1 ≤ 0)))) sz) 0 0 (tw_A 244 ad sz) := by
  refine tw_met (by decide) (Nat.le_of_ble_eq_true rfl) ?_
  intro p e s m args below meth c F hret hlk hin hargs hsz hH ls hl
  have hx := F.1.1
  have hb := F.1.2.1
  have hown := F.1.2.2.2.1
  have hts := F.1.2.2.2.2
  have hl : lv_has ls 2 [(0, .ref (ad 0)), (1, .int x1)] := hl
  generalize hH0 : s.heap = H at hH ⊢
  refine lv_iload_n hx hb dX11_end_0 rfl (lv_at hl 1 rfl) ?_
  refine lv_if_lt (tgt := 12) hx hb dX11_end_1 (by decide) (fun c1 => ?_) (fun c1 => ?_)
  · have c1 := (tw_lt e1 (by decide : (0 : Int32).toInt = 0)).mp c1
    refine lv_iconst (v := 0) hx hb dX11_end_12 (by decide) ?_
    exact tw_iret F hH hret hlk rfl (Nat.le_of_ble_eq_true rfl) (Nat.le_of_ble_eq_true rfl) dX11_end_13 (Or.inl (⟨rfl, (Or.inl (by omega))⟩))
  · have c1 := mt (tw_lt e1 (by decide : (0 : Int32).toInt = 0)).mpr c1
    refine lv_iload_n hx hb dX11_end_4 rfl (lv_at hl 1 rfl) ?_
    refine lv_aload_n hx hb dX11_end_5 rfl (lv_at hl 0 rfl) ?_
    refine tw_get (r := 0) F hH kf_RX11_218 rfl (by decide) hw_0 rfl dX11_end_6 ?_
    refine lv_icmp_le (tgt := 14) hx hb dX11_end_9 (by decide) (fun c2 => ?_) (fun c2 => ?_)
    · have c2 := (tw_le e1 (by decide : (0 : Int32).toInt = 0)).mp c2
      refine lv_aload_n hx hb dX11_end_14 rfl (lv_at hl 0 rfl) ?_
      refine lv_iload_n hx hb dX11_end_15 rfl (lv_at hl 1 rfl) ?_
      refine tw_put (r := 0) F hH kf_RX11_218 kp_X11_7 rfl (by decide) hw_0 (Nat.le_of_ble_eq_true rfl) rfl rfl dX11_end_16 (fun H locs w3 hw4 hne5 hH => ?_)
      have hw4 : w3 0 = .inr (11, [.ref (ad 4), .ref (ad 14), .ref (ad 156), .ref (ad 221), .ref (ad 225), .ref (ad 233), .ref (ad 236), .int x1, .ref (ad 237), .int (0 : Int32), .ref (ad 238)]) := hw4
      refine lv_iconst (v := 1) hx hb dX11_end_19 (by decide) ?_
      exact tw_iret F hH hret hlk rfl (Nat.le_of_ble_eq_true rfl) (Nat.le_of_ble_eq_true rfl) dX11_end_20 (Or.inr (⟨rfl, (by omega)⟩))
    · have c2 := mt (tw_le e1 (by decide : (0 : Int32).toInt = 0)).mpr c2
      refine lv_iconst (v := 0) hx hb dX11_end_12 (by decide) ?_
      exact tw_iret F hH hret hlk rfl (Nat.le_of_ble_eq_true rfl) (Nat.le_of_ble_eq_true rfl) dX11_end_13 (Or.inl (⟨rfl, (Or.inr (by omega))⟩))
set_option maxHeartbeats 4000000 in
set_option maxRecDepth 100000 in
theorem c_X11_isDay (l : Launch) (G : tw_G) (N : Nat) (ad : Nat → Nat) (w : Nat → va_E) (sz : Nat) (x0 : Int32) (z0 : Int) (e0 : x0.toInt = z0) : Met l yX11_isDay (tw_ws yX11_isDay cX11_isDay 1 (some .boolean)) ({ frames := 1, cells := 0, slots := 0, locals := 22 }) (tw_Pre G N ad w sz [.int x0]) (tw_Qi G N ad (fun r w1 => ((0 : Int32) = r ∧ (((z0 < 0)) ∨ ((¬ (z0 < 0)) ∧ (99 < z0))) ∧ w = w1) ∨ ((1 : Int32) = r ∧ ((¬ (z0 < 0)) ∧ (¬ (99 < z0))) ∧ w = w1)) sz) 0 0 (tw_A N ad sz) := by
  refine tw_met (by decide) (Nat.le_of_ble_eq_true rfl) ?_
  intro p e s m args below meth c F hret hlk hin hargs hsz hH ls hl
  have hx := F.1.1
  have hb := F.1.2.1
  have hown := F.1.2.2.2.1
  have hts := F.1.2.2.2.2
  have hl : lv_has ls 1 [(0, .int x0)] := hl
  generalize hH0 : s.heap = H at hH ⊢
  refine lv_iload_n hx hb dX11_isDay_0 rfl (lv_at hl 0 rfl) ?_
  refine lv_iconst (v := 0) hx hb dX11_isDay_1 (by decide) ?_
  refine lv_bipush (v := 99) hx hb dX11_isDay_2 (by decide) ?_
  refine tw_calli F hH (tw_runS (As := [.int x0, .int (0 : Int32), .int (99 : Int32)]) (rest := []) F hH (c_X11_isWithin l G N ad w H.size x0 (z0) e0 (0 : Int32) 0 (by decide : (0 : Int32).toInt = 0) (99 : Int32) 99 (by decide : (99 : Int32).toInt = 99)) (tw_gl kw_565 rfl) km_X11_isWithin (tw_gl kw_566 rfl) rfl rfl ⟨(Nat.le_of_ble_eq_true rfl), (Nat.le_of_ble_eq_true rfl)⟩ rfl hl.1 rfl (Nat.le_of_ble_eq_true rfl) dX11_isDay_4 ⟨(Nat.le_of_ble_eq_true rfl), (Nat.le_of_ble_eq_true rfl)⟩) (fun r3 w1 H locs hp2 _ hH => ?_)
  rcases hp2 with ⟨rfl, hc4, rfl⟩ | ⟨rfl, hc5, rfl⟩
  · skip
    exact tw_iret F hH hret hlk rfl (Nat.le_of_ble_eq_true rfl) (Nat.le_of_ble_eq_true rfl) dX11_isDay_7 (Or.inl (⟨rfl, (by omega), rfl⟩))
  · skip
    exact tw_iret F hH hret hlk rfl (Nat.le_of_ble_eq_true rfl) (Nat.le_of_ble_eq_true rfl) dX11_isDay_7 (Or.inr (⟨rfl, (by omega), rfl⟩))
set_option maxHeartbeats 4000000 in
set_option maxRecDepth 100000 in
theorem c_X8_empty (l : Launch) (G : tw_G) (ad : Nat → Nat) (w : Nat → va_E) (sz : Nat) (hw_238 : w 238 = .inr (8, [.ref (ad 239), .int (0 : Int32), .ref (ad 240), .ref (ad 241), .ref (ad 242), .ref (ad 243), .int (0 : Int32), .int (0 : Int32)])) : Met l yX8_empty (tw_ws yX8_empty cX8_empty 1 none) ({ frames := 0, cells := 0, slots := 0, locals := 0 }) (tw_Pre G 244 ad w sz [.ref (ad 238)]) (tw_Qv G 244 ad (fun w1 => (True ∧ w1 238 = .inr (8, [.ref (ad 239), .int (0 : Int32), .ref (ad 240), .ref (ad 241), .ref (ad 242), .ref (ad 243), .int (0 : Int32), .int (0 : Int32)]) ∧ ∀ k, k ≠ 238 → w1 k = w k)) sz) 0 0 (tw_A 244 ad sz) := by
  refine tw_met (by decide) (Nat.le_of_ble_eq_true rfl) ?_
  intro p e s m args below meth c F hret hlk hin hargs hsz hH ls hl
  have hx := F.1.1
  have hb := F.1.2.1
  have hown := F.1.2.2.2.1
  have hts := F.1.2.2.2.2
  have hl : lv_has ls 1 [(0, .ref (ad 238))] := hl
  generalize hH0 : s.heap = H at hH ⊢
  refine lv_aload_n hx hb dX8_empty_0 rfl (lv_at hl 0 rfl) ?_
  refine lv_iconst (v := 0) hx hb dX8_empty_1 (by decide) ?_
  refine tw_put (r := 238) F hH kf_RX8_27 kp_X8_1 rfl (by decide) hw_238 (Nat.le_of_ble_eq_true rfl) rfl rfl dX8_empty_2 (fun H locs w1 hw2 hne3 hH => ?_)
  have hw2 : w1 238 = .inr (8, [.ref (ad 239), .int (0 : Int32), .ref (ad 240), .ref (ad 241), .ref (ad 242), .ref (ad 243), .int (0 : Int32), .int (0 : Int32)]) := hw2
  refine lv_aload_n hx hb dX8_empty_5 rfl (lv_at hl 0 rfl) ?_
  refine lv_iconst (v := 0) hx hb dX8_empty_6 (by decide) ?_
  refine tw_put (r := 238) F hH kf_RX8_31 kp_X8_6 rfl (by decide) hw2 (Nat.le_of_ble_eq_true rfl) rfl rfl dX8_empty_7 (fun H locs w4 hw5 hne6 hH => ?_)
  have hw5 : w4 238 = .inr (8, [.ref (ad 239), .int (0 : Int32), .ref (ad 240), .ref (ad 241), .ref (ad 242), .ref (ad 243), .int (0 : Int32), .int (0 : Int32)]) := hw5
  refine lv_aload_n hx hb dX8_empty_10 rfl (lv_at hl 0 rfl) ?_
  refine lv_iconst (v := 0) hx hb dX8_empty_11 (by decide) ?_
  refine tw_put (r := 238) F hH kf_RX8_34 kp_X8_7 rfl (by decide) hw5 (Nat.le_of_ble_eq_true rfl) rfl rfl dX8_empty_12 (fun H locs w7 hw8 hne9 hH => ?_)
  have hw8 : w7 238 = .inr (8, [.ref (ad 239), .int (0 : Int32), .ref (ad 240), .ref (ad 241), .ref (ad 242), .ref (ad 243), .int (0 : Int32), .int (0 : Int32)]) := hw8
  exact tw_vret F hH hret hlk (Nat.le_of_ble_eq_true rfl) (Nat.le_of_ble_eq_true rfl) dX8_empty_15 (⟨trivial, hw8, fun k h0 => ((hne9 k (by omega)).trans ((hne6 k (by omega)).trans (hne3 k (by omega))))⟩)
set_option maxHeartbeats 4000000 in
set_option maxRecDepth 100000 in
theorem c_X3_beginLine (l : Launch) (G : tw_G) (ad : Nat → Nat) (w : Nat → va_E) (sz : Nat) (hw_233 : w 233 = .inr (3, [.ref (ad 234), .int (0 : Int32), .ref (ad 235), .int (0 : Int32), .int (0 : Int32), .int (0 : Int32), .int (0 : Int32), .int (0 : Int32), .ref (ad 238)])) : Met l yX3_beginLine (tw_ws yX3_beginLine cX3_beginLine 1 none) ({ frames := 0, cells := 0, slots := 0, locals := 0 }) (tw_Pre G 244 ad w sz [.ref (ad 233)]) (tw_Qv G 244 ad (fun w1 => (True ∧ w1 233 = .inr (3, [.ref (ad 234), .int (0 : Int32), .ref (ad 235), .int (0 : Int32), .int (0 : Int32), .int (0 : Int32), .int (0 : Int32), .int (0 : Int32), .ref (ad 238)]) ∧ ∀ k, k ≠ 233 → w1 k = w k)) sz) 0 0 (tw_A 244 ad sz) := by
  refine tw_met (by decide) (Nat.le_of_ble_eq_true rfl) ?_
  intro p e s m args below meth c F hret hlk hin hargs hsz hH ls hl
  have hx := F.1.1
  have hb := F.1.2.1
  have hown := F.1.2.2.2.1
  have hts := F.1.2.2.2.2
  have hl : lv_has ls 1 [(0, .ref (ad 233))] := hl
  generalize hH0 : s.heap = H at hH ⊢
  refine lv_aload_n hx hb dX3_beginLine_0 rfl (lv_at hl 0 rfl) ?_
  refine lv_iconst (v := 0) hx hb dX3_beginLine_1 (by decide) ?_
  refine tw_put (r := 233) F hH kf_RX3_39 kp_X3_6 rfl (by decide) hw_233 (Nat.le_of_ble_eq_true rfl) rfl rfl dX3_beginLine_2 (fun H locs w1 hw2 hne3 hH => ?_)
  have hw2 : w1 233 = .inr (3, [.ref (ad 234), .int (0 : Int32), .ref (ad 235), .int (0 : Int32), .int (0 : Int32), .int (0 : Int32), .int (0 : Int32), .int (0 : Int32), .ref (ad 238)]) := hw2
  refine lv_aload_n hx hb dX3_beginLine_5 rfl (lv_at hl 0 rfl) ?_
  refine lv_iconst (v := 0) hx hb dX3_beginLine_6 (by decide) ?_
  refine tw_put (r := 233) F hH kf_RX3_46 kp_X3_1 rfl (by decide) hw2 (Nat.le_of_ble_eq_true rfl) rfl rfl dX3_beginLine_7 (fun H locs w4 hw5 hne6 hH => ?_)
  have hw5 : w4 233 = .inr (3, [.ref (ad 234), .int (0 : Int32), .ref (ad 235), .int (0 : Int32), .int (0 : Int32), .int (0 : Int32), .int (0 : Int32), .int (0 : Int32), .ref (ad 238)]) := hw5
  refine lv_aload_n hx hb dX3_beginLine_10 rfl (lv_at hl 0 rfl) ?_
  refine lv_iconst (v := 0) hx hb dX3_beginLine_11 (by decide) ?_
  refine tw_put (r := 233) F hH kf_RX3_49 kp_X3_3 rfl (by decide) hw5 (Nat.le_of_ble_eq_true rfl) rfl rfl dX3_beginLine_12 (fun H locs w7 hw8 hne9 hH => ?_)
  have hw8 : w7 233 = .inr (3, [.ref (ad 234), .int (0 : Int32), .ref (ad 235), .int (0 : Int32), .int (0 : Int32), .int (0 : Int32), .int (0 : Int32), .int (0 : Int32), .ref (ad 238)]) := hw8
  refine lv_aload_n hx hb dX3_beginLine_15 rfl (lv_at hl 0 rfl) ?_
  refine lv_iconst (v := 0) hx hb dX3_beginLine_16 (by decide) ?_
  refine tw_put (r := 233) F hH kf_RX3_43 kp_X3_5 rfl (by decide) hw8 (Nat.le_of_ble_eq_true rfl) rfl rfl dX3_beginLine_17 (fun H locs w10 hw11 hne12 hH => ?_)
  have hw11 : w10 233 = .inr (3, [.ref (ad 234), .int (0 : Int32), .ref (ad 235), .int (0 : Int32), .int (0 : Int32), .int (0 : Int32), .int (0 : Int32), .int (0 : Int32), .ref (ad 238)]) := hw11
  refine lv_aload_n hx hb dX3_beginLine_20 rfl (lv_at hl 0 rfl) ?_
  refine lv_iconst (v := 0) hx hb dX3_beginLine_21 (by decide) ?_
  refine tw_put (r := 233) F hH kf_RX3_52 kp_X3_4 rfl (by decide) hw11 (Nat.le_of_ble_eq_true rfl) rfl rfl dX3_beginLine_22 (fun H locs w13 hw14 hne15 hH => ?_)
  have hw14 : w13 233 = .inr (3, [.ref (ad 234), .int (0 : Int32), .ref (ad 235), .int (0 : Int32), .int (0 : Int32), .int (0 : Int32), .int (0 : Int32), .int (0 : Int32), .ref (ad 238)]) := hw14
  exact tw_vret F hH hret hlk (Nat.le_of_ble_eq_true rfl) (Nat.le_of_ble_eq_true rfl) dX3_beginLine_25 (⟨trivial, hw14, fun k h0 => ((hne15 k (by omega)).trans ((hne12 k (by omega)).trans ((hne9 k (by omega)).trans ((hne6 k (by omega)).trans (hne3 k (by omega))))))⟩)
set_option maxHeartbeats 4000000 in
set_option maxRecDepth 100000 in
theorem c_X3_firstWrong (l : Launch) (G : tw_G) (ad : Nat → Nat) (w : Nat → va_E) (sz : Nat) (hw_233 : w 233 = .inr (3, [.ref (ad 234), .int (0 : Int32), .ref (ad 235), .int (0 : Int32), .int (0 : Int32), .int (0 : Int32), .int (0 : Int32), .int (0 : Int32), .null])) (hw_238 : w 238 = .inr (8, [.ref (ad 239), .int (0 : Int32), .ref (ad 240), .ref (ad 241), .ref (ad 242), .ref (ad 243), .int (0 : Int32), .int (0 : Int32)])) : Met l yX3_firstWrong (tw_ws yX3_firstWrong cX3_firstWrong 6 (some .int)) ({ frames := 1, cells := 0, slots := 0, locals := 20 }) (tw_Pre G 244 ad w sz [.ref (ad 233), .ref (ad 236), .int (0 : Int32), .ref (ad 238), .int (0 : Int32)]) (tw_Qi G 244 ad (fun r w1 => ((0 : Int32) = r ∧ True ∧ w1 233 = .inr (3, [.ref (ad 234), .int (0 : Int32), .ref (ad 235), .int (0 : Int32), .int (0 : Int32), .int (0 : Int32), .int (0 : Int32), .int (0 : Int32), .ref (ad 238)]) ∧ w1 238 = .inr (8, [.ref (ad 239), .int (0 : Int32), .ref (ad 240), .ref (ad 241), .ref (ad 242), .ref (ad 243), .int (0 : Int32), .int (0 : Int32)]) ∧ ∀ k, k ≠ 233 → k ≠ 238 → w1 k = w k)) sz) 0 0 (tw_A 244 ad sz) := by
  refine tw_met (by decide) (Nat.le_of_ble_eq_true rfl) ?_
  intro p e s m args below meth c F hret hlk hin hargs hsz hH ls hl
  have hx := F.1.1
  have hb := F.1.2.1
  have hown := F.1.2.2.2.1
  have hts := F.1.2.2.2.2
  have hl : lv_has ls 6 [(0, .ref (ad 233)), (1, .ref (ad 236)), (2, .int (0 : Int32)), (3, .ref (ad 238)), (4, .int (0 : Int32))] := hl
  generalize hH0 : s.heap = H at hH ⊢
  refine lv_aload_n hx hb dX3_firstWrong_0 rfl (lv_at hl 0 rfl) ?_
  refine lv_iload hx hb dX3_firstWrong_1 (lv_at hl 4 rfl) ?_
  refine tw_put (r := 233) F hH kf_RX3_19 kp_X3_7 rfl (by decide) hw_233 (Nat.le_of_ble_eq_true rfl) rfl rfl dX3_firstWrong_3 (fun H locs w1 hw2 hne3 hH => ?_)
  have hw2 : w1 233 = .inr (3, [.ref (ad 234), .int (0 : Int32), .ref (ad 235), .int (0 : Int32), .int (0 : Int32), .int (0 : Int32), .int (0 : Int32), .int (0 : Int32), .null]) := hw2
  refine lv_aload_n hx hb dX3_firstWrong_6 rfl (lv_at hl 0 rfl) ?_
  refine lv_aload_n hx hb dX3_firstWrong_7 rfl (lv_at hl 3 rfl) ?_
  refine tw_put (r := 233) F hH kf_RX3_23 kp_X3_8 rfl (by decide) hw2 (Nat.le_of_ble_eq_true rfl) rfl rfl dX3_firstWrong_8 (fun H locs w4 hw5 hne6 hH => ?_)
  have hw5 : w4 233 = .inr (3, [.ref (ad 234), .int (0 : Int32), .ref (ad 235), .int (0 : Int32), .int (0 : Int32), .int (0 : Int32), .int (0 : Int32), .int (0 : Int32), .ref (ad 238)]) := hw5
  refine lv_aload_n hx hb dX3_firstWrong_11 rfl (lv_at hl 0 rfl) ?_
  refine tw_get (r := 233) F hH kf_RX3_23 rfl (by decide) hw5 rfl dX3_firstWrong_12 ?_
  have hw7 : w4 238 = .inr (8, [.ref (ad 239), .int (0 : Int32), .ref (ad 240), .ref (ad 241), .ref (ad 242), .ref (ad 243), .int (0 : Int32), .int (0 : Int32)]) := (hne6 238 (by decide)).trans ((hne3 238 (by decide)).trans (hw_238))
  refine tw_callv F hH (tw_runV (r := 238) (As := []) (rest := []) F hH (c_X8_empty l G ad w4 H.size hw7) (tw_gl kw_657 rfl) km_X8_empty kv_X8_empty rfl rfl ⟨(Nat.le_of_ble_eq_true rfl), (Nat.le_of_ble_eq_true rfl)⟩ (by decide) hw7 rfl rfl hl.1 rfl (Nat.le_of_ble_eq_true rfl) dX3_firstWrong_15 ⟨(Nat.le_of_ble_eq_true rfl), (Nat.le_of_ble_eq_true rfl)⟩) (fun w8 H locs hp9 _ hH => ?_)
  obtain ⟨-, hw11, hfr12⟩ := hp9
  refine lv_aload_n hx hb dX3_firstWrong_18 rfl (lv_at hl 0 rfl) ?_
  have hw13 : w8 233 = .inr (3, [.ref (ad 234), .int (0 : Int32), .ref (ad 235), .int (0 : Int32), .int (0 : Int32), .int (0 : Int32), .int (0 : Int32), .int (0 : Int32), .ref (ad 238)]) := (hfr12 233 (by omega)).trans (hw5)
  refine tw_callv F hH (tw_runV (r := 233) (As := []) (rest := []) F hH (c_X3_beginLine l G ad w8 H.size hw13) (tw_gl kw_661 rfl) km_X3_beginLine kv_X3_beginLine rfl rfl ⟨(Nat.le_of_ble_eq_true rfl), (Nat.le_of_ble_eq_true rfl)⟩ (by decide) hw13 rfl rfl hl.1 rfl (Nat.le_of_ble_eq_true rfl) dX3_firstWrong_19 ⟨(Nat.le_of_ble_eq_true rfl), (Nat.le_of_ble_eq_true rfl)⟩) (fun w14 H locs hp15 _ hH => ?_)
  obtain ⟨-, hw17, hfr18⟩ := hp15
  refine lv_iconst (v := 0) hx hb dX3_firstWrong_22 (by decide) ?_
  refine lv_istore (lv' := [(5, .int (0 : Int32)), (0, .ref (ad 233)), (1, .ref (ad 236)), (2, .int (0 : Int32)), (3, .ref (ad 238)), (4, .int (0 : Int32))]) hx hb dX3_firstWrong_23 hl (by decide) rfl (fun ls hl => ?_)
  refine lv_iload hx hb dX3_firstWrong_25 (lv_at hl 0 rfl) ?_
  refine lv_iload_n hx hb dX3_firstWrong_27 rfl (lv_at hl 3 rfl) ?_
  refine lv_icmp_ge (tgt := 65) hx hb dX3_firstWrong_28 (by decide) (fun _ => ?_) (fun c => absurd c (by decide))
  refine lv_iload_n hx hb dX3_firstWrong_65 rfl (lv_at hl 3 rfl) ?_
  refine lv_bipush (v := 60) hx hb dX3_firstWrong_66 (by decide) ?_
  refine lv_icmp_le (tgt := 74) hx hb dX3_firstWrong_68 (by decide) (fun _ => ?_) (fun c => absurd c (by decide))
  refine lv_aload_n hx hb dX3_firstWrong_74 rfl (lv_at hl 1 rfl) ?_
  refine tw_get (r := 233) F hH kf_RX3_19 rfl (by decide) hw17 rfl dX3_firstWrong_75 ?_
  refine lv_if_eq (tgt := 98) hx hb dX3_firstWrong_78 (by decide) (fun _ => ?_) (fun c => absurd c (by decide))
  refine lv_aload_n hx hb dX3_firstWrong_98 rfl (lv_at hl 1 rfl) ?_
  refine tw_get (r := 233) F hH kf_RX3_39 rfl (by decide) hw17 rfl dX3_firstWrong_99 ?_
  refine lv_iconst (v := 5) hx hb dX3_firstWrong_102 (by decide) ?_
  refine lv_icmp_eq (tgt := 121) hx hb dX3_firstWrong_103 (by decide) (fun c => absurd c (by decide)) (fun _ => ?_)
  refine lv_aload_n hx hb dX3_firstWrong_106 rfl (lv_at hl 1 rfl) ?_
  refine tw_get (r := 233) F hH kf_RX3_39 rfl (by decide) hw17 rfl dX3_firstWrong_107 ?_
  refine lv_iconst (v := 4) hx hb dX3_firstWrong_110 (by decide) ?_
  refine lv_icmp_ne (tgt := 125) hx hb dX3_firstWrong_111 (by decide) (fun _ => ?_) (fun c => absurd c (by decide))
  refine lv_iconst (v := 0) hx hb dX3_firstWrong_125 (by decide) ?_
  refine lv_istore (lv' := [(5, .int (0 : Int32)), (0, .ref (ad 233)), (1, .ref (ad 236)), (2, .int (0 : Int32)), (3, .ref (ad 238)), (4, .int (0 : Int32))]) hx hb dX3_firstWrong_126 hl (by decide) rfl (fun ls hl => ?_)
  refine lv_iload hx hb dX3_firstWrong_128 (lv_at hl 0 rfl) ?_
  refine lv_if_eq (tgt := 137) hx hb dX3_firstWrong_130 (by decide) (fun _ => ?_) (fun c => absurd c (by decide))
  refine lv_iload_n hx hb dX3_firstWrong_137 rfl (lv_at hl 3 rfl) ?_
  have hw25 : w14 238 = .inr (8, [.ref (ad 239), .int (0 : Int32), .ref (ad 240), .ref (ad 241), .ref (ad 242), .ref (ad 243), .int (0 : Int32), .int (0 : Int32)]) := (hfr18 238 (by omega)).trans (hw11)
  exact tw_iret F hH hret hlk rfl (Nat.le_of_ble_eq_true rfl) (Nat.le_of_ble_eq_true rfl) dX3_firstWrong_138 (⟨rfl, trivial, hw17, hw25, fun k h0 h1 => ((hfr18 k (by omega)).trans ((hfr12 k (by omega)).trans ((hne6 k (by omega)).trans (hne3 k (by omega)))))⟩)
set_option maxHeartbeats 4000000 in
set_option maxRecDepth 100000 in
theorem c_X11_rule (l : Launch) (G : tw_G) (ad : Nat → Nat) (w : Nat → va_E) (sz : Nat) (x1 : Int32) (z1 : Int) (e1 : x1.toInt = z1) (hw_0 : w 0 = .inr (11, [.ref (ad 4), .ref (ad 14), .ref (ad 156), .ref (ad 221), .ref (ad 225), .ref (ad 233), .ref (ad 236), .int (0 : Int32), .ref (ad 237), .int (0 : Int32), .ref (ad 238)])) (hw_156 : w 156 = .inr (0, [.ref (ad 1), .ref (ad 157), .ref (ad 158), .int (0 : Int32), .ref (ad 159)])) (hw_233 : w 233 = .inr (3, [.ref (ad 234), .int (0 : Int32), .ref (ad 235), .int (0 : Int32), .int (0 : Int32), .int (0 : Int32), .int (0 : Int32), .int (0 : Int32), .null])) (hw_238 : w 238 = .inr (8, [.ref (ad 239), .int (0 : Int32), .ref (ad 240), .ref (ad 241), .ref (ad 242), .ref (ad 243), .int (0 : Int32), .int (0 : Int32)])) : Met l yX11_rule (tw_ws yX11_rule cX11_rule 4 (some .int)) ({ frames := 2, cells := 0, slots := 0, locals := 45 }) (tw_Pre G 244 ad w sz [.ref (ad 0), .int x1]) (tw_Qi G 244 ad (fun r w1 => ((-100 : Int32) = r ∧ ((((z1 < 0)) ∨ ((¬ (z1 < 0)) ∧ (99 < z1))))) ∨ ((-1 : Int32) = r ∧ ((((¬ (z1 < 0)) ∧ (¬ (99 < z1)))) ∧ ((¬ (0 < 0)) ∧ (¬ (10 ≤ 0)))))) sz) 0 0 (tw_A 244 ad sz) := by
  refine tw_met (by decide) (Nat.le_of_ble_eq_true rfl) ?_
  intro p e s m args below meth c F hret hlk hin hargs hsz hH ls hl
  have hx := F.1.1
  have hb := F.1.2.1
  have hown := F.1.2.2.2.1
  have hts := F.1.2.2.2.2
  have hl : lv_has ls 4 [(0, .ref (ad 0)), (1, .int x1)] := hl
  generalize hH0 : s.heap = H at hH ⊢
  refine lv_aload_n hx hb dX11_rule_0 rfl (lv_at hl 0 rfl) ?_
  refine tw_calli F hH (tw_runV (r := 0) (As := []) (rest := []) F hH (c_X11_takeTape l G ad w H.size hw_0) (tw_gl kw_649 rfl) km_X11_takeTape kv_X11_takeTape rfl rfl ⟨(Nat.le_of_ble_eq_true rfl), (Nat.le_of_ble_eq_true rfl)⟩ (by decide) hw_0 rfl rfl hl.1 rfl (Nat.le_of_ble_eq_true rfl) dX11_rule_1 ⟨(Nat.le_of_ble_eq_true rfl), (Nat.le_of_ble_eq_true rfl)⟩) (fun r3 w1 H locs hp2 _ hH => ?_)
  obtain ⟨rfl, -, hw5, hfr6⟩ := hp2
  refine lv_istore_n (lv' := [(2, .int (0 : Int32)), (0, .ref (ad 0)), (1, .int x1)]) hx hb dX11_rule_4 rfl hl (by decide) rfl (fun ls hl => ?_)
  refine lv_iload_n hx hb dX11_rule_5 rfl (lv_at hl 2 rfl) ?_
  refine tw_calli F hH (tw_runS (As := [.int x1]) (rest := []) F hH (c_X11_isDay l G 244 ad w1 H.size x1 (z1) e1) (tw_gl kw_1055 rfl) km_X11_isDay (tw_gl kw_1056 rfl) rfl rfl ⟨(Nat.le_of_ble_eq_true rfl), (Nat.le_of_ble_eq_true rfl)⟩ rfl hl.1 rfl (Nat.le_of_ble_eq_true rfl) dX11_rule_6 ⟨(Nat.le_of_ble_eq_true rfl), (Nat.le_of_ble_eq_true rfl)⟩) (fun r9 w7 H locs hp8 _ hH => ?_)
  rcases hp8 with ⟨rfl, hc10, rfl⟩ | ⟨rfl, hc11, rfl⟩
  · skip
    refine lv_if_eq (tgt := 27) hx hb dX11_rule_9 (by decide) (fun _ => ?_) (fun c => absurd c (by decide))
    refine lv_bipush (v := -100) hx hb dX11_rule_27 (by decide) ?_
    exact tw_iret F hH hret hlk rfl (Nat.le_of_ble_eq_true rfl) (Nat.le_of_ble_eq_true rfl) dX11_rule_29 (Or.inl (⟨rfl, (by omega)⟩))
  · skip
    refine lv_if_eq (tgt := 27) hx hb dX11_rule_9 (by decide) (fun c => absurd c (by decide)) (fun _ => ?_)
    refine lv_aload_n hx hb dX11_rule_12 rfl (lv_at hl 1 rfl) ?_
    refine tw_get (r := 0) F hH kf_RX11_33 rfl (by decide) hw5 rfl dX11_rule_13 ?_
    have hw14 : w1 156 = .inr (0, [.ref (ad 1), .ref (ad 157), .ref (ad 158), .int (0 : Int32), .ref (ad 159)]) := (hfr6 156 (by omega)).trans (hw_156)
    refine tw_get (r := 156) F hH kf_RX11_88 rfl (by decide) hw14 rfl dX11_rule_16 ?_
    refine lv_bipush (v := 10) hx hb dX11_rule_19 (by decide) ?_
    refine tw_calli F hH (tw_runS (As := [.int (0 : Int32), .int (10 : Int32)]) (rest := []) F hH (c_X11_isIndex l G 244 ad w1 H.size (0 : Int32) 0 (by decide : (0 : Int32).toInt = 0) (10 : Int32) 10 (by decide : (10 : Int32).toInt = 10)) (tw_gl kw_572 rfl) km_X11_isIndex (tw_gl kw_562 rfl) rfl rfl ⟨(Nat.le_of_ble_eq_true rfl), (Nat.le_of_ble_eq_true rfl)⟩ rfl hl.1 rfl (Nat.le_of_ble_eq_true rfl) dX11_rule_21 ⟨(Nat.le_of_ble_eq_true rfl), (Nat.le_of_ble_eq_true rfl)⟩) (fun r17 w15 H locs hp16 _ hH => ?_)
    rcases hp16 with ⟨rfl, hc18, rfl⟩ | ⟨rfl, hc19, rfl⟩
    · exfalso; omega
    · skip
      refine lv_if_ne (tgt := 30) hx hb dX11_rule_24 (by decide) (fun _ => ?_) (fun c => absurd c (by decide))
      refine lv_aload_n hx hb dX11_rule_30 rfl (lv_at hl 1 rfl) ?_
      refine tw_get (r := 0) F hH kf_RX11_58 rfl (by decide) hw5 rfl dX11_rule_31 ?_
      refine lv_aload_n hx hb dX11_rule_34 rfl (lv_at hl 1 rfl) ?_
      refine tw_get (r := 0) F hH kf_RX11_62 rfl (by decide) hw5 rfl dX11_rule_35 ?_
      refine lv_iload_n hx hb dX11_rule_38 rfl (lv_at hl 0 rfl) ?_
      refine lv_aload_n hx hb dX11_rule_39 rfl (lv_at hl 1 rfl) ?_
      refine tw_get (r := 0) F hH kf_RX11_72 rfl (by decide) hw5 rfl dX11_rule_40 ?_
      refine lv_iconst (v := 0) hx hb dX11_rule_43 (by decide) ?_
      have hw21 : w1 233 = .inr (3, [.ref (ad 234), .int (0 : Int32), .ref (ad 235), .int (0 : Int32), .int (0 : Int32), .int (0 : Int32), .int (0 : Int32), .int (0 : Int32), .null]) := (hfr6 233 (by omega)).trans (hw_233)
      have hw22 : w1 238 = .inr (8, [.ref (ad 239), .int (0 : Int32), .ref (ad 240), .ref (ad 241), .ref (ad 242), .ref (ad 243), .int (0 : Int32), .int (0 : Int32)]) := (hfr6 238 (by omega)).trans (hw_238)
      refine tw_calli F hH (tw_runV (r := 233) (As := [.ref (ad 236), .int (0 : Int32), .ref (ad 238), .int (0 : Int32)]) (rest := []) F hH (c_X3_firstWrong l G ad w1 H.size hw21 hw22) (tw_gl kw_653 rfl) km_X3_firstWrong kv_X3_firstWrong rfl rfl ⟨(Nat.le_of_ble_eq_true rfl), (Nat.le_of_ble_eq_true rfl)⟩ (by decide) hw21 rfl rfl hl.1 rfl (Nat.le_of_ble_eq_true rfl) dX11_rule_44 ⟨(Nat.le_of_ble_eq_true rfl), (Nat.le_of_ble_eq_true rfl)⟩) (fun r25 w23 H locs hp24 _ hH => ?_)
      obtain ⟨rfl, -, hw27, hw28, hfr29⟩ := hp24
      refine lv_istore_n (lv' := [(3, .int (0 : Int32)), (2, .int (0 : Int32)), (0, .ref (ad 0)), (1, .int x1)]) hx hb dX11_rule_47 rfl hl (by decide) rfl (fun ls hl => ?_)
      refine lv_iload_n hx hb dX11_rule_48 rfl (lv_at hl 0 rfl) ?_
      refine lv_iconst (v := -1) hx hb dX11_rule_49 (by decide) ?_
      refine lv_icmp_eq (tgt := 57) hx hb dX11_rule_50 (by decide) (fun c => absurd c (by decide)) (fun _ => ?_)
      refine lv_iconst (v := -1) hx hb dX11_rule_53 (by decide) ?_
      refine lv_iload_n hx hb dX11_rule_54 rfl (lv_at hl 0 rfl) ?_
      refine lv_isub hx hb dX11_rule_55 ?_
      refine tw_cv (v := (-1 : Int32)) (by decide) ?_
      exact tw_iret F hH hret hlk rfl (Nat.le_of_ble_eq_true rfl) (Nat.le_of_ble_eq_true rfl) dX11_rule_56 (Or.inr (⟨rfl, (by omega)⟩))
set_option maxHeartbeats 4000000 in
set_option maxRecDepth 100000 in
theorem c_X11_finding (l : Launch) (G : tw_G) (ad : Nat → Nat) (w : Nat → va_E) (sz : Nat) (x1 : Int32) (z1 : Int) (e1 : x1.toInt = z1) (x2 : Int32) (z2 : Int) (e2 : x2.toInt = z2) (x3 : Int32) (z3 : Int) (e3 : x3.toInt = z3) (x4 : Int32) (z4 : Int) (e4 : x4.toInt = z4) (hw_0 : w 0 = .inr (11, [.ref (ad 4), .ref (ad 14), .ref (ad 156), .ref (ad 221), .ref (ad 225), .ref (ad 233), .ref (ad 236), .int (0 : Int32), .ref (ad 237), .int (0 : Int32), .ref (ad 238)])) (hw_14 : w 14 = .inr (2, [.ref (ad 4), .ref (ad 1), .ref (ad 15), .ref (ad 16), .ref (ad 17), .int (0 : Int32), .int (0 : Int32), .int (0 : Int32)])) : Met l yX11_finding (tw_ws yX11_finding cX11_finding 6 (some .int)) ({ frames := 2, cells := 0, slots := 0, locals := 42 }) (tw_Pre G 244 ad w sz [.ref (ad 0), .int x1, .int x2, .int x3, .int x4]) (tw_Qi G 244 ad (fun r w1 => ((-1 : Int32) = r ∧ ((((((z1 < 0)) ∨ ((¬ (z1 < 0)) ∧ (99 < z1))))) ∨ ((((¬ (z1 < 0)) ∧ (¬ (99 < z1)))) ∧ ((((z2 < 0)) ∨ ((¬ (z2 < 0)) ∧ (0 ≤ z2)))))))) sz) 0 0 (tw_A 244 ad sz) := by
  refine tw_met (by decide) (Nat.le_of_ble_eq_true rfl) ?_
  intro p e s m args below meth c F hret hlk hin hargs hsz hH ls hl
  have hx := F.1.1
  have hb := F.1.2.1
  have hown := F.1.2.2.2.1
  have hts := F.1.2.2.2.2
  have hl : lv_has ls 6 [(0, .ref (ad 0)), (1, .int x1), (2, .int x2), (3, .int x3), (4, .int x4)] := hl
  generalize hH0 : s.heap = H at hH ⊢
  refine lv_iload_n hx hb dX11_finding_0 rfl (lv_at hl 1 rfl) ?_
  refine tw_calli F hH (tw_runS (As := [.int x1]) (rest := []) F hH (c_X11_isDay l G 244 ad w H.size x1 (z1) e1) (tw_gl kw_1055 rfl) km_X11_isDay (tw_gl kw_1056 rfl) rfl rfl ⟨(Nat.le_of_ble_eq_true rfl), (Nat.le_of_ble_eq_true rfl)⟩ rfl hl.1 rfl (Nat.le_of_ble_eq_true rfl) dX11_finding_1 ⟨(Nat.le_of_ble_eq_true rfl), (Nat.le_of_ble_eq_true rfl)⟩) (fun r3 w1 H locs hp2 _ hH => ?_)
  rcases hp2 with ⟨rfl, hc4, rfl⟩ | ⟨rfl, hc5, rfl⟩
  · skip
    refine lv_if_eq (tgt := 27) hx hb dX11_finding_4 (by decide) (fun _ => ?_) (fun c => absurd c (by decide))
    refine lv_iconst (v := -1) hx hb dX11_finding_27 (by decide) ?_
    exact tw_iret F hH hret hlk rfl (Nat.le_of_ble_eq_true rfl) (Nat.le_of_ble_eq_true rfl) dX11_finding_28 (⟨rfl, (Or.inl (by omega))⟩)
  · skip
    refine lv_if_eq (tgt := 27) hx hb dX11_finding_4 (by decide) (fun c => absurd c (by decide)) (fun _ => ?_)
    refine lv_aload_n hx hb dX11_finding_7 rfl (lv_at hl 0 rfl) ?_
    refine tw_get (r := 0) F hH kf_RX11_24 rfl (by decide) hw_0 rfl dX11_finding_8 ?_
    refine lv_iload_n hx hb dX11_finding_11 rfl (lv_at hl 2 rfl) ?_
    refine tw_calli F hH (tw_runV (r := 14) (As := [.int x2]) (rest := []) F hH (c_X2_has l G ad w H.size x2 (z2) e2 hw_14) (tw_gl kw_619 rfl) km_X2_has kv_X2_has rfl rfl ⟨(Nat.le_of_ble_eq_true rfl), (Nat.le_of_ble_eq_true rfl)⟩ (by decide) hw_14 rfl rfl hl.1 rfl (Nat.le_of_ble_eq_true rfl) dX11_finding_12 ⟨(Nat.le_of_ble_eq_true rfl), (Nat.le_of_ble_eq_true rfl)⟩) (fun r10 w8 H locs hp9 _ hH => ?_)
    obtain ⟨rfl, hc11, rfl⟩ := hp9
    refine lv_if_eq (tgt := 27) hx hb dX11_finding_15 (by decide) (fun _ => ?_) (fun c => absurd c (by decide))
    refine lv_iconst (v := -1) hx hb dX11_finding_27 (by decide) ?_
    exact tw_iret F hH hret hlk rfl (Nat.le_of_ble_eq_true rfl) (Nat.le_of_ble_eq_true rfl) dX11_finding_28 (⟨rfl, (Or.inr (by omega))⟩)
set_option maxHeartbeats 4000000 in
set_option maxRecDepth 100000 in
theorem c_X11_seconds (l : Launch) (G : tw_G) (ad : Nat → Nat) (w : Nat → va_E) (sz : Nat) (x1 : Int32) (z1 : Int) (e1 : x1.toInt = z1) (x2 : Int32) (z2 : Int) (e2 : x2.toInt = z2) (hw_0 : w 0 = .inr (11, [.ref (ad 4), .ref (ad 14), .ref (ad 156), .ref (ad 221), .ref (ad 225), .ref (ad 233), .ref (ad 236), .int (0 : Int32), .ref (ad 237), .int (0 : Int32), .ref (ad 238)])) (hw_14 : w 14 = .inr (2, [.ref (ad 4), .ref (ad 1), .ref (ad 15), .ref (ad 16), .ref (ad 17), .int (0 : Int32), .int (0 : Int32), .int (0 : Int32)])) : Met l yX11_seconds (tw_ws yX11_seconds cX11_seconds 3 (some .int)) ({ frames := 2, cells := 0, slots := 0, locals := 42 }) (tw_Pre G 244 ad w sz [.ref (ad 0), .int x1, .int x2]) (tw_Qi G 244 ad (fun r w1 => ((-1 : Int32) = r ∧ ((((z1 < 0)) ∨ ((¬ (z1 < 0)) ∧ (0 ≤ z1)))))) sz) 0 0 (tw_A 244 ad sz) := by
  refine tw_met (by decide) (Nat.le_of_ble_eq_true rfl) ?_
  intro p e s m args below meth c F hret hlk hin hargs hsz hH ls hl
  have hx := F.1.1
  have hb := F.1.2.1
  have hown := F.1.2.2.2.1
  have hts := F.1.2.2.2.2
  have hl : lv_has ls 3 [(0, .ref (ad 0)), (1, .int x1), (2, .int x2)] := hl
  generalize hH0 : s.heap = H at hH ⊢
  refine lv_aload_n hx hb dX11_seconds_0 rfl (lv_at hl 0 rfl) ?_
  refine tw_get (r := 0) F hH kf_RX11_24 rfl (by decide) hw_0 rfl dX11_seconds_1 ?_
  refine lv_iload_n hx hb dX11_seconds_4 rfl (lv_at hl 1 rfl) ?_
  refine tw_calli F hH (tw_runV (r := 14) (As := [.int x1]) (rest := []) F hH (c_X2_has l G ad w H.size x1 (z1) e1 hw_14) (tw_gl kw_619 rfl) km_X2_has kv_X2_has rfl rfl ⟨(Nat.le_of_ble_eq_true rfl), (Nat.le_of_ble_eq_true rfl)⟩ (by decide) hw_14 rfl rfl hl.1 rfl (Nat.le_of_ble_eq_true rfl) dX11_seconds_5 ⟨(Nat.le_of_ble_eq_true rfl), (Nat.le_of_ble_eq_true rfl)⟩) (fun r3 w1 H locs hp2 _ hH => ?_)
  obtain ⟨rfl, hc4, rfl⟩ := hp2
  refine lv_if_eq (tgt := 18) hx hb dX11_seconds_8 (by decide) (fun _ => ?_) (fun c => absurd c (by decide))
  refine lv_iconst (v := -1) hx hb dX11_seconds_18 (by decide) ?_
  exact tw_iret F hH hret hlk rfl (Nat.le_of_ble_eq_true rfl) (Nat.le_of_ble_eq_true rfl) dX11_seconds_19 (⟨rfl, (by omega)⟩)
set_option maxHeartbeats 4000000 in
set_option maxRecDepth 100000 in
theorem c_X11_place (l : Launch) (G : tw_G) (ad : Nat → Nat) (w : Nat → va_E) (sz : Nat) (x1 : Int32) (z1 : Int) (e1 : x1.toInt = z1) (x2 : Int32) (z2 : Int) (e2 : x2.toInt = z2) (hw_0 : w 0 = .inr (11, [.ref (ad 4), .ref (ad 14), .ref (ad 156), .ref (ad 221), .ref (ad 225), .ref (ad 233), .ref (ad 236), .int (0 : Int32), .ref (ad 237), .int (0 : Int32), .ref (ad 238)])) (hw_14 : w 14 = .inr (2, [.ref (ad 4), .ref (ad 1), .ref (ad 15), .ref (ad 16), .ref (ad 17), .int (0 : Int32), .int (0 : Int32), .int (0 : Int32)])) : Met l yX11_place (tw_ws yX11_place cX11_place 3 (some .int)) ({ frames := 2, cells := 0, slots := 0, locals := 42 }) (tw_Pre G 244 ad w sz [.ref (ad 0), .int x1, .int x2]) (tw_Qi G 244 ad (fun r w1 => ((-1 : Int32) = r ∧ ((((z1 < 0)) ∨ ((¬ (z1 < 0)) ∧ (0 ≤ z1)))))) sz) 0 0 (tw_A 244 ad sz) := by
  refine tw_met (by decide) (Nat.le_of_ble_eq_true rfl) ?_
  intro p e s m args below meth c F hret hlk hin hargs hsz hH ls hl
  have hx := F.1.1
  have hb := F.1.2.1
  have hown := F.1.2.2.2.1
  have hts := F.1.2.2.2.2
  have hl : lv_has ls 3 [(0, .ref (ad 0)), (1, .int x1), (2, .int x2)] := hl
  generalize hH0 : s.heap = H at hH ⊢
  refine lv_aload_n hx hb dX11_place_0 rfl (lv_at hl 0 rfl) ?_
  refine tw_get (r := 0) F hH kf_RX11_24 rfl (by decide) hw_0 rfl dX11_place_1 ?_
  refine lv_iload_n hx hb dX11_place_4 rfl (lv_at hl 1 rfl) ?_
  refine tw_calli F hH (tw_runV (r := 14) (As := [.int x1]) (rest := []) F hH (c_X2_has l G ad w H.size x1 (z1) e1 hw_14) (tw_gl kw_619 rfl) km_X2_has kv_X2_has rfl rfl ⟨(Nat.le_of_ble_eq_true rfl), (Nat.le_of_ble_eq_true rfl)⟩ (by decide) hw_14 rfl rfl hl.1 rfl (Nat.le_of_ble_eq_true rfl) dX11_place_5 ⟨(Nat.le_of_ble_eq_true rfl), (Nat.le_of_ble_eq_true rfl)⟩) (fun r3 w1 H locs hp2 _ hH => ?_)
  obtain ⟨rfl, hc4, rfl⟩ := hp2
  refine lv_if_eq (tgt := 18) hx hb dX11_place_8 (by decide) (fun _ => ?_) (fun c => absurd c (by decide))
  refine lv_iconst (v := -1) hx hb dX11_place_18 (by decide) ?_
  exact tw_iret F hH hret hlk rfl (Nat.le_of_ble_eq_true rfl) (Nat.le_of_ble_eq_true rfl) dX11_place_19 (⟨rfl, (by omega)⟩)
set_option maxHeartbeats 4000000 in
set_option maxRecDepth 100000 in
theorem c_X11_sum (l : Launch) (G : tw_G) (hst : l.stackTraces = false) (ad : Nat → Nat) (w : Nat → va_E) (sz : Nat) (x1 : Int32) (z1 : Int) (e1 : x1.toInt = z1) (x2 : Int32) (z2 : Int) (e2 : x2.toInt = z2) (hw_0 : w 0 = .inr (11, [.ref (ad 4), .ref (ad 14), .ref (ad 156), .ref (ad 221), .ref (ad 225), .ref (ad 233), .ref (ad 236), .int (0 : Int32), .ref (ad 237), .int (0 : Int32), .ref (ad 238)])) (hw_14 : w 14 = .inr (2, [.ref (ad 4), .ref (ad 1), .ref (ad 15), .ref (ad 16), .ref (ad 17), .int (0 : Int32), .int (0 : Int32), .int (0 : Int32)])) : vx_Met l yX11_sum (tw_ws yX11_sum cX11_sum 3 (some .int)) ({ frames := 6, cells := 1, slots := 6, locals := 81 }) (tw_Pre G 244 ad w sz [.ref (ad 0), .int x1, .int x2]) (tw_Qi G 244 ad (fun _ _ => False) sz) (tw_X G 244 ad (fun w1 => w = w1) sz) 1 6 (tw_A 244 ad sz) := by
  refine tw_metX (by decide) (Nat.le_of_ble_eq_true rfl) ?_
  intro p e s m args below meth c F hret hlk hex hargs hsz hH ls hl
  have hx := F.1.1
  have hb := F.1.2.1
  have hown := F.1.2.2.2.1
  have hts := F.1.2.2.2.2
  have hl : lv_has ls 3 [(0, .ref (ad 0)), (1, .int x1), (2, .int x2)] := hl
  generalize hH0 : s.heap = H at hH ⊢
  refine lv_aload_n hx hb dX11_sum_0 rfl (lv_at hl 0 rfl) ?_
  refine tw_get (r := 0) F hH kf_RX11_24 rfl (by decide) hw_0 rfl dX11_sum_1 ?_
  refine lv_iload_n hx hb dX11_sum_4 rfl (lv_at hl 1 rfl) ?_
  refine tw_calli F hH (tw_runV (r := 14) (As := [.int x1]) (rest := []) F hH (c_X2_has l G ad w H.size x1 (z1) e1 hw_14) (tw_gl kw_619 rfl) km_X2_has kv_X2_has rfl rfl ⟨(Nat.le_of_ble_eq_true rfl), (Nat.le_of_ble_eq_true rfl)⟩ (by decide) hw_14 rfl rfl hl.1 rfl (Nat.le_of_ble_eq_true rfl) dX11_sum_5 ⟨(Nat.le_of_ble_eq_true rfl), (Nat.le_of_ble_eq_true rfl)⟩) (fun r3 w1 H locs hp2 _ hH => ?_)
  obtain ⟨rfl, hc4, rfl⟩ := hp2
  refine lv_if_eq (tgt := 18) hx hb dX11_sum_8 (by decide) (fun _ => ?_) (fun c => absurd c (by decide))
  exact tw_throw0 F hH hst hl.1 hex hlk ⟨(Nat.le_of_ble_eq_true rfl), (Nat.le_of_ble_eq_true rfl), (Nat.le_of_ble_eq_true rfl), (Nat.le_of_ble_eq_true rfl)⟩ (Nat.le_of_ble_eq_true rfl) (Nat.le_of_ble_eq_true rfl) dX11_sum_18 dX11_sum_21 dX11_sum_22 dX11_sum_25 rfl
set_option maxHeartbeats 4000000 in
set_option maxRecDepth 100000 in
theorem c_L_sum (l : Launch) (G : tw_G) (hst : l.stackTraces = false) (ad : Nat → Nat) (w : Nat → va_E) (sz : Nat) (x1 : Int32) (z1 : Int) (e1 : x1.toInt = z1) (x2 : Int32) (z2 : Int) (e2 : x2.toInt = z2) (a3 : Nat) (hw_0 : w 0 = .inr (11, [.ref (ad 4), .ref (ad 14), .ref (ad 156), .ref (ad 221), .ref (ad 225), .ref (ad 233), .ref (ad 236), .int (0 : Int32), .ref (ad 237), .int (0 : Int32), .ref (ad 238)])) (hw_14 : w 14 = .inr (2, [.ref (ad 4), .ref (ad 1), .ref (ad 15), .ref (ad 16), .ref (ad 17), .int (0 : Int32), .int (0 : Int32), .int (0 : Int32)])) : Met l yL_sum (tw_wsW yL_sum cL_sum 5 (some .int) [(0, 10, 13, 13)]) ({ frames := 7, cells := 1, slots := 6, locals := 103 }) (tw_Pre G 244 ad w sz [.ref (ad 0), .int x1, .int x2, .ref a3]) (tw_Qi G 244 ad (fun r w1 => (1 : Int32) = r ∧ True ∧ w = w1) sz) 1 6 (tw_A 244 ad sz) := by
  refine tw_metW (by decide) (Nat.le_of_ble_eq_true rfl) ?_
  intro p e s m args below meth c F hret hlk htab hargs hsz hH ls hl
  have hx := F.1.1
  have hb := F.1.2.1
  have hown := F.1.2.2.2.1
  have hts := F.1.2.2.2.2
  have hl : lv_has ls 5 [(0, .ref (ad 0)), (1, .int x1), (2, .int x2), (3, .ref a3)] := hl
  generalize hH0 : s.heap = H at hH ⊢
  refine lv_aload_n hx hb dL_sum_0 rfl (lv_at hl 3 rfl) ?_
  refine lv_iconst (v := 0) hx hb dL_sum_1 (by decide) ?_
  refine lv_aload_n hx hb dL_sum_2 rfl (lv_at hl 0 rfl) ?_
  refine lv_iload_n hx hb dL_sum_3 rfl (lv_at hl 1 rfl) ?_
  refine lv_iload_n hx hb dL_sum_4 rfl (lv_at hl 2 rfl) ?_
  refine tw_callX F hH (tw_runVX (r := 0) (As := [.int x1, .int x2]) (rest := [.int (0 : Int32), .ref a3]) F hH (c_X11_sum l G hst ad w H.size x1 z1 e1 x2 z2 e2 hw_0 hw_14) (tw_gl kw_1330 rfl) km_X11_sum kv_X11_sum rfl rfl ⟨(Nat.le_of_ble_eq_true rfl), (Nat.le_of_ble_eq_true rfl)⟩ (by decide) hw_0 rfl rfl hl.1 rfl (Nat.le_of_ble_eq_true rfl) dL_sum_5 ⟨(Nat.le_of_ble_eq_true rfl), (Nat.le_of_ble_eq_true rfl)⟩) (fun ce q9 w1 H locs hp hH hc1 hc2 hc3 => ?_) (fun r w1 H locs hp hH => hp.elim)
  subst hp
  refine vx_catch (E := tw_nse) (name := "java/util/NoSuchElementException") hown [] _ [] htab (fun z h => nomatch h) (by decide) (by decide) (hts _ (tw_gl kw_1255 rfl)) (va_Nw.use rfl F.2.1.2.1.2.2.1) hc1 hc2 hc3 ?_
  refine lv_astore (lv' := [(4, .ref q9), (0, .ref (ad 0)), (1, .int x1), (2, .int x2), (3, .ref a3)]) hx hb dL_sum_13 hl (by decide) rfl (fun ls hl => ?_)
  refine lv_iconst (v := 1) hx hb dL_sum_15 (by decide) ?_
  exact tw_iret F hH hret hlk rfl (Nat.le_of_ble_eq_true rfl) (Nat.le_of_ble_eq_true rfl) dL_sum_16 ⟨rfl, trivial, rfl⟩
set_option maxHeartbeats 4000000 in
set_option maxRecDepth 100000 in
theorem c_X11_within (l : Launch) (G : tw_G) (ad : Nat → Nat) (w : Nat → va_E) (sz : Nat) (x1 : Int32) (z1 : Int) (e1 : x1.toInt = z1) (x2 : Int32) (z2 : Int) (e2 : x2.toInt = z2) (hw_0 : w 0 = .inr (11, [.ref (ad 4), .ref (ad 14), .ref (ad 156), .ref (ad 221), .ref (ad 225), .ref (ad 233), .ref (ad 236), .int (0 : Int32), .ref (ad 237), .int (0 : Int32), .ref (ad 238)])) (hw_14 : w 14 = .inr (2, [.ref (ad 4), .ref (ad 1), .ref (ad 15), .ref (ad 16), .ref (ad 17), .int (0 : Int32), .int (0 : Int32), .int (0 : Int32)])) : Met l yX11_within (tw_ws yX11_within cX11_within 3 (some .int)) ({ frames := 2, cells := 0, slots := 0, locals := 42 }) (tw_Pre G 244 ad w sz [.ref (ad 0), .int x1, .int x2]) (tw_Qi G 244 ad (fun r w1 => ((-1 : Int32) = r ∧ ((((z1 < 0)) ∨ ((¬ (z1 < 0)) ∧ (0 ≤ z1)))))) sz) 0 0 (tw_A 244 ad sz) := by
  refine tw_met (by decide) (Nat.le_of_ble_eq_true rfl) ?_
  intro p e s m args below meth c F hret hlk hin hargs hsz hH ls hl
  have hx := F.1.1
  have hb := F.1.2.1
  have hown := F.1.2.2.2.1
  have hts := F.1.2.2.2.2
  have hl : lv_has ls 3 [(0, .ref (ad 0)), (1, .int x1), (2, .int x2)] := hl
  generalize hH0 : s.heap = H at hH ⊢
  refine lv_aload_n hx hb dX11_within_0 rfl (lv_at hl 0 rfl) ?_
  refine tw_get (r := 0) F hH kf_RX11_24 rfl (by decide) hw_0 rfl dX11_within_1 ?_
  refine lv_iload_n hx hb dX11_within_4 rfl (lv_at hl 1 rfl) ?_
  refine tw_calli F hH (tw_runV (r := 14) (As := [.int x1]) (rest := []) F hH (c_X2_has l G ad w H.size x1 (z1) e1 hw_14) (tw_gl kw_619 rfl) km_X2_has kv_X2_has rfl rfl ⟨(Nat.le_of_ble_eq_true rfl), (Nat.le_of_ble_eq_true rfl)⟩ (by decide) hw_14 rfl rfl hl.1 rfl (Nat.le_of_ble_eq_true rfl) dX11_within_5 ⟨(Nat.le_of_ble_eq_true rfl), (Nat.le_of_ble_eq_true rfl)⟩) (fun r3 w1 H locs hp2 _ hH => ?_)
  obtain ⟨rfl, hc4, rfl⟩ := hp2
  refine lv_if_eq (tgt := 18) hx hb dX11_within_8 (by decide) (fun _ => ?_) (fun c => absurd c (by decide))
  refine lv_iconst (v := -1) hx hb dX11_within_18 (by decide) ?_
  exact tw_iret F hH hret hlk rfl (Nat.le_of_ble_eq_true rfl) (Nat.le_of_ble_eq_true rfl) dX11_within_19 (⟨rfl, (by omega)⟩)
set_option maxHeartbeats 4000000 in
set_option maxRecDepth 100000 in
theorem c_X5_reckonFor (l : Launch) (G : tw_G) (ad : Nat → Nat) (w : Nat → va_E) (sz : Nat) (x1 : Int32) (z1 : Int) (e1 : x1.toInt = z1) (hw_221 : w 221 = .inr (5, [.ref (ad 14), .ref (ad 156), .ref (ad 222), .ref (ad 223), .ref (ad 224)])) (hw_14 : w 14 = .inr (2, [.ref (ad 4), .ref (ad 1), .ref (ad 15), .ref (ad 16), .ref (ad 17), .int (0 : Int32), .int (0 : Int32), .int (1 : Int32)])) : Met l yX5_reckonFor (tw_ws yX5_reckonFor cX5_reckonFor 5 none) ({ frames := 0, cells := 0, slots := 0, locals := 0 }) (tw_Pre G 244 ad w sz [.ref (ad 221), .int x1]) (tw_Qv G 244 ad (fun w1 => (True ∧ w = w1)) sz) 0 0 (tw_A 244 ad sz) := by
  refine tw_met (by decide) (Nat.le_of_ble_eq_true rfl) ?_
  intro p e s m args below meth c F hret hlk hin hargs hsz hH ls hl
  have hx := F.1.1
  have hb := F.1.2.1
  have hown := F.1.2.2.2.1
  have hts := F.1.2.2.2.2
  have hl : lv_has ls 5 [(0, .ref (ad 221)), (1, .int x1)] := hl
  generalize hH0 : s.heap = H at hH ⊢
  refine lv_iconst (v := 0) hx hb dX5_reckonFor_0 (by decide) ?_
  refine lv_istore_n (lv' := [(2, .int (0 : Int32)), (0, .ref (ad 221)), (1, .int x1)]) hx hb dX5_reckonFor_1 rfl hl (by decide) rfl (fun ls hl => ?_)
  refine lv_iload_n hx hb dX5_reckonFor_2 rfl (lv_at hl 0 rfl) ?_
  refine lv_aload_n hx hb dX5_reckonFor_3 rfl (lv_at hl 1 rfl) ?_
  refine tw_get (r := 221) F hH kf_RX5_9 rfl (by decide) hw_221 rfl dX5_reckonFor_4 ?_
  refine tw_get (r := 14) F hH kf_RX5_30 rfl (by decide) hw_14 rfl dX5_reckonFor_7 ?_
  refine lv_icmp_ge (tgt := 137) hx hb dX5_reckonFor_10 (by decide) (fun _ => ?_) (fun c => absurd c (by decide))
  exact tw_vret F hH hret hlk (Nat.le_of_ble_eq_true rfl) (Nat.le_of_ble_eq_true rfl) dX5_reckonFor_137 (⟨trivial, rfl⟩)
set_option maxHeartbeats 4000000 in
set_option maxRecDepth 100000 in
theorem c_X11_result (l : Launch) (G : tw_G) (ad : Nat → Nat) (w : Nat → va_E) (sz : Nat) (x1 : Int32) (z1 : Int) (e1 : x1.toInt = z1) (hw_0 : w 0 = .inr (11, [.ref (ad 4), .ref (ad 14), .ref (ad 156), .ref (ad 221), .ref (ad 225), .ref (ad 233), .ref (ad 236), .int (0 : Int32), .ref (ad 237), .int (0 : Int32), .ref (ad 238)])) (hw_14 : w 14 = .inr (2, [.ref (ad 4), .ref (ad 1), .ref (ad 15), .ref (ad 16), .ref (ad 17), .int (0 : Int32), .int (0 : Int32), .int (0 : Int32)])) (hw_17 : w 17 = .inl (G.2.1 0, 4, .inl (fun _ => 0))) (hw_221 : w 221 = .inr (5, [.ref (ad 14), .ref (ad 156), .ref (ad 222), .ref (ad 223), .ref (ad 224)])) : Met l yX11_result (tw_ws yX11_result cX11_result 5 (some .int)) ({ frames := 4, cells := 0, slots := 0, locals := 84 }) (tw_Pre G 244 ad w sz [.ref (ad 0), .int x1]) (tw_Qi G 244 ad (fun r w1 => ((-1 : Int32) = r ∧ ((((z1 < 0)) ∨ ((¬ (z1 < 0)) ∧ (99 < z1))))) ∨ ((0 : Int32) = r ∧ ((((¬ (z1 < 0)) ∧ (¬ (99 < z1)))) ∧ (((((((-1) < 0)) ∨ ((¬ ((-1) < 0)) ∧ (0 ≤ (-1)))))))))) sz) 0 0 (tw_A 244 ad sz) := by
  refine tw_met (by decide) (Nat.le_of_ble_eq_true rfl) ?_
  intro p e s m args below meth c F hret hlk hin hargs hsz hH ls hl
  have hx := F.1.1
  have hb := F.1.2.1
  have hown := F.1.2.2.2.1
  have hts := F.1.2.2.2.2
  have hl : lv_has ls 5 [(0, .ref (ad 0)), (1, .int x1)] := hl
  generalize hH0 : s.heap = H at hH ⊢
  refine lv_iload_n hx hb dX11_result_0 rfl (lv_at hl 1 rfl) ?_
  refine tw_calli F hH (tw_runS (As := [.int x1]) (rest := []) F hH (c_X11_isDay l G 244 ad w H.size x1 (z1) e1) (tw_gl kw_1055 rfl) km_X11_isDay (tw_gl kw_1056 rfl) rfl rfl ⟨(Nat.le_of_ble_eq_true rfl), (Nat.le_of_ble_eq_true rfl)⟩ rfl hl.1 rfl (Nat.le_of_ble_eq_true rfl) dX11_result_1 ⟨(Nat.le_of_ble_eq_true rfl), (Nat.le_of_ble_eq_true rfl)⟩) (fun r3 w1 H locs hp2 _ hH => ?_)
  rcases hp2 with ⟨rfl, hc4, rfl⟩ | ⟨rfl, hc5, rfl⟩
  · skip
    refine lv_if_ne (tgt := 9) hx hb dX11_result_4 (by decide) (fun c => absurd c (by decide)) (fun _ => ?_)
    refine lv_iconst (v := -1) hx hb dX11_result_7 (by decide) ?_
    exact tw_iret F hH hret hlk rfl (Nat.le_of_ble_eq_true rfl) (Nat.le_of_ble_eq_true rfl) dX11_result_8 (Or.inl (⟨rfl, (by omega)⟩))
  · skip
    refine lv_if_ne (tgt := 9) hx hb dX11_result_4 (by decide) (fun _ => ?_) (fun c => absurd c (by decide))
    refine lv_aload_n hx hb dX11_result_9 rfl (lv_at hl 0 rfl) ?_
    refine tw_get (r := 0) F hH kf_RX11_24 rfl (by decide) hw_0 rfl dX11_result_10 ?_
    refine tw_callv F hH (tw_runV (r := 14) (As := []) (rest := []) F hH (c_X2_reckon l G ad w H.size hw_14 hw_17) (tw_gl kw_857 rfl) km_X2_reckon kv_X2_reckon rfl rfl ⟨(Nat.le_of_ble_eq_true rfl), (Nat.le_of_ble_eq_true rfl)⟩ (by decide) hw_14 rfl rfl hl.1 rfl (Nat.le_of_ble_eq_true rfl) dX11_result_13 ⟨(Nat.le_of_ble_eq_true rfl), (Nat.le_of_ble_eq_true rfl)⟩) (fun w8 H locs hp9 _ hH => ?_)
    obtain ⟨hc10, hw11, hw12, hfr13⟩ := hp9
    refine lv_aload_n hx hb dX11_result_16 rfl (lv_at hl 0 rfl) ?_
    have hw14 : w8 0 = .inr (11, [.ref (ad 4), .ref (ad 14), .ref (ad 156), .ref (ad 221), .ref (ad 225), .ref (ad 233), .ref (ad 236), .int (0 : Int32), .ref (ad 237), .int (0 : Int32), .ref (ad 238)]) := (hfr13 0 (by omega) (by omega)).trans (hw_0)
    refine tw_get (r := 0) F hH kf_RX11_42 rfl (by decide) hw14 rfl dX11_result_17 ?_
    refine lv_iload_n hx hb dX11_result_20 rfl (lv_at hl 1 rfl) ?_
    have hw15 : w8 221 = .inr (5, [.ref (ad 14), .ref (ad 156), .ref (ad 222), .ref (ad 223), .ref (ad 224)]) := (hfr13 221 (by omega) (by omega)).trans (hw_221)
    refine tw_callv F hH (tw_runV (r := 221) (As := [.int x1]) (rest := []) F hH (c_X5_reckonFor l G ad w8 H.size x1 (z1) e1 hw15 hw11) (tw_gl kw_1101 rfl) km_X5_reckonFor kv_X5_reckonFor rfl rfl ⟨(Nat.le_of_ble_eq_true rfl), (Nat.le_of_ble_eq_true rfl)⟩ (by decide) hw15 rfl rfl hl.1 rfl (Nat.le_of_ble_eq_true rfl) dX11_result_21 ⟨(Nat.le_of_ble_eq_true rfl), (Nat.le_of_ble_eq_true rfl)⟩) (fun w16 H locs hp17 _ hH => ?_)
    obtain ⟨-, rfl⟩ := hp17
    refine lv_iconst (v := 0) hx hb dX11_result_24 (by decide) ?_
    refine lv_istore_n (lv' := [(2, .int (0 : Int32)), (0, .ref (ad 0)), (1, .int x1)]) hx hb dX11_result_25 rfl hl (by decide) rfl (fun ls hl => ?_)
    refine lv_iconst (v := 0) hx hb dX11_result_26 (by decide) ?_
    refine lv_istore_n (lv' := [(3, .int (0 : Int32)), (2, .int (0 : Int32)), (0, .ref (ad 0)), (1, .int x1)]) hx hb dX11_result_27 rfl hl (by decide) rfl (fun ls hl => ?_)
    refine lv_iload_n hx hb dX11_result_28 rfl (lv_at hl 0 rfl) ?_
    refine lv_aload_n hx hb dX11_result_29 rfl (lv_at hl 2 rfl) ?_
    refine tw_get (r := 0) F hH kf_RX11_24 rfl (by decide) hw14 rfl dX11_result_30 ?_
    refine tw_get (r := 14) F hH kf_RX11_80 rfl (by decide) hw11 rfl dX11_result_33 ?_
    refine lv_icmp_ge (tgt := 83) hx hb dX11_result_36 (by decide) (fun _ => ?_) (fun c => absurd c (by decide))
    refine lv_aload_n hx hb dX11_result_83 rfl (lv_at hl 2 rfl) ?_
    refine lv_iload_n hx hb dX11_result_84 rfl (lv_at hl 1 rfl) ?_
    refine tw_put (r := 0) F hH kf_RX11_215 kp_X11_9 rfl (by decide) hw14 (Nat.le_of_ble_eq_true rfl) rfl rfl dX11_result_85 (fun H locs w20 hw21 hne22 hH => ?_)
    have hw21 : w20 0 = .inr (11, [.ref (ad 4), .ref (ad 14), .ref (ad 156), .ref (ad 221), .ref (ad 225), .ref (ad 233), .ref (ad 236), .int (0 : Int32), .ref (ad 237), .int (0 : Int32), .ref (ad 238)]) := hw21
    refine lv_iload_n hx hb dX11_result_88 rfl (lv_at hl 1 rfl) ?_
    exact tw_iret F hH hret hlk rfl (Nat.le_of_ble_eq_true rfl) (Nat.le_of_ble_eq_true rfl) dX11_result_89 (Or.inr (⟨rfl, (by omega)⟩))
set_option maxHeartbeats 4000000 in
set_option maxRecDepth 100000 in
theorem c_X11_move (l : Launch) (G : tw_G) (ad : Nat → Nat) (w : Nat → va_E) (sz : Nat) (x1 : Int32) (z1 : Int) (e1 : x1.toInt = z1) (x2 : Int32) (z2 : Int) (e2 : x2.toInt = z2) (x3 : Int32) (z3 : Int) (e3 : x3.toInt = z3) (x4 : Int32) (z4 : Int) (e4 : x4.toInt = z4) (hw_0 : w 0 = .inr (11, [.ref (ad 4), .ref (ad 14), .ref (ad 156), .ref (ad 221), .ref (ad 225), .ref (ad 233), .ref (ad 236), .int (0 : Int32), .ref (ad 237), .int (0 : Int32), .ref (ad 238)])) (hw_14 : w 14 = .inr (2, [.ref (ad 4), .ref (ad 1), .ref (ad 15), .ref (ad 16), .ref (ad 17), .int (0 : Int32), .int (0 : Int32), .int (0 : Int32)])) : Met l yX11_move (tw_ws yX11_move cX11_move 8 (some .int)) ({ frames := 2, cells := 0, slots := 0, locals := 42 }) (tw_Pre G 244 ad w sz [.ref (ad 0), .int x1, .int x2, .int x3, .int x4]) (tw_Qi G 244 ad (fun r w1 => ((-1 : Int32) = r ∧ ((((z1 < 0)) ∨ ((¬ (z1 < 0)) ∧ (0 ≤ z1)))))) sz) 0 0 (tw_A 244 ad sz) := by
  refine tw_met (by decide) (Nat.le_of_ble_eq_true rfl) ?_
  intro p e s m args below meth c F hret hlk hin hargs hsz hH ls hl
  have hx := F.1.1
  have hb := F.1.2.1
  have hown := F.1.2.2.2.1
  have hts := F.1.2.2.2.2
  have hl : lv_has ls 8 [(0, .ref (ad 0)), (1, .int x1), (2, .int x2), (3, .int x3), (4, .int x4)] := hl
  generalize hH0 : s.heap = H at hH ⊢
  refine lv_aload_n hx hb dX11_move_0 rfl (lv_at hl 0 rfl) ?_
  refine tw_get (r := 0) F hH kf_RX11_24 rfl (by decide) hw_0 rfl dX11_move_1 ?_
  refine lv_iload_n hx hb dX11_move_4 rfl (lv_at hl 1 rfl) ?_
  refine tw_calli F hH (tw_runV (r := 14) (As := [.int x1]) (rest := []) F hH (c_X2_has l G ad w H.size x1 (z1) e1 hw_14) (tw_gl kw_619 rfl) km_X2_has kv_X2_has rfl rfl ⟨(Nat.le_of_ble_eq_true rfl), (Nat.le_of_ble_eq_true rfl)⟩ (by decide) hw_14 rfl rfl hl.1 rfl (Nat.le_of_ble_eq_true rfl) dX11_move_5 ⟨(Nat.le_of_ble_eq_true rfl), (Nat.le_of_ble_eq_true rfl)⟩) (fun r3 w1 H locs hp2 _ hH => ?_)
  obtain ⟨rfl, hc4, rfl⟩ := hp2
  refine lv_if_eq (tgt := 33) hx hb dX11_move_8 (by decide) (fun _ => ?_) (fun c => absurd c (by decide))
  refine lv_iconst (v := -1) hx hb dX11_move_33 (by decide) ?_
  exact tw_iret F hH hret hlk rfl (Nat.le_of_ble_eq_true rfl) (Nat.le_of_ble_eq_true rfl) dX11_move_34 (⟨rfl, (by omega)⟩)
set_option maxHeartbeats 4000000 in
set_option maxRecDepth 100000 in
theorem c_X11_best (l : Launch) (G : tw_G) (ad : Nat → Nat) (w : Nat → va_E) (sz : Nat) (x1 : Int32) (z1 : Int) (e1 : x1.toInt = z1) (x2 : Int32) (z2 : Int) (e2 : x2.toInt = z2) (x3 : Int32) (z3 : Int) (e3 : x3.toInt = z3) (hw_0 : w 0 = .inr (11, [.ref (ad 4), .ref (ad 14), .ref (ad 156), .ref (ad 221), .ref (ad 225), .ref (ad 233), .ref (ad 236), .int (0 : Int32), .ref (ad 237), .int (0 : Int32), .ref (ad 238)])) (hw_14 : w 14 = .inr (2, [.ref (ad 4), .ref (ad 1), .ref (ad 15), .ref (ad 16), .ref (ad 17), .int (0 : Int32), .int (0 : Int32), .int (0 : Int32)])) : Met l yX11_best (tw_ws yX11_best cX11_best 5 (some .int)) ({ frames := 2, cells := 0, slots := 0, locals := 42 }) (tw_Pre G 244 ad w sz [.ref (ad 0), .int x1, .int x2, .int x3]) (tw_Qi G 244 ad (fun r w1 => ((-1 : Int32) = r ∧ ((((z1 < 0)) ∨ ((¬ (z1 < 0)) ∧ (0 ≤ z1)))))) sz) 0 0 (tw_A 244 ad sz) := by
  refine tw_met (by decide) (Nat.le_of_ble_eq_true rfl) ?_
  intro p e s m args below meth c F hret hlk hin hargs hsz hH ls hl
  have hx := F.1.1
  have hb := F.1.2.1
  have hown := F.1.2.2.2.1
  have hts := F.1.2.2.2.2
  have hl : lv_has ls 5 [(0, .ref (ad 0)), (1, .int x1), (2, .int x2), (3, .int x3)] := hl
  generalize hH0 : s.heap = H at hH ⊢
  refine lv_aload_n hx hb dX11_best_0 rfl (lv_at hl 0 rfl) ?_
  refine tw_get (r := 0) F hH kf_RX11_24 rfl (by decide) hw_0 rfl dX11_best_1 ?_
  refine lv_iload_n hx hb dX11_best_4 rfl (lv_at hl 1 rfl) ?_
  refine tw_calli F hH (tw_runV (r := 14) (As := [.int x1]) (rest := []) F hH (c_X2_has l G ad w H.size x1 (z1) e1 hw_14) (tw_gl kw_619 rfl) km_X2_has kv_X2_has rfl rfl ⟨(Nat.le_of_ble_eq_true rfl), (Nat.le_of_ble_eq_true rfl)⟩ (by decide) hw_14 rfl rfl hl.1 rfl (Nat.le_of_ble_eq_true rfl) dX11_best_5 ⟨(Nat.le_of_ble_eq_true rfl), (Nat.le_of_ble_eq_true rfl)⟩) (fun r3 w1 H locs hp2 _ hH => ?_)
  obtain ⟨rfl, hc4, rfl⟩ := hp2
  refine lv_if_eq (tgt := 27) hx hb dX11_best_8 (by decide) (fun _ => ?_) (fun c => absurd c (by decide))
  refine lv_iconst (v := -1) hx hb dX11_best_27 (by decide) ?_
  exact tw_iret F hH hret hlk rfl (Nat.le_of_ble_eq_true rfl) (Nat.le_of_ble_eq_true rfl) dX11_best_28 (⟨rfl, (by omega)⟩)
set_option maxHeartbeats 4000000 in
set_option maxRecDepth 100000 in
theorem c_X11_gain (l : Launch) (G : tw_G) (ad : Nat → Nat) (w : Nat → va_E) (sz : Nat) (x1 : Int32) (z1 : Int) (e1 : x1.toInt = z1) (x2 : Int32) (z2 : Int) (e2 : x2.toInt = z2) (x3 : Int32) (z3 : Int) (e3 : x3.toInt = z3) (hw_0 : w 0 = .inr (11, [.ref (ad 4), .ref (ad 14), .ref (ad 156), .ref (ad 221), .ref (ad 225), .ref (ad 233), .ref (ad 236), .int (0 : Int32), .ref (ad 237), .int (0 : Int32), .ref (ad 238)])) (hw_14 : w 14 = .inr (2, [.ref (ad 4), .ref (ad 1), .ref (ad 15), .ref (ad 16), .ref (ad 17), .int (0 : Int32), .int (0 : Int32), .int (0 : Int32)])) : Met l yX11_gain (tw_ws yX11_gain cX11_gain 7 (some .int)) ({ frames := 2, cells := 0, slots := 0, locals := 42 }) (tw_Pre G 244 ad w sz [.ref (ad 0), .int x1, .int x2, .int x3]) (tw_Qi G 244 ad (fun r w1 => ((-1 : Int32) = r ∧ ((((z1 < 0)) ∨ ((¬ (z1 < 0)) ∧ (0 ≤ z1)))))) sz) 0 0 (tw_A 244 ad sz) := by
  refine tw_met (by decide) (Nat.le_of_ble_eq_true rfl) ?_
  intro p e s m args below meth c F hret hlk hin hargs hsz hH ls hl
  have hx := F.1.1
  have hb := F.1.2.1
  have hown := F.1.2.2.2.1
  have hts := F.1.2.2.2.2
  have hl : lv_has ls 7 [(0, .ref (ad 0)), (1, .int x1), (2, .int x2), (3, .int x3)] := hl
  generalize hH0 : s.heap = H at hH ⊢
  refine lv_aload_n hx hb dX11_gain_0 rfl (lv_at hl 0 rfl) ?_
  refine tw_get (r := 0) F hH kf_RX11_24 rfl (by decide) hw_0 rfl dX11_gain_1 ?_
  refine lv_iload_n hx hb dX11_gain_4 rfl (lv_at hl 1 rfl) ?_
  refine tw_calli F hH (tw_runV (r := 14) (As := [.int x1]) (rest := []) F hH (c_X2_has l G ad w H.size x1 (z1) e1 hw_14) (tw_gl kw_619 rfl) km_X2_has kv_X2_has rfl rfl ⟨(Nat.le_of_ble_eq_true rfl), (Nat.le_of_ble_eq_true rfl)⟩ (by decide) hw_14 rfl rfl hl.1 rfl (Nat.le_of_ble_eq_true rfl) dX11_gain_5 ⟨(Nat.le_of_ble_eq_true rfl), (Nat.le_of_ble_eq_true rfl)⟩) (fun r3 w1 H locs hp2 _ hH => ?_)
  obtain ⟨rfl, hc4, rfl⟩ := hp2
  refine lv_if_eq (tgt := 27) hx hb dX11_gain_8 (by decide) (fun _ => ?_) (fun c => absurd c (by decide))
  refine lv_iconst (v := -1) hx hb dX11_gain_27 (by decide) ?_
  exact tw_iret F hH hret hlk rfl (Nat.le_of_ble_eq_true rfl) (Nat.le_of_ble_eq_true rfl) dX11_gain_28 (⟨rfl, (by omega)⟩)
set_option maxHeartbeats 4000000 in
set_option maxRecDepth 100000 in
theorem c_X11_option (l : Launch) (G : tw_G) (ad : Nat → Nat) (w : Nat → va_E) (sz : Nat) (x1 : Int32) (z1 : Int) (e1 : x1.toInt = z1) (x2 : Int32) (z2 : Int) (e2 : x2.toInt = z2) (x3 : Int32) (z3 : Int) (e3 : x3.toInt = z3) (hw_0 : w 0 = .inr (11, [.ref (ad 4), .ref (ad 14), .ref (ad 156), .ref (ad 221), .ref (ad 225), .ref (ad 233), .ref (ad 236), .int (0 : Int32), .ref (ad 237), .int (0 : Int32), .ref (ad 238)])) (hw_14 : w 14 = .inr (2, [.ref (ad 4), .ref (ad 1), .ref (ad 15), .ref (ad 16), .ref (ad 17), .int (0 : Int32), .int (0 : Int32), .int (0 : Int32)])) : Met l yX11_option (tw_ws yX11_option cX11_option 4 (some .int)) ({ frames := 2, cells := 0, slots := 0, locals := 42 }) (tw_Pre G 244 ad w sz [.ref (ad 0), .int x1, .int x2, .int x3]) (tw_Qi G 244 ad (fun r w1 => ((-1 : Int32) = r ∧ ((((z1 < 0)) ∨ ((¬ (z1 < 0)) ∧ (0 ≤ z1)))))) sz) 0 0 (tw_A 244 ad sz) := by
  refine tw_met (by decide) (Nat.le_of_ble_eq_true rfl) ?_
  intro p e s m args below meth c F hret hlk hin hargs hsz hH ls hl
  have hx := F.1.1
  have hb := F.1.2.1
  have hown := F.1.2.2.2.1
  have hts := F.1.2.2.2.2
  have hl : lv_has ls 4 [(0, .ref (ad 0)), (1, .int x1), (2, .int x2), (3, .int x3)] := hl
  generalize hH0 : s.heap = H at hH ⊢
  refine lv_aload_n hx hb dX11_option_0 rfl (lv_at hl 0 rfl) ?_
  refine tw_get (r := 0) F hH kf_RX11_24 rfl (by decide) hw_0 rfl dX11_option_1 ?_
  refine lv_iload_n hx hb dX11_option_4 rfl (lv_at hl 1 rfl) ?_
  refine tw_calli F hH (tw_runV (r := 14) (As := [.int x1]) (rest := []) F hH (c_X2_has l G ad w H.size x1 (z1) e1 hw_14) (tw_gl kw_619 rfl) km_X2_has kv_X2_has rfl rfl ⟨(Nat.le_of_ble_eq_true rfl), (Nat.le_of_ble_eq_true rfl)⟩ (by decide) hw_14 rfl rfl hl.1 rfl (Nat.le_of_ble_eq_true rfl) dX11_option_5 ⟨(Nat.le_of_ble_eq_true rfl), (Nat.le_of_ble_eq_true rfl)⟩) (fun r3 w1 H locs hp2 _ hH => ?_)
  obtain ⟨rfl, hc4, rfl⟩ := hp2
  refine lv_if_eq (tgt := 37) hx hb dX11_option_8 (by decide) (fun _ => ?_) (fun c => absurd c (by decide))
  refine lv_iconst (v := -1) hx hb dX11_option_37 (by decide) ?_
  exact tw_iret F hH hret hlk rfl (Nat.le_of_ble_eq_true rfl) (Nat.le_of_ble_eq_true rfl) dX11_option_38 (⟨rfl, (by omega)⟩)
set_option maxHeartbeats 4000000 in
set_option maxRecDepth 100000 in
theorem c_X11_clear (l : Launch) (G : tw_G) (ad : Nat → Nat) (w : Nat → va_E) (sz : Nat) (hw_0 : w 0 = .inr (11, [.ref (ad 4), .ref (ad 14), .ref (ad 156), .ref (ad 221), .ref (ad 225), .ref (ad 233), .ref (ad 236), .int (0 : Int32), .ref (ad 237), .int (0 : Int32), .ref (ad 238)])) (hw_14 : w 14 = .inr (2, [.ref (ad 4), .ref (ad 1), .ref (ad 15), .ref (ad 16), .ref (ad 17), .int (0 : Int32), .int (0 : Int32), .int (0 : Int32)])) : Met l yX11_clear (tw_ws yX11_clear cX11_clear 3 (some .int)) ({ frames := 1, cells := 0, slots := 0, locals := 22 }) (tw_Pre G 244 ad w sz [.ref (ad 0)]) (tw_Qi G 244 ad (fun r w1 => ((0 : Int32) = r ∧ True)) sz) 0 0 (tw_A 244 ad sz) := by
  refine tw_met (by decide) (Nat.le_of_ble_eq_true rfl) ?_
  intro p e s m args below meth c F hret hlk hin hargs hsz hH ls hl
  have hx := F.1.1
  have hb := F.1.2.1
  have hown := F.1.2.2.2.1
  have hts := F.1.2.2.2.2
  have hl : lv_has ls 3 [(0, .ref (ad 0))] := hl
  generalize hH0 : s.heap = H at hH ⊢
  refine lv_aload_n hx hb dX11_clear_0 rfl (lv_at hl 0 rfl) ?_
  refine tw_get (r := 0) F hH kf_RX11_24 rfl (by decide) hw_0 rfl dX11_clear_1 ?_
  refine tw_calli F hH (tw_runV (r := 14) (As := []) (rest := []) F hH (c_X2_optionCount l G ad w H.size hw_14) (tw_gl kw_844 rfl) km_X2_optionCount kv_X2_optionCount rfl rfl ⟨(Nat.le_of_ble_eq_true rfl), (Nat.le_of_ble_eq_true rfl)⟩ (by decide) hw_14 rfl rfl hl.1 rfl (Nat.le_of_ble_eq_true rfl) dX11_clear_4 ⟨(Nat.le_of_ble_eq_true rfl), (Nat.le_of_ble_eq_true rfl)⟩) (fun r3 w1 H locs hp2 _ hH => ?_)
  obtain ⟨rfl, -, rfl⟩ := hp2
  refine lv_istore_n (lv' := [(1, .int (0 : Int32)), (0, .ref (ad 0))]) hx hb dX11_clear_7 rfl hl (by decide) rfl (fun ls hl => ?_)
  refine lv_iconst (v := 0) hx hb dX11_clear_8 (by decide) ?_
  refine lv_istore_n (lv' := [(2, .int (0 : Int32)), (1, .int (0 : Int32)), (0, .ref (ad 0))]) hx hb dX11_clear_9 rfl hl (by decide) rfl (fun ls hl => ?_)
  refine lv_iload_n hx hb dX11_clear_10 rfl (lv_at hl 0 rfl) ?_
  refine lv_aload_n hx hb dX11_clear_11 rfl (lv_at hl 2 rfl) ?_
  refine tw_get (r := 0) F hH kf_RX11_24 rfl (by decide) hw_0 rfl dX11_clear_12 ?_
  refine tw_get (r := 14) F hH kf_RX11_80 rfl (by decide) hw_14 rfl dX11_clear_15 ?_
  refine lv_icmp_ge (tgt := 49) hx hb dX11_clear_18 (by decide) (fun _ => ?_) (fun c => absurd c (by decide))
  refine lv_iload_n hx hb dX11_clear_49 rfl (lv_at hl 1 rfl) ?_
  exact tw_iret F hH hret hlk rfl (Nat.le_of_ble_eq_true rfl) (Nat.le_of_ble_eq_true rfl) dX11_clear_50 (⟨rfl, trivial⟩)
set_option maxHeartbeats 4000000 in
set_option maxRecDepth 100000 in
theorem c_X11_settle (l : Launch) (G : tw_G) (ad : Nat → Nat) (w : Nat → va_E) (sz : Nat) (x1 : Int32) (z1 : Int) (e1 : x1.toInt = z1) (x2 : Int32) (z2 : Int) (e2 : x2.toInt = z2) (x3 : Int32) (z3 : Int) (e3 : x3.toInt = z3) (hw_0 : w 0 = .inr (11, [.ref (ad 4), .ref (ad 14), .ref (ad 156), .ref (ad 221), .ref (ad 225), .ref (ad 233), .ref (ad 236), .int (0 : Int32), .ref (ad 237), .int (0 : Int32), .ref (ad 238)])) (hw_14 : w 14 = .inr (2, [.ref (ad 4), .ref (ad 1), .ref (ad 15), .ref (ad 16), .ref (ad 17), .int (0 : Int32), .int (0 : Int32), .int (0 : Int32)])) : Met l yX11_settle (tw_ws yX11_settle cX11_settle 4 (some .int)) ({ frames := 2, cells := 0, slots := 0, locals := 42 }) (tw_Pre G 244 ad w sz [.ref (ad 0), .int x1, .int x2, .int x3]) (tw_Qi G 244 ad (fun r w1 => ((-1 : Int32) = r ∧ ((((z1 < 0)) ∨ ((¬ (z1 < 0)) ∧ (0 ≤ z1)))))) sz) 0 0 (tw_A 244 ad sz) := by
  refine tw_met (by decide) (Nat.le_of_ble_eq_true rfl) ?_
  intro p e s m args below meth c F hret hlk hin hargs hsz hH ls hl
  have hx := F.1.1
  have hb := F.1.2.1
  have hown := F.1.2.2.2.1
  have hts := F.1.2.2.2.2
  have hl : lv_has ls 4 [(0, .ref (ad 0)), (1, .int x1), (2, .int x2), (3, .int x3)] := hl
  generalize hH0 : s.heap = H at hH ⊢
  refine lv_aload_n hx hb dX11_settle_0 rfl (lv_at hl 0 rfl) ?_
  refine tw_get (r := 0) F hH kf_RX11_24 rfl (by decide) hw_0 rfl dX11_settle_1 ?_
  refine lv_iload_n hx hb dX11_settle_4 rfl (lv_at hl 1 rfl) ?_
  refine tw_calli F hH (tw_runV (r := 14) (As := [.int x1]) (rest := []) F hH (c_X2_has l G ad w H.size x1 (z1) e1 hw_14) (tw_gl kw_619 rfl) km_X2_has kv_X2_has rfl rfl ⟨(Nat.le_of_ble_eq_true rfl), (Nat.le_of_ble_eq_true rfl)⟩ (by decide) hw_14 rfl rfl hl.1 rfl (Nat.le_of_ble_eq_true rfl) dX11_settle_5 ⟨(Nat.le_of_ble_eq_true rfl), (Nat.le_of_ble_eq_true rfl)⟩) (fun r3 w1 H locs hp2 _ hH => ?_)
  obtain ⟨rfl, hc4, rfl⟩ := hp2
  refine lv_if_eq (tgt := 34) hx hb dX11_settle_8 (by decide) (fun _ => ?_) (fun c => absurd c (by decide))
  refine lv_iconst (v := -1) hx hb dX11_settle_34 (by decide) ?_
  exact tw_iret F hH hret hlk rfl (Nat.le_of_ble_eq_true rfl) (Nat.le_of_ble_eq_true rfl) dX11_settle_35 (⟨rfl, (by omega)⟩)
set_option maxHeartbeats 4000000 in
set_option maxRecDepth 100000 in
theorem c_X11_lost (l : Launch) (G : tw_G) (ad : Nat → Nat) (w : Nat → va_E) (sz : Nat) (x1 : Int32) (z1 : Int) (e1 : x1.toInt = z1) (x2 : Int32) (z2 : Int) (e2 : x2.toInt = z2) (b2 : x2 = 0 ∨ x2 = 1) (hw_0 : w 0 = .inr (11, [.ref (ad 4), .ref (ad 14), .ref (ad 156), .ref (ad 221), .ref (ad 225), .ref (ad 233), .ref (ad 236), .int (0 : Int32), .ref (ad 237), .int (0 : Int32), .ref (ad 238)])) (hw_4 : w 4 = .inr (9, [.int (2 : Int32), .int (1 : Int32), .ref (ad 5), .ref (ad 6), .ref (ad 7), .ref (ad 8), .ref (ad 9), .ref (ad 10), .ref (ad 12)])) (hw_7 : w 7 = .inl (G.2.1 1, 5, .inl (upd (upd (upd (upd (upd (fun _ => 0) 0 (0 : Int32)) 1 (0 : Int32)) 2 (0 : Int32)) 3 (0 : Int32)) 4 (0 : Int32)))) : Met l yX11_lost (tw_ws yX11_lost cX11_lost 3 (some .boolean)) ({ frames := 2, cells := 0, slots := 0, locals := 42 }) (tw_Pre G 244 ad w sz [.ref (ad 0), .int x1, .int x2]) (tw_Qi G 244 ad (fun r w1 => ((0 : Int32) = r ∧ ((((((z1 < 0)) ∨ ((¬ (z1 < 0)) ∧ (2 ≤ z1))))) ∨ ((((¬ (z1 < 0)) ∧ (¬ (2 ≤ z1)))) ∧ (z1 = 1)))) ∨ ((1 : Int32) = r ∧ ((((¬ (z1 < 0)) ∧ (¬ (2 ≤ z1)))) ∧ (¬ (z1 = 1)) ∧ (z1 = 0)))) sz) 0 0 (tw_A 244 ad sz) := by
  refine tw_met (by decide) (Nat.le_of_ble_eq_true rfl) ?_
  intro p e s m args below meth c F hret hlk hin hargs hsz hH ls hl
  have hx := F.1.1
  have hb := F.1.2.1
  have hown := F.1.2.2.2.1
  have hts := F.1.2.2.2.2
  have hl : lv_has ls 3 [(0, .ref (ad 0)), (1, .int x1), (2, .int x2)] := hl
  generalize hH0 : s.heap = H at hH ⊢
  refine lv_aload_n hx hb dX11_lost_0 rfl (lv_at hl 0 rfl) ?_
  refine tw_get (r := 0) F hH kf_RX11_15 rfl (by decide) hw_0 rfl dX11_lost_1 ?_
  refine lv_iload_n hx hb dX11_lost_4 rfl (lv_at hl 1 rfl) ?_
  refine tw_calli F hH (tw_runV (r := 4) (As := [.int x1]) (rest := []) F hH (c_X9_hasSector l G ad w H.size x1 (z1) e1 hw_4) (tw_gl kw_557 rfl) km_X9_hasSector kv_X9_hasSector rfl rfl ⟨(Nat.le_of_ble_eq_true rfl), (Nat.le_of_ble_eq_true rfl)⟩ (by decide) hw_4 rfl rfl hl.1 rfl (Nat.le_of_ble_eq_true rfl) dX11_lost_5 ⟨(Nat.le_of_ble_eq_true rfl), (Nat.le_of_ble_eq_true rfl)⟩) (fun r3 w1 H locs hp2 _ hH => ?_)
  rcases hp2 with ⟨rfl, hc4, rfl⟩ | ⟨rfl, hc5, rfl⟩
  · skip
    refine lv_if_eq (tgt := 24) hx hb dX11_lost_8 (by decide) (fun _ => ?_) (fun c => absurd c (by decide))
    refine lv_iconst (v := 0) hx hb dX11_lost_24 (by decide) ?_
    exact tw_iret F hH hret hlk rfl (Nat.le_of_ble_eq_true rfl) (Nat.le_of_ble_eq_true rfl) dX11_lost_25 (Or.inl (⟨rfl, (Or.inl (by omega))⟩))
  · skip
    refine lv_if_eq (tgt := 24) hx hb dX11_lost_8 (by decide) (fun c => absurd c (by decide)) (fun _ => ?_)
    refine lv_iload_n hx hb dX11_lost_11 rfl (lv_at hl 1 rfl) ?_
    refine lv_aload_n hx hb dX11_lost_12 rfl (lv_at hl 0 rfl) ?_
    refine tw_get (r := 0) F hH kf_RX11_15 rfl (by decide) hw_0 rfl dX11_lost_13 ?_
    refine tw_get (r := 4) F hH kf_RX11_212 rfl (by decide) hw_4 rfl dX11_lost_16 ?_
    refine lv_iconst (v := 1) hx hb dX11_lost_19 (by decide) ?_
    refine lv_isub hx hb dX11_lost_20 ?_
    refine tw_cv (v := (1 : Int32)) (by decide) ?_
    refine lv_icmp_ne (tgt := 26) hx hb dX11_lost_21 (by decide) (fun c8 => ?_) (fun c8 => ?_)
    · have c8 := mt (tw_eq e1 (by decide : (1 : Int32).toInt = 1)).mpr c8
      refine lv_aload_n hx hb dX11_lost_26 rfl (lv_at hl 0 rfl) ?_
      refine tw_get (r := 0) F hH kf_RX11_15 rfl (by decide) hw_0 rfl dX11_lost_27 ?_
      refine tw_get (r := 4) F hH kf_RX11_320 rfl (by decide) hw_4 rfl dX11_lost_30 ?_
      refine lv_iload_n hx hb dX11_lost_33 rfl (lv_at hl 1 rfl) ?_
      refine lv_iload_n hx hb dX11_lost_34 rfl (lv_at hl 2 rfl) ?_
      have hz9 : z1 = 0 := by omega
      obtain rfl : (0 : Int32) = x1 := (Int32.toInt_inj.mp ((e1.trans hz9).trans (by decide : (0 : Int) = (0 : Int32).toInt))).symm
      refine tw_zast (r := 7) (j := 0) F hH rfl (by decide) hw_7 (by decide) (by decide) (by rcases b2 with h | h <;> rw [h] <;> rfl) dX11_lost_35 (fun H locs w10 hw11 hne12 hH => ?_)
      refine lv_iconst (v := 1) hx hb dX11_lost_36 (by decide) ?_
      exact tw_iret F hH hret hlk rfl (Nat.le_of_ble_eq_true rfl) (Nat.le_of_ble_eq_true rfl) dX11_lost_37 (Or.inr (⟨rfl, (by omega)⟩))
    · have c8 := (tw_eq e1 (by decide : (1 : Int32).toInt = 1)).mp c8
      refine lv_iconst (v := 0) hx hb dX11_lost_24 (by decide) ?_
      exact tw_iret F hH hret hlk rfl (Nat.le_of_ble_eq_true rfl) (Nat.le_of_ble_eq_true rfl) dX11_lost_25 (Or.inl (⟨rfl, (Or.inr (by omega))⟩))
set_option maxHeartbeats 4000000 in
set_option maxRecDepth 100000 in
theorem c_X11_known (l : Launch) (G : tw_G) (ad : Nat → Nat) (w : Nat → va_E) (sz : Nat) (x1 : Int32) (z1 : Int) (e1 : x1.toInt = z1) (x2 : Int32) (z2 : Int) (e2 : x2.toInt = z2) (x3 : Int32) (z3 : Int) (e3 : x3.toInt = z3) (x4 : Int32) (z4 : Int) (e4 : x4.toInt = z4) (hw_0 : w 0 = .inr (11, [.ref (ad 4), .ref (ad 14), .ref (ad 156), .ref (ad 221), .ref (ad 225), .ref (ad 233), .ref (ad 236), .int (0 : Int32), .ref (ad 237), .int (0 : Int32), .ref (ad 238)])) (hw_14 : w 14 = .inr (2, [.ref (ad 4), .ref (ad 1), .ref (ad 15), .ref (ad 16), .ref (ad 17), .int (0 : Int32), .int (0 : Int32), .int (0 : Int32)])) : Met l yX11_known (tw_ws yX11_known cX11_known 5 (some .int)) ({ frames := 2, cells := 0, slots := 0, locals := 42 }) (tw_Pre G 244 ad w sz [.ref (ad 0), .int x1, .int x2, .int x3, .int x4]) (tw_Qi G 244 ad (fun r w1 => ((-1 : Int32) = r ∧ ((((z1 < 0)) ∨ ((¬ (z1 < 0)) ∧ (0 ≤ z1)))))) sz) 0 0 (tw_A 244 ad sz) := by
  refine tw_met (by decide) (Nat.le_of_ble_eq_true rfl) ?_
  intro p e s m args below meth c F hret hlk hin hargs hsz hH ls hl
  have hx := F.1.1
  have hb := F.1.2.1
  have hown := F.1.2.2.2.1
  have hts := F.1.2.2.2.2
  have hl : lv_has ls 5 [(0, .ref (ad 0)), (1, .int x1), (2, .int x2), (3, .int x3), (4, .int x4)] := hl
  generalize hH0 : s.heap = H at hH ⊢
  refine lv_aload_n hx hb dX11_known_0 rfl (lv_at hl 0 rfl) ?_
  refine tw_get (r := 0) F hH kf_RX11_24 rfl (by decide) hw_0 rfl dX11_known_1 ?_
  refine lv_iload_n hx hb dX11_known_4 rfl (lv_at hl 1 rfl) ?_
  refine tw_calli F hH (tw_runV (r := 14) (As := [.int x1]) (rest := []) F hH (c_X2_has l G ad w H.size x1 (z1) e1 hw_14) (tw_gl kw_619 rfl) km_X2_has kv_X2_has rfl rfl ⟨(Nat.le_of_ble_eq_true rfl), (Nat.le_of_ble_eq_true rfl)⟩ (by decide) hw_14 rfl rfl hl.1 rfl (Nat.le_of_ble_eq_true rfl) dX11_known_5 ⟨(Nat.le_of_ble_eq_true rfl), (Nat.le_of_ble_eq_true rfl)⟩) (fun r3 w1 H locs hp2 _ hH => ?_)
  obtain ⟨rfl, hc4, rfl⟩ := hp2
  refine lv_if_eq (tgt := 33) hx hb dX11_known_8 (by decide) (fun _ => ?_) (fun c => absurd c (by decide))
  refine lv_iconst (v := -1) hx hb dX11_known_33 (by decide) ?_
  exact tw_iret F hH hret hlk rfl (Nat.le_of_ble_eq_true rfl) (Nat.le_of_ble_eq_true rfl) dX11_known_34 (⟨rfl, (by omega)⟩)
set_option maxHeartbeats 4000000 in
set_option maxRecDepth 100000 in
theorem c_X11_ahead (l : Launch) (G : tw_G) (ad : Nat → Nat) (w : Nat → va_E) (sz : Nat) (x1 : Int32) (z1 : Int) (e1 : x1.toInt = z1) (x2 : Int32) (z2 : Int) (e2 : x2.toInt = z2) (x3 : Int32) (z3 : Int) (e3 : x3.toInt = z3) (x4 : Int32) (z4 : Int) (e4 : x4.toInt = z4) (hw_0 : w 0 = .inr (11, [.ref (ad 4), .ref (ad 14), .ref (ad 156), .ref (ad 221), .ref (ad 225), .ref (ad 233), .ref (ad 236), .int (0 : Int32), .ref (ad 237), .int (0 : Int32), .ref (ad 238)])) (hw_14 : w 14 = .inr (2, [.ref (ad 4), .ref (ad 1), .ref (ad 15), .ref (ad 16), .ref (ad 17), .int (0 : Int32), .int (0 : Int32), .int (0 : Int32)])) : Met l yX11_ahead (tw_ws yX11_ahead cX11_ahead 8 (some .int)) ({ frames := 2, cells := 0, slots := 0, locals := 42 }) (tw_Pre G 244 ad w sz [.ref (ad 0), .int x1, .int x2, .int x3, .int x4]) (tw_Qi G 244 ad (fun r w1 => ((-1 : Int32) = r ∧ ((((z1 < 0)) ∨ ((¬ (z1 < 0)) ∧ (0 ≤ z1)))))) sz) 0 0 (tw_A 244 ad sz) := by
  refine tw_met (by decide) (Nat.le_of_ble_eq_true rfl) ?_
  intro p e s m args below meth c F hret hlk hin hargs hsz hH ls hl
  have hx := F.1.1
  have hb := F.1.2.1
  have hown := F.1.2.2.2.1
  have hts := F.1.2.2.2.2
  have hl : lv_has ls 8 [(0, .ref (ad 0)), (1, .int x1), (2, .int x2), (3, .int x3), (4, .int x4)] := hl
  generalize hH0 : s.heap = H at hH ⊢
  refine lv_aload_n hx hb dX11_ahead_0 rfl (lv_at hl 0 rfl) ?_
  refine tw_get (r := 0) F hH kf_RX11_24 rfl (by decide) hw_0 rfl dX11_ahead_1 ?_
  refine lv_iload_n hx hb dX11_ahead_4 rfl (lv_at hl 1 rfl) ?_
  refine tw_calli F hH (tw_runV (r := 14) (As := [.int x1]) (rest := []) F hH (c_X2_has l G ad w H.size x1 (z1) e1 hw_14) (tw_gl kw_619 rfl) km_X2_has kv_X2_has rfl rfl ⟨(Nat.le_of_ble_eq_true rfl), (Nat.le_of_ble_eq_true rfl)⟩ (by decide) hw_14 rfl rfl hl.1 rfl (Nat.le_of_ble_eq_true rfl) dX11_ahead_5 ⟨(Nat.le_of_ble_eq_true rfl), (Nat.le_of_ble_eq_true rfl)⟩) (fun r3 w1 H locs hp2 _ hH => ?_)
  obtain ⟨rfl, hc4, rfl⟩ := hp2
  refine lv_if_eq (tgt := 40) hx hb dX11_ahead_8 (by decide) (fun _ => ?_) (fun c => absurd c (by decide))
  refine lv_iconst (v := -1) hx hb dX11_ahead_40 (by decide) ?_
  exact tw_iret F hH hret hlk rfl (Nat.le_of_ble_eq_true rfl) (Nat.le_of_ble_eq_true rfl) dX11_ahead_41 (⟨rfl, (by omega)⟩)
set_option maxHeartbeats 4000000 in
set_option maxRecDepth 100000 in
theorem c_X11_wall (l : Launch) (G : tw_G) (ad : Nat → Nat) (w : Nat → va_E) (sz : Nat) (x1 : Int32) (z1 : Int) (e1 : x1.toInt = z1) (x2 : Int32) (z2 : Int) (e2 : x2.toInt = z2) (hw_0 : w 0 = .inr (11, [.ref (ad 4), .ref (ad 14), .ref (ad 156), .ref (ad 221), .ref (ad 225), .ref (ad 233), .ref (ad 236), .int (0 : Int32), .ref (ad 237), .int (0 : Int32), .ref (ad 238)])) (hw_14 : w 14 = .inr (2, [.ref (ad 4), .ref (ad 1), .ref (ad 15), .ref (ad 16), .ref (ad 17), .int (0 : Int32), .int (0 : Int32), .int (0 : Int32)])) : Met l yX11_wall (tw_ws yX11_wall cX11_wall 10 (some .int)) ({ frames := 2, cells := 0, slots := 0, locals := 42 }) (tw_Pre G 244 ad w sz [.ref (ad 0), .int x1, .int x2]) (tw_Qi G 244 ad (fun r w1 => ((-1 : Int32) = r ∧ ((((z1 < 0)) ∨ ((¬ (z1 < 0)) ∧ (0 ≤ z1)))))) sz) 0 0 (tw_A 244 ad sz) := by
  refine tw_met (by decide) (Nat.le_of_ble_eq_true rfl) ?_
  intro p e s m args below meth c F hret hlk hin hargs hsz hH ls hl
  have hx := F.1.1
  have hb := F.1.2.1
  have hown := F.1.2.2.2.1
  have hts := F.1.2.2.2.2
  have hl : lv_has ls 10 [(0, .ref (ad 0)), (1, .int x1), (2, .int x2)] := hl
  generalize hH0 : s.heap = H at hH ⊢
  refine lv_aload_n hx hb dX11_wall_0 rfl (lv_at hl 0 rfl) ?_
  refine tw_get (r := 0) F hH kf_RX11_24 rfl (by decide) hw_0 rfl dX11_wall_1 ?_
  refine lv_iload_n hx hb dX11_wall_4 rfl (lv_at hl 1 rfl) ?_
  refine tw_calli F hH (tw_runV (r := 14) (As := [.int x1]) (rest := []) F hH (c_X2_has l G ad w H.size x1 (z1) e1 hw_14) (tw_gl kw_619 rfl) km_X2_has kv_X2_has rfl rfl ⟨(Nat.le_of_ble_eq_true rfl), (Nat.le_of_ble_eq_true rfl)⟩ (by decide) hw_14 rfl rfl hl.1 rfl (Nat.le_of_ble_eq_true rfl) dX11_wall_5 ⟨(Nat.le_of_ble_eq_true rfl), (Nat.le_of_ble_eq_true rfl)⟩) (fun r3 w1 H locs hp2 _ hH => ?_)
  obtain ⟨rfl, hc4, rfl⟩ := hp2
  refine lv_if_eq (tgt := 15) hx hb dX11_wall_8 (by decide) (fun _ => ?_) (fun c => absurd c (by decide))
  refine lv_iconst (v := -1) hx hb dX11_wall_15 (by decide) ?_
  exact tw_iret F hH hret hlk rfl (Nat.le_of_ble_eq_true rfl) (Nat.le_of_ble_eq_true rfl) dX11_wall_16 (⟨rfl, (by omega)⟩)
set_option maxHeartbeats 4000000 in
set_option maxRecDepth 100000 in
theorem c_X11_why (l : Launch) (G : tw_G) (ad : Nat → Nat) (w : Nat → va_E) (sz : Nat) (x1 : Int32) (z1 : Int) (e1 : x1.toInt = z1) (x2 : Int32) (z2 : Int) (e2 : x2.toInt = z2) (hw_0 : w 0 = .inr (11, [.ref (ad 4), .ref (ad 14), .ref (ad 156), .ref (ad 221), .ref (ad 225), .ref (ad 233), .ref (ad 236), .int (0 : Int32), .ref (ad 237), .int (0 : Int32), .ref (ad 238)])) (hw_14 : w 14 = .inr (2, [.ref (ad 4), .ref (ad 1), .ref (ad 15), .ref (ad 16), .ref (ad 17), .int (0 : Int32), .int (0 : Int32), .int (0 : Int32)])) : Met l yX11_why (tw_ws yX11_why cX11_why 3 (some .int)) ({ frames := 2, cells := 0, slots := 0, locals := 42 }) (tw_Pre G 244 ad w sz [.ref (ad 0), .int x1, .int x2]) (tw_Qi G 244 ad (fun r w1 => ((-1 : Int32) = r ∧ ((((z1 < 0)) ∨ ((¬ (z1 < 0)) ∧ (0 ≤ z1)))))) sz) 0 0 (tw_A 244 ad sz) := by
  refine tw_met (by decide) (Nat.le_of_ble_eq_true rfl) ?_
  intro p e s m args below meth c F hret hlk hin hargs hsz hH ls hl
  have hx := F.1.1
  have hb := F.1.2.1
  have hown := F.1.2.2.2.1
  have hts := F.1.2.2.2.2
  have hl : lv_has ls 3 [(0, .ref (ad 0)), (1, .int x1), (2, .int x2)] := hl
  generalize hH0 : s.heap = H at hH ⊢
  refine lv_aload_n hx hb dX11_why_0 rfl (lv_at hl 0 rfl) ?_
  refine tw_get (r := 0) F hH kf_RX11_24 rfl (by decide) hw_0 rfl dX11_why_1 ?_
  refine lv_iload_n hx hb dX11_why_4 rfl (lv_at hl 1 rfl) ?_
  refine tw_calli F hH (tw_runV (r := 14) (As := [.int x1]) (rest := []) F hH (c_X2_has l G ad w H.size x1 (z1) e1 hw_14) (tw_gl kw_619 rfl) km_X2_has kv_X2_has rfl rfl ⟨(Nat.le_of_ble_eq_true rfl), (Nat.le_of_ble_eq_true rfl)⟩ (by decide) hw_14 rfl rfl hl.1 rfl (Nat.le_of_ble_eq_true rfl) dX11_why_5 ⟨(Nat.le_of_ble_eq_true rfl), (Nat.le_of_ble_eq_true rfl)⟩) (fun r3 w1 H locs hp2 _ hH => ?_)
  obtain ⟨rfl, hc4, rfl⟩ := hp2
  refine lv_if_eq (tgt := 25) hx hb dX11_why_8 (by decide) (fun _ => ?_) (fun c => absurd c (by decide))
  refine lv_iconst (v := -1) hx hb dX11_why_25 (by decide) ?_
  exact tw_iret F hH hret hlk rfl (Nat.le_of_ble_eq_true rfl) (Nat.le_of_ble_eq_true rfl) dX11_why_26 (⟨rfl, (by omega)⟩)
set_option maxHeartbeats 4000000 in
set_option maxRecDepth 100000 in
theorem c_X11_row (l : Launch) (G : tw_G) (hst : l.stackTraces = false) (ad : Nat → Nat) (w : Nat → va_E) (sz : Nat) (x1 : Int32) (z1 : Int) (e1 : x1.toInt = z1) (hw_0 : w 0 = .inr (11, [.ref (ad 4), .ref (ad 14), .ref (ad 156), .ref (ad 221), .ref (ad 225), .ref (ad 233), .ref (ad 236), .int (0 : Int32), .ref (ad 237), .int (0 : Int32), .ref (ad 238)])) : vx_Met l yX11_row (tw_ws yX11_row cX11_row 2 (some .int)) ({ frames := 6, cells := 1, slots := 6, locals := 81 }) (tw_Pre G 244 ad w sz [.ref (ad 0), .int x1]) (tw_Qi G 244 ad (fun _ _ => False) sz) (tw_X G 244 ad (fun w1 => w = w1) sz) 1 6 (tw_A 244 ad sz) := by
  refine tw_metX (by decide) (Nat.le_of_ble_eq_true rfl) ?_
  intro p e s m args below meth c F hret hlk hex hargs hsz hH ls hl
  have hx := F.1.1
  have hb := F.1.2.1
  have hown := F.1.2.2.2.1
  have hts := F.1.2.2.2.2
  have hl : lv_has ls 2 [(0, .ref (ad 0)), (1, .int x1)] := hl
  generalize hH0 : s.heap = H at hH ⊢
  refine lv_iload_n hx hb dX11_row_0 rfl (lv_at hl 1 rfl) ?_
  refine lv_aload_n hx hb dX11_row_1 rfl (lv_at hl 0 rfl) ?_
  refine tw_get (r := 0) F hH kf_RX11_215 rfl (by decide) hw_0 rfl dX11_row_2 ?_
  refine tw_calli F hH (tw_runS (As := [.int x1, .int (0 : Int32)]) (rest := []) F hH (c_X11_isIndex l G 244 ad w H.size x1 (z1) e1 (0 : Int32) 0 (by decide : (0 : Int32).toInt = 0)) (tw_gl kw_572 rfl) km_X11_isIndex (tw_gl kw_562 rfl) rfl rfl ⟨(Nat.le_of_ble_eq_true rfl), (Nat.le_of_ble_eq_true rfl)⟩ rfl hl.1 rfl (Nat.le_of_ble_eq_true rfl) dX11_row_5 ⟨(Nat.le_of_ble_eq_true rfl), (Nat.le_of_ble_eq_true rfl)⟩) (fun r3 w1 H locs hp2 _ hH => ?_)
  rcases hp2 with ⟨rfl, hc4, rfl⟩ | ⟨rfl, hc5, rfl⟩
  · skip
    refine lv_if_eq (tgt := 17) hx hb dX11_row_8 (by decide) (fun _ => ?_) (fun c => absurd c (by decide))
    exact tw_throw0 F hH hst hl.1 hex hlk ⟨(Nat.le_of_ble_eq_true rfl), (Nat.le_of_ble_eq_true rfl), (Nat.le_of_ble_eq_true rfl), (Nat.le_of_ble_eq_true rfl)⟩ (Nat.le_of_ble_eq_true rfl) (Nat.le_of_ble_eq_true rfl) dX11_row_17 dX11_row_20 dX11_row_21 dX11_row_24 rfl
  · exfalso; omega
set_option maxHeartbeats 4000000 in
set_option maxRecDepth 100000 in
theorem c_L_row (l : Launch) (G : tw_G) (hst : l.stackTraces = false) (ad : Nat → Nat) (w : Nat → va_E) (sz : Nat) (x1 : Int32) (z1 : Int) (e1 : x1.toInt = z1) (a2 : Nat) (hw_0 : w 0 = .inr (11, [.ref (ad 4), .ref (ad 14), .ref (ad 156), .ref (ad 221), .ref (ad 225), .ref (ad 233), .ref (ad 236), .int (0 : Int32), .ref (ad 237), .int (0 : Int32), .ref (ad 238)])) : Met l yL_row (tw_wsW yL_row cL_row 4 (some .int) [(0, 9, 12, 13)]) ({ frames := 7, cells := 1, slots := 6, locals := 102 }) (tw_Pre G 244 ad w sz [.ref (ad 0), .int x1, .ref a2]) (tw_Qi G 244 ad (fun r w1 => (1 : Int32) = r ∧ True ∧ w = w1) sz) 1 6 (tw_A 244 ad sz) := by
  refine tw_metW (by decide) (Nat.le_of_ble_eq_true rfl) ?_
  intro p e s m args below meth c F hret hlk htab hargs hsz hH ls hl
  have hx := F.1.1
  have hb := F.1.2.1
  have hown := F.1.2.2.2.1
  have hts := F.1.2.2.2.2
  have hl : lv_has ls 4 [(0, .ref (ad 0)), (1, .int x1), (2, .ref a2)] := hl
  generalize hH0 : s.heap = H at hH ⊢
  refine lv_aload_n hx hb dL_row_0 rfl (lv_at hl 2 rfl) ?_
  refine lv_iconst (v := 0) hx hb dL_row_1 (by decide) ?_
  refine lv_aload_n hx hb dL_row_2 rfl (lv_at hl 0 rfl) ?_
  refine lv_iload_n hx hb dL_row_3 rfl (lv_at hl 1 rfl) ?_
  refine tw_callX F hH (tw_runVX (r := 0) (As := [.int x1]) (rest := [.int (0 : Int32), .ref a2]) F hH (c_X11_row l G hst ad w H.size x1 z1 e1 hw_0) (tw_gl kw_1337 rfl) km_X11_row kv_X11_row rfl rfl ⟨(Nat.le_of_ble_eq_true rfl), (Nat.le_of_ble_eq_true rfl)⟩ (by decide) hw_0 rfl rfl hl.1 rfl (Nat.le_of_ble_eq_true rfl) dL_row_4 ⟨(Nat.le_of_ble_eq_true rfl), (Nat.le_of_ble_eq_true rfl)⟩) (fun ce q9 w1 H locs hp hH hc1 hc2 hc3 => ?_) (fun r w1 H locs hp hH => hp.elim)
  subst hp
  refine vx_catch (E := tw_nse) (name := "java/util/NoSuchElementException") hown [] _ [] htab (fun z h => nomatch h) (by decide) (by decide) (hts _ (tw_gl kw_1255 rfl)) (va_Nw.use rfl F.2.1.2.1.2.2.1) hc1 hc2 hc3 ?_
  refine lv_astore_n (lv' := [(3, .ref q9), (0, .ref (ad 0)), (1, .int x1), (2, .ref a2)]) hx hb dL_row_12 rfl hl (by decide) rfl (fun ls hl => ?_)
  refine lv_iconst (v := 1) hx hb dL_row_13 (by decide) ?_
  exact tw_iret F hH hret hlk rfl (Nat.le_of_ble_eq_true rfl) (Nat.le_of_ble_eq_true rfl) dL_row_14 ⟨rfl, trivial, rfl⟩
