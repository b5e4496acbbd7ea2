set_option maxHeartbeats 4000000 in
set_option maxRecDepth 100000 in
theorem c_X9_layAnew_v2 (l : Launch) (G : tw_G) (ad : Nat → Nat) (w : Nat → va_E) (sz : Nat) (x1 : Int32) (z1 : Int) (e1 : x1.toInt = z1) (x2 : Int32) (z2 : Int) (e2 : x2.toInt = z2) (hw_4 : w 4 = .inr (9, [.int (2 : Int32), .int (1 : Int32), .ref (ad 5), .ref (ad 6), .ref (ad 7), .ref (ad 8), .ref (ad 9), .ref (ad 10), .ref (ad 12)])) (hw_5 : w 5 = .inl (G.2.1 0, 5, .inl (upd (upd (upd (upd (upd (fun _ => 0) 0 (20000 : Int32)) 1 (20000 : Int32)) 2 (20000 : Int32)) 3 (20000 : Int32)) 4 (20000 : Int32)))) (hw_6 : w 6 = .inl (G.2.1 0, 5, .inl (upd (upd (upd (upd (upd (fun _ => 0) 0 (300 : Int32)) 1 (300 : Int32)) 2 (300 : Int32)) 3 (300 : Int32)) 4 (300 : Int32)))) (hw_7 : w 7 = .inl (G.2.1 1, 5, .inl (upd (upd (upd (upd (upd (fun _ => 0) 0 (0 : Int32)) 1 (0 : Int32)) 2 (0 : Int32)) 3 (0 : Int32)) 4 (0 : Int32)))) (hw_10 : w 10 = .inr (7, [.int (30 : Int32), .int (3 : Int32), .ref (ad 11), .int (0 : Int32)])) (hw_12 : w 12 = .inr (7, [.int (20 : Int32), .int (4 : Int32), .ref (ad 13), .int (0 : Int32)])) : Met l yX9_layAnew (tw_ws yX9_layAnew cX9_layAnew 4 none) ({ frames := 0, cells := 0, slots := 0, locals := 0 }) (tw_Pre G 244 ad w sz [.ref (ad 4), .int x1, .int x2]) (tw_Qv G 244 ad (fun w1 => (True ∧ w1 4 = .inr (9, [.int x1, .int x2, .ref (ad 5), .ref (ad 6), .ref (ad 7), .ref (ad 8), .ref (ad 9), .ref (ad 10), .ref (ad 12)]) ∧ w1 5 = .inl (G.2.1 0, 5, .inl (upd (upd (upd (upd (upd (upd (upd (upd (upd (upd (fun _ => 0) 0 (20000 : Int32)) 1 (20000 : Int32)) 2 (20000 : Int32)) 3 (20000 : Int32)) 4 (20000 : Int32)) 0 (20000 : Int32)) 1 (20000 : Int32)) 2 (20000 : Int32)) 3 (20000 : Int32)) 4 (20000 : Int32))) ∧ w1 6 = .inl (G.2.1 0, 5, .inl (upd (upd (upd (upd (upd (upd (upd (upd (upd (upd (fun _ => 0) 0 (300 : Int32)) 1 (300 : Int32)) 2 (300 : Int32)) 3 (300 : Int32)) 4 (300 : Int32)) 0 (300 : Int32)) 1 (300 : Int32)) 2 (300 : Int32)) 3 (300 : Int32)) 4 (300 : Int32))) ∧ w1 7 = .inl (G.2.1 1, 5, .inl (upd (upd (upd (upd (upd (upd (upd (upd (upd (upd (fun _ => 0) 0 (0 : Int32)) 1 (0 : Int32)) 2 (0 : Int32)) 3 (0 : Int32)) 4 (0 : Int32)) 0 (0 : Int32)) 1 (0 : Int32)) 2 (0 : Int32)) 3 (0 : Int32)) 4 (0 : Int32))) ∧ w1 10 = .inr (7, [.int (30 : Int32), .int (3 : Int32), .ref (ad 11), .int (0 : Int32)]) ∧ w1 12 = .inr (7, [.int (20 : Int32), .int (4 : Int32), .ref (ad 13), .int (0 : Int32)]) ∧ ∀ k, k ≠ 4 → k ≠ 5 → k ≠ 6 → k ≠ 7 → k ≠ 10 → k ≠ 12 → w1 k = w k)) sz) 0 0 (tw_A 244 ad sz) := by
  refine tw_met (by decide) (Nat.le_of_ble_eq_true rfl) ?_
  intro p e s m args below meth c F hret hlk hin hargs hsz hH ls hl
  have hx := F.1.1
  have hb := F.1.2.1
  have hown := F.1.2.2.2.1
  have hts := F.1.2.2.2.2
  have hl : lv_has ls 4 [(0, .ref (ad 4)), (1, .int x1), (2, .int x2)] := hl
  generalize hH0 : s.heap = H at hH ⊢
  refine lv_aload_n hx hb dX9_layAnew_0 rfl (lv_at hl 0 rfl) ?_
  refine lv_iload_n hx hb dX9_layAnew_1 rfl (lv_at hl 1 rfl) ?_
  refine tw_put (r := 4) F hH kf_RX9_49 kp_X9_0 rfl (by omega) hw_4 (Nat.le_of_ble_eq_true rfl) rfl rfl dX9_layAnew_2 (fun H locs w1 hw2 hne3 hH => ?_)
  have hw2 : w1 4 = .inr (9, [.int x1, .int (1 : Int32), .ref (ad 5), .ref (ad 6), .ref (ad 7), .ref (ad 8), .ref (ad 9), .ref (ad 10), .ref (ad 12)]) := hw2
  refine lv_aload_n hx hb dX9_layAnew_5 rfl (lv_at hl 0 rfl) ?_
  refine lv_iload_n hx hb dX9_layAnew_6 rfl (lv_at hl 2 rfl) ?_
  refine tw_put (r := 4) F hH kf_RX9_53 kp_X9_1 rfl (by omega) hw2 (Nat.le_of_ble_eq_true rfl) rfl rfl dX9_layAnew_7 (fun H locs w4 hw5 hne6 hH => ?_)
  have hw5 : w4 4 = .inr (9, [.int x1, .int x2, .ref (ad 5), .ref (ad 6), .ref (ad 7), .ref (ad 8), .ref (ad 9), .ref (ad 10), .ref (ad 12)]) := hw5
  refine lv_iconst (v := 0) hx hb dX9_layAnew_10 (by decide) ?_
  refine lv_istore_n (lv' := [(3, .int (0 : Int32)), (0, .ref (ad 4)), (1, .int x1), (2, .int x2)]) hx hb dX9_layAnew_11 rfl hl (by decide) rfl (fun ls hl => ?_)
  refine lv_iload_n hx hb dX9_layAnew_12 rfl (lv_at hl 0 rfl) ?_
  refine lv_iconst (v := 5) hx hb dX9_layAnew_13 (by decide) ?_
  refine lv_icmp_ge (tgt := 48) hx hb dX9_layAnew_14 (by decide) (fun c => absurd c (by decide)) (fun _ => ?_)
  refine lv_aload_n hx hb dX9_layAnew_17 rfl (lv_at hl 1 rfl) ?_
  refine tw_get (r := 4) F hH kf_RX9_9 rfl (by omega) hw5 rfl dX9_layAnew_18 ?_
  refine lv_iload_n hx hb dX9_layAnew_21 rfl (lv_at hl 0 rfl) ?_
  refine lv_sipush (v := 20000) hx hb dX9_layAnew_22 (by decide) ?_
  have hw8 : w4 5 = .inl (G.2.1 0, 5, .inl (upd (upd (upd (upd (upd (fun _ => 0) 0 (20000 : Int32)) 1 (20000 : Int32)) 2 (20000 : Int32)) 3 (20000 : Int32)) 4 (20000 : Int32))) := (hne6 5 (by omega)).trans ((hne3 5 (by omega)).trans (hw_5))
  refine tw_iast (r := 5) (j := 0) F hH rfl (by omega) hw8 (by decide) (by decide) dX9_layAnew_25 (fun H locs w9 hw10 hne11 hH => ?_)
  refine lv_aload_n hx hb dX9_layAnew_26 rfl (lv_at hl 1 rfl) ?_
  have hw12 : w9 4 = .inr (9, [.int x1, .int x2, .ref (ad 5), .ref (ad 6), .ref (ad 7), .ref (ad 8), .ref (ad 9), .ref (ad 10), .ref (ad 12)]) := (hne11 4 (by omega)).trans (hw5)
  refine tw_get (r := 4) F hH kf_RX9_15 rfl (by omega) hw12 rfl dX9_layAnew_27 ?_
  refine lv_iload_n hx hb dX9_layAnew_30 rfl (lv_at hl 0 rfl) ?_
  refine lv_sipush (v := 300) hx hb dX9_layAnew_31 (by decide) ?_
  have hw13 : w9 6 = .inl (G.2.1 0, 5, .inl (upd (upd (upd (upd (upd (fun _ => 0) 0 (300 : Int32)) 1 (300 : Int32)) 2 (300 : Int32)) 3 (300 : Int32)) 4 (300 : Int32))) := (hne11 6 (by omega)).trans ((hne6 6 (by omega)).trans ((hne3 6 (by omega)).trans (hw_6)))
  refine tw_iast (r := 6) (j := 0) F hH rfl (by omega) hw13 (by decide) (by decide) dX9_layAnew_34 (fun H locs w14 hw15 hne16 hH => ?_)
  refine lv_aload_n hx hb dX9_layAnew_35 rfl (lv_at hl 1 rfl) ?_
  have hw17 : w14 4 = .inr (9, [.int x1, .int x2, .ref (ad 5), .ref (ad 6), .ref (ad 7), .ref (ad 8), .ref (ad 9), .ref (ad 10), .ref (ad 12)]) := (hne16 4 (by omega)).trans (hw12)
  refine tw_get (r := 4) F hH kf_RX9_18 rfl (by omega) hw17 rfl dX9_layAnew_36 ?_
  refine lv_iload_n hx hb dX9_layAnew_39 rfl (lv_at hl 0 rfl) ?_
  refine lv_iconst (v := 0) hx hb dX9_layAnew_40 (by decide) ?_
  have hw18 : w14 7 = .inl (G.2.1 1, 5, .inl (upd (upd (upd (upd (upd (fun _ => 0) 0 (0 : Int32)) 1 (0 : Int32)) 2 (0 : Int32)) 3 (0 : Int32)) 4 (0 : Int32))) := (hne16 7 (by omega)).trans ((hne11 7 (by omega)).trans ((hne6 7 (by omega)).trans ((hne3 7 (by omega)).trans (hw_7))))
  refine tw_zast (r := 7) (j := 0) F hH rfl (by omega) hw18 (by decide) (by decide) (by decide) dX9_layAnew_41 (fun H locs w19 hw20 hne21 hH => ?_)
  refine lv_iinc (v := (1 : Int32)) (lv' := [(3, .int (1 : Int32)), (0, .ref (ad 4)), (1, .int x1), (2, .int x2)]) hx hb dX9_layAnew_42 hl (k := 0) rfl (by decide) (by decide) rfl (fun ls hl => ?_)
  refine lv_goto (tgt := 12) hx hb dX9_layAnew_45 (by decide) ?_
  refine lv_iload_n hx hb dX9_layAnew_12 rfl (lv_at hl 0 rfl) ?_
  refine lv_iconst (v := 5) hx hb dX9_layAnew_13 (by decide) ?_
  refine lv_icmp_ge (tgt := 48) hx hb dX9_layAnew_14 (by decide) (fun c => absurd c (by decide)) (fun _ => ?_)
  refine lv_aload_n hx hb dX9_layAnew_17 rfl (lv_at hl 1 rfl) ?_
  have hw23 : w19 4 = .inr (9, [.int x1, .int x2, .ref (ad 5), .ref (ad 6), .ref (ad 7), .ref (ad 8), .ref (ad 9), .ref (ad 10), .ref (ad 12)]) := (hne21 4 (by omega)).trans (hw17)
  refine tw_get (r := 4) F hH kf_RX9_9 rfl (by omega) hw23 rfl dX9_layAnew_18 ?_
  refine lv_iload_n hx hb dX9_layAnew_21 rfl (lv_at hl 0 rfl) ?_
  refine lv_sipush (v := 20000) hx hb dX9_layAnew_22 (by decide) ?_
  have hw24 : w19 5 = .inl (G.2.1 0, 5, .inl (upd (upd (upd (upd (upd (upd (fun _ => 0) 0 (20000 : Int32)) 1 (20000 : Int32)) 2 (20000 : Int32)) 3 (20000 : Int32)) 4 (20000 : Int32)) 0 (20000 : Int32))) := (hne21 5 (by omega)).trans ((hne16 5 (by omega)).trans (hw10))
  refine tw_iast (r := 5) (j := 1) F hH rfl (by omega) hw24 (by decide) (by decide) dX9_layAnew_25 (fun H locs w25 hw26 hne27 hH => ?_)
  refine lv_aload_n hx hb dX9_layAnew_26 rfl (lv_at hl 1 rfl) ?_
  have hw28 : w25 4 = .inr (9, [.int x1, .int x2, .ref (ad 5), .ref (ad 6), .ref (ad 7), .ref (ad 8), .ref (ad 9), .ref (ad 10), .ref (ad 12)]) := (hne27 4 (by omega)).trans (hw23)
  refine tw_get (r := 4) F hH kf_RX9_15 rfl (by omega) hw28 rfl dX9_layAnew_27 ?_
  refine lv_iload_n hx hb dX9_layAnew_30 rfl (lv_at hl 0 rfl) ?_
  refine lv_sipush (v := 300) hx hb dX9_layAnew_31 (by decide) ?_
  have hw29 : w25 6 = .inl (G.2.1 0, 5, .inl (upd (upd (upd (upd (upd (upd (fun _ => 0) 0 (300 : Int32)) 1 (300 : Int32)) 2 (300 : Int32)) 3 (300 : Int32)) 4 (300 : Int32)) 0 (300 : Int32))) := (hne27 6 (by omega)).trans ((hne21 6 (by omega)).trans (hw15))
  refine tw_iast (r := 6) (j := 1) F hH rfl (by omega) hw29 (by decide) (by decide) dX9_layAnew_34 (fun H locs w30 hw31 hne32 hH => ?_)
  refine lv_aload_n hx hb dX9_layAnew_35 rfl (lv_at hl 1 rfl) ?_
  have hw33 : w30 4 = .inr (9, [.int x1, .int x2, .ref (ad 5), .ref (ad 6), .ref (ad 7), .ref (ad 8), .ref (ad 9), .ref (ad 10), .ref (ad 12)]) := (hne32 4 (by omega)).trans (hw28)
  refine tw_get (r := 4) F hH kf_RX9_18 rfl (by omega) hw33 rfl dX9_layAnew_36 ?_
  refine lv_iload_n hx hb dX9_layAnew_39 rfl (lv_at hl 0 rfl) ?_
  refine lv_iconst (v := 0) hx hb dX9_layAnew_40 (by decide) ?_
  have hw34 : w30 7 = .inl (G.2.1 1, 5, .inl (upd (upd (upd (upd (upd (upd (fun _ => 0) 0 (0 : Int32)) 1 (0 : Int32)) 2 (0 : Int32)) 3 (0 : Int32)) 4 (0 : Int32)) 0 (0 : Int32))) := (hne32 7 (by omega)).trans ((hne27 7 (by omega)).trans (hw20))
  refine tw_zast (r := 7) (j := 1) F hH rfl (by omega) hw34 (by decide) (by decide) (by decide) dX9_layAnew_41 (fun H locs w35 hw36 hne37 hH => ?_)
  refine lv_iinc (v := (2 : Int32)) (lv' := [(3, .int (2 : Int32)), (0, .ref (ad 4)), (1, .int x1), (2, .int x2)]) hx hb dX9_layAnew_42 hl (k := 0) rfl (by decide) (by decide) rfl (fun ls hl => ?_)
  refine lv_goto (tgt := 12) hx hb dX9_layAnew_45 (by decide) ?_
  refine lv_iload_n hx hb dX9_layAnew_12 rfl (lv_at hl 0 rfl) ?_
  refine lv_iconst (v := 5) hx hb dX9_layAnew_13 (by decide) ?_
  refine lv_icmp_ge (tgt := 48) hx hb dX9_layAnew_14 (by decide) (fun c => absurd c (by decide)) (fun _ => ?_)
  refine lv_aload_n hx hb dX9_layAnew_17 rfl (lv_at hl 1 rfl) ?_
  have hw39 : w35 4 = .inr (9, [.int x1, .int x2, .ref (ad 5), .ref (ad 6), .ref (ad 7), .ref (ad 8), .ref (ad 9), .ref (ad 10), .ref (ad 12)]) := (hne37 4 (by omega)).trans (hw33)
  refine tw_get (r := 4) F hH kf_RX9_9 rfl (by omega) hw39 rfl dX9_layAnew_18 ?_
  refine lv_iload_n hx hb dX9_layAnew_21 rfl (lv_at hl 0 rfl) ?_
  refine lv_sipush (v := 20000) hx hb dX9_layAnew_22 (by decide) ?_
  have hw40 : w35 5 = .inl (G.2.1 0, 5, .inl (upd (upd (upd (upd (upd (upd (upd (fun _ => 0) 0 (20000 : Int32)) 1 (20000 : Int32)) 2 (20000 : Int32)) 3 (20000 : Int32)) 4 (20000 : Int32)) 0 (20000 : Int32)) 1 (20000 : Int32))) := (hne37 5 (by omega)).trans ((hne32 5 (by omega)).trans (hw26))
  refine tw_iast (r := 5) (j := 2) F hH rfl (by omega) hw40 (by decide) (by decide) dX9_layAnew_25 (fun H locs w41 hw42 hne43 hH => ?_)
  refine lv_aload_n hx hb dX9_layAnew_26 rfl (lv_at hl 1 rfl) ?_
  have hw44 : w41 4 = .inr (9, [.int x1, .int x2, .ref (ad 5), .ref (ad 6), .ref (ad 7), .ref (ad 8), .ref (ad 9), .ref (ad 10), .ref (ad 12)]) := (hne43 4 (by omega)).trans (hw39)
  refine tw_get (r := 4) F hH kf_RX9_15 rfl (by omega) hw44 rfl dX9_layAnew_27 ?_
  refine lv_iload_n hx hb dX9_layAnew_30 rfl (lv_at hl 0 rfl) ?_
  refine lv_sipush (v := 300) hx hb dX9_layAnew_31 (by decide) ?_
  have hw45 : w41 6 = .inl (G.2.1 0, 5, .inl (upd (upd (upd (upd (upd (upd (upd (fun _ => 0) 0 (300 : Int32)) 1 (300 : Int32)) 2 (300 : Int32)) 3 (300 : Int32)) 4 (300 : Int32)) 0 (300 : Int32)) 1 (300 : Int32))) := (hne43 6 (by omega)).trans ((hne37 6 (by omega)).trans (hw31))
  refine tw_iast (r := 6) (j := 2) F hH rfl (by omega) hw45 (by decide) (by decide) dX9_layAnew_34 (fun H locs w46 hw47 hne48 hH => ?_)
  refine lv_aload_n hx hb dX9_layAnew_35 rfl (lv_at hl 1 rfl) ?_
  have hw49 : w46 4 = .inr (9, [.int x1, .int x2, .ref (ad 5), .ref (ad 6), .ref (ad 7), .ref (ad 8), .ref (ad 9), .ref (ad 10), .ref (ad 12)]) := (hne48 4 (by omega)).trans (hw44)
  refine tw_get (r := 4) F hH kf_RX9_18 rfl (by omega) hw49 rfl dX9_layAnew_36 ?_
  refine lv_iload_n hx hb dX9_layAnew_39 rfl (lv_at hl 0 rfl) ?_
  refine lv_iconst (v := 0) hx hb dX9_layAnew_40 (by decide) ?_
  have hw50 : w46 7 = .inl (G.2.1 1, 5, .inl (upd (upd (upd (upd (upd (upd (upd (fun _ => 0) 0 (0 : Int32)) 1 (0 : Int32)) 2 (0 : Int32)) 3 (0 : Int32)) 4 (0 : Int32)) 0 (0 : Int32)) 1 (0 : Int32))) := (hne48 7 (by omega)).trans ((hne43 7 (by omega)).trans (hw36))
  refine tw_zast (r := 7) (j := 2) F hH rfl (by omega) hw50 (by decide) (by decide) (by decide) dX9_layAnew_41 (fun H locs w51 hw52 hne53 hH => ?_)
  refine lv_iinc (v := (3 : Int32)) (lv' := [(3, .int (3 : Int32)), (0, .ref (ad 4)), (1, .int x1), (2, .int x2)]) hx hb dX9_layAnew_42 hl (k := 0) rfl (by decide) (by decide) rfl (fun ls hl => ?_)
  refine lv_goto (tgt := 12) hx hb dX9_layAnew_45 (by decide) ?_
  refine lv_iload_n hx hb dX9_layAnew_12 rfl (lv_at hl 0 rfl) ?_
  refine lv_iconst (v := 5) hx hb dX9_layAnew_13 (by decide) ?_
  refine lv_icmp_ge (tgt := 48) hx hb dX9_layAnew_14 (by decide) (fun c => absurd c (by decide)) (fun _ => ?_)
  refine lv_aload_n hx hb dX9_layAnew_17 rfl (lv_at hl 1 rfl) ?_
  have hw55 : w51 4 = .inr (9, [.int x1, .int x2, .ref (ad 5), .ref (ad 6), .ref (ad 7), .ref (ad 8), .ref (ad 9), .ref (ad 10), .ref (ad 12)]) := (hne53 4 (by omega)).trans (hw49)
  refine tw_get (r := 4) F hH kf_RX9_9 rfl (by omega) hw55 rfl dX9_layAnew_18 ?_
  refine lv_iload_n hx hb dX9_layAnew_21 rfl (lv_at hl 0 rfl) ?_
  refine lv_sipush (v := 20000) hx hb dX9_layAnew_22 (by decide) ?_
  have hw56 : w51 5 = .inl (G.2.1 0, 5, .inl (upd (upd (upd (upd (upd (upd (upd (upd (fun _ => 0) 0 (20000 : Int32)) 1 (20000 : Int32)) 2 (20000 : Int32)) 3 (20000 : Int32)) 4 (20000 : Int32)) 0 (20000 : Int32)) 1 (20000 : Int32)) 2 (20000 : Int32))) := (hne53 5 (by omega)).trans ((hne48 5 (by omega)).trans (hw42))
  refine tw_iast (r := 5) (j := 3) F hH rfl (by omega) hw56 (by decide) (by decide) dX9_layAnew_25 (fun H locs w57 hw58 hne59 hH => ?_)
  refine lv_aload_n hx hb dX9_layAnew_26 rfl (lv_at hl 1 rfl) ?_
  have hw60 : w57 4 = .inr (9, [.int x1, .int x2, .ref (ad 5), .ref (ad 6), .ref (ad 7), .ref (ad 8), .ref (ad 9), .ref (ad 10), .ref (ad 12)]) := (hne59 4 (by omega)).trans (hw55)
  refine tw_get (r := 4) F hH kf_RX9_15 rfl (by omega) hw60 rfl dX9_layAnew_27 ?_
  refine lv_iload_n hx hb dX9_layAnew_30 rfl (lv_at hl 0 rfl) ?_
  refine lv_sipush (v := 300) hx hb dX9_layAnew_31 (by decide) ?_
  have hw61 : w57 6 = .inl (G.2.1 0, 5, .inl (upd (upd (upd (upd (upd (upd (upd (upd (fun _ => 0) 0 (300 : Int32)) 1 (300 : Int32)) 2 (300 : Int32)) 3 (300 : Int32)) 4 (300 : Int32)) 0 (300 : Int32)) 1 (300 : Int32)) 2 (300 : Int32))) := (hne59 6 (by omega)).trans ((hne53 6 (by omega)).trans (hw47))
  refine tw_iast (r := 6) (j := 3) F hH rfl (by omega) hw61 (by decide) (by decide) dX9_layAnew_34 (fun H locs w62 hw63 hne64 hH => ?_)
  refine lv_aload_n hx hb dX9_layAnew_35 rfl (lv_at hl 1 rfl) ?_
  have hw65 : w62 4 = .inr (9, [.int x1, .int x2, .ref (ad 5), .ref (ad 6), .ref (ad 7), .ref (ad 8), .ref (ad 9), .ref (ad 10), .ref (ad 12)]) := (hne64 4 (by omega)).trans (hw60)
  refine tw_get (r := 4) F hH kf_RX9_18 rfl (by omega) hw65 rfl dX9_layAnew_36 ?_
  refine lv_iload_n hx hb dX9_layAnew_39 rfl (lv_at hl 0 rfl) ?_
  refine lv_iconst (v := 0) hx hb dX9_layAnew_40 (by decide) ?_
  have hw66 : w62 7 = .inl (G.2.1 1, 5, .inl (upd (upd (upd (upd (upd (upd (upd (upd (fun _ => 0) 0 (0 : Int32)) 1 (0 : Int32)) 2 (0 : Int32)) 3 (0 : Int32)) 4 (0 : Int32)) 0 (0 : Int32)) 1 (0 : Int32)) 2 (0 : Int32))) := (hne64 7 (by omega)).trans ((hne59 7 (by omega)).trans (hw52))
  refine tw_zast (r := 7) (j := 3) F hH rfl (by omega) hw66 (by decide) (by decide) (by decide) dX9_layAnew_41 (fun H locs w67 hw68 hne69 hH => ?_)
  refine lv_iinc (v := (4 : Int32)) (lv' := [(3, .int (4 : Int32)), (0, .ref (ad 4)), (1, .int x1), (2, .int x2)]) hx hb dX9_layAnew_42 hl (k := 0) rfl (by decide) (by decide) rfl (fun ls hl => ?_)
  refine lv_goto (tgt := 12) hx hb dX9_layAnew_45 (by decide) ?_
  refine lv_iload_n hx hb dX9_layAnew_12 rfl (lv_at hl 0 rfl) ?_
  refine lv_iconst (v := 5) hx hb dX9_layAnew_13 (by decide) ?_
  refine lv_icmp_ge (tgt := 48) hx hb dX9_layAnew_14 (by decide) (fun c => absurd c (by decide)) (fun _ => ?_)
  refine lv_aload_n hx hb dX9_layAnew_17 rfl (lv_at hl 1 rfl) ?_
  have hw71 : w67 4 = .inr (9, [.int x1, .int x2, .ref (ad 5), .ref (ad 6), .ref (ad 7), .ref (ad 8), .ref (ad 9), .ref (ad 10), .ref (ad 12)]) := (hne69 4 (by omega)).trans (hw65)
  refine tw_get (r := 4) F hH kf_RX9_9 rfl (by omega) hw71 rfl dX9_layAnew_18 ?_
  refine lv_iload_n hx hb dX9_layAnew_21 rfl (lv_at hl 0 rfl) ?_
  refine lv_sipush (v := 20000) hx hb dX9_layAnew_22 (by decide) ?_
  have hw72 : w67 5 = .inl (G.2.1 0, 5, .inl (upd (upd (upd (upd (upd (upd (upd (upd (upd (fun _ => 0) 0 (20000 : Int32)) 1 (20000 : Int32)) 2 (20000 : Int32)) 3 (20000 : Int32)) 4 (20000 : Int32)) 0 (20000 : Int32)) 1 (20000 : Int32)) 2 (20000 : Int32)) 3 (20000 : Int32))) := (hne69 5 (by omega)).trans ((hne64 5 (by omega)).trans (hw58))
  refine tw_iast (r := 5) (j := 4) F hH rfl (by omega) hw72 (by decide) (by decide) dX9_layAnew_25 (fun H locs w73 hw74 hne75 hH => ?_)
  refine lv_aload_n hx hb dX9_layAnew_26 rfl (lv_at hl 1 rfl) ?_
  have hw76 : w73 4 = .inr (9, [.int x1, .int x2, .ref (ad 5), .ref (ad 6), .ref (ad 7), .ref (ad 8), .ref (ad 9), .ref (ad 10), .ref (ad 12)]) := (hne75 4 (by omega)).trans (hw71)
  refine tw_get (r := 4) F hH kf_RX9_15 rfl (by omega) hw76 rfl dX9_layAnew_27 ?_
  refine lv_iload_n hx hb dX9_layAnew_30 rfl (lv_at hl 0 rfl) ?_
  refine lv_sipush (v := 300) hx hb dX9_layAnew_31 (by decide) ?_
  have hw77 : w73 6 = .inl (G.2.1 0, 5, .inl (upd (upd (upd (upd (upd (upd (upd (upd (upd (fun _ => 0) 0 (300 : Int32)) 1 (300 : Int32)) 2 (300 : Int32)) 3 (300 : Int32)) 4 (300 : Int32)) 0 (300 : Int32)) 1 (300 : Int32)) 2 (300 : Int32)) 3 (300 : Int32))) := (hne75 6 (by omega)).trans ((hne69 6 (by omega)).trans (hw63))
  refine tw_iast (r := 6) (j := 4) F hH rfl (by omega) hw77 (by decide) (by decide) dX9_layAnew_34 (fun H locs w78 hw79 hne80 hH => ?_)
  refine lv_aload_n hx hb dX9_layAnew_35 rfl (lv_at hl 1 rfl) ?_
  have hw81 : w78 4 = .inr (9, [.int x1, .int x2, .ref (ad 5), .ref (ad 6), .ref (ad 7), .ref (ad 8), .ref (ad 9), .ref (ad 10), .ref (ad 12)]) := (hne80 4 (by omega)).trans (hw76)
  refine tw_get (r := 4) F hH kf_RX9_18 rfl (by omega) hw81 rfl dX9_layAnew_36 ?_
  refine lv_iload_n hx hb dX9_layAnew_39 rfl (lv_at hl 0 rfl) ?_
  refine lv_iconst (v := 0) hx hb dX9_layAnew_40 (by decide) ?_
  have hw82 : w78 7 = .inl (G.2.1 1, 5, .inl (upd (upd (upd (upd (upd (upd (upd (upd (upd (fun _ => 0) 0 (0 : Int32)) 1 (0 : Int32)) 2 (0 : Int32)) 3 (0 : Int32)) 4 (0 : Int32)) 0 (0 : Int32)) 1 (0 : Int32)) 2 (0 : Int32)) 3 (0 : Int32))) := (hne80 7 (by omega)).trans ((hne75 7 (by omega)).trans (hw68))
  refine tw_zast (r := 7) (j := 4) F hH rfl (by omega) hw82 (by decide) (by decide) (by decide) dX9_layAnew_41 (fun H locs w83 hw84 hne85 hH => ?_)
  refine lv_iinc (v := (5 : Int32)) (lv' := [(3, .int (5 : Int32)), (0, .ref (ad 4)), (1, .int x1), (2, .int x2)]) hx hb dX9_layAnew_42 hl (k := 0) rfl (by decide) (by decide) rfl (fun ls hl => ?_)
  refine lv_goto (tgt := 12) hx hb dX9_layAnew_45 (by decide) ?_
  refine lv_iload_n hx hb dX9_layAnew_12 rfl (lv_at hl 0 rfl) ?_
  refine lv_iconst (v := 5) hx hb dX9_layAnew_13 (by decide) ?_
  refine lv_icmp_ge (tgt := 48) hx hb dX9_layAnew_14 (by decide) (fun _ => ?_) (fun c => absurd c (by decide))
  refine lv_aload_n hx hb dX9_layAnew_48 rfl (lv_at hl 1 rfl) ?_
  have hw87 : w83 4 = .inr (9, [.int x1, .int x2, .ref (ad 5), .ref (ad 6), .ref (ad 7), .ref (ad 8), .ref (ad 9), .ref (ad 10), .ref (ad 12)]) := (hne85 4 (by omega)).trans (hw81)
  refine tw_get (r := 4) F hH kf_RX9_33 rfl (by omega) hw87 rfl dX9_layAnew_49 ?_
  refine lv_iconst (v := 0) hx hb dX9_layAnew_52 (by decide) ?_
  have hw88 : w83 10 = .inr (7, [.int (30 : Int32), .int (3 : Int32), .ref (ad 11), .int (0 : Int32)]) := (hne85 10 (by omega)).trans ((hne80 10 (by omega)).trans ((hne75 10 (by omega)).trans ((hne69 10 (by omega)).trans ((hne64 10 (by omega)).trans ((hne59 10 (by omega)).trans ((hne53 10 (by omega)).trans ((hne48 10 (by omega)).trans ((hne43 10 (by omega)).trans ((hne37 10 (by omega)).trans ((hne32 10 (by omega)).trans ((hne27 10 (by omega)).trans ((hne21 10 (by omega)).trans ((hne16 10 (by omega)).trans ((hne11 10 (by omega)).trans ((hne6 10 (by omega)).trans ((hne3 10 (by omega)).trans (hw_10)))))))))))))))))
  refine tw_put (r := 10) F hH kf_RX9_56 kp_X7_3 rfl (by omega) hw88 (Nat.le_of_ble_eq_true rfl) rfl rfl dX9_layAnew_53 (fun H locs w89 hw90 hne91 hH => ?_)
  have hw90 : w89 10 = .inr (7, [.int (30 : Int32), .int (3 : Int32), .ref (ad 11), .int (0 : Int32)]) := hw90
  refine lv_aload_n hx hb dX9_layAnew_56 rfl (lv_at hl 1 rfl) ?_
  have hw92 : w89 4 = .inr (9, [.int x1, .int x2, .ref (ad 5), .ref (ad 6), .ref (ad 7), .ref (ad 8), .ref (ad 9), .ref (ad 10), .ref (ad 12)]) := (hne91 4 (by omega)).trans (hw87)
  refine tw_get (r := 4) F hH kf_RX9_37 rfl (by omega) hw92 rfl dX9_layAnew_57 ?_
  refine lv_iconst (v := 0) hx hb dX9_layAnew_60 (by decide) ?_
  have hw93 : w89 12 = .inr (7, [.int (20 : Int32), .int (4 : Int32), .ref (ad 13), .int (0 : Int32)]) := (hne91 12 (by omega)).trans ((hne85 12 (by omega)).trans ((hne80 12 (by omega)).trans ((hne75 12 (by omega)).trans ((hne69 12 (by omega)).trans ((hne64 12 (by omega)).trans ((hne59 12 (by omega)).trans ((hne53 12 (by omega)).trans ((hne48 12 (by omega)).trans ((hne43 12 (by omega)).trans ((hne37 12 (by omega)).trans ((hne32 12 (by omega)).trans ((hne27 12 (by omega)).trans ((hne21 12 (by omega)).trans ((hne16 12 (by omega)).trans ((hne11 12 (by omega)).trans ((hne6 12 (by omega)).trans ((hne3 12 (by omega)).trans (hw_12))))))))))))))))))
  refine tw_put (r := 12) F hH kf_RX9_56 kp_X7_3 rfl (by omega) hw93 (Nat.le_of_ble_eq_true rfl) rfl rfl dX9_layAnew_61 (fun H locs w94 hw95 hne96 hH => ?_)
  have hw95 : w94 12 = .inr (7, [.int (20 : Int32), .int (4 : Int32), .ref (ad 13), .int (0 : Int32)]) := hw95
  have hw97 : w94 4 = .inr (9, [.int x1, .int x2, .ref (ad 5), .ref (ad 6), .ref (ad 7), .ref (ad 8), .ref (ad 9), .ref (ad 10), .ref (ad 12)]) := (hne96 4 (by omega)).trans (hw92)
  have hw98 : w94 5 = .inl (G.2.1 0, 5, .inl (upd (upd (upd (upd (upd (upd (upd (upd (upd (upd (fun _ => 0) 0 (20000 : Int32)) 1 (20000 : Int32)) 2 (20000 : Int32)) 3 (20000 : Int32)) 4 (20000 : Int32)) 0 (20000 : Int32)) 1 (20000 : Int32)) 2 (20000 : Int32)) 3 (20000 : Int32)) 4 (20000 : Int32))) := (hne96 5 (by omega)).trans ((hne91 5 (by omega)).trans ((hne85 5 (by omega)).trans ((hne80 5 (by omega)).trans (hw74))))
  have hw99 : w94 6 = .inl (G.2.1 0, 5, .inl (upd (upd (upd (upd (upd (upd (upd (upd (upd (upd (fun _ => 0) 0 (300 : Int32)) 1 (300 : Int32)) 2 (300 : Int32)) 3 (300 : Int32)) 4 (300 : Int32)) 0 (300 : Int32)) 1 (300 : Int32)) 2 (300 : Int32)) 3 (300 : Int32)) 4 (300 : Int32))) := (hne96 6 (by omega)).trans ((hne91 6 (by omega)).trans ((hne85 6 (by omega)).trans (hw79)))
  have hw100 : w94 7 = .inl (G.2.1 1, 5, .inl (upd (upd (upd (upd (upd (upd (upd (upd (upd (upd (fun _ => 0) 0 (0 : Int32)) 1 (0 : Int32)) 2 (0 : Int32)) 3 (0 : Int32)) 4 (0 : Int32)) 0 (0 : Int32)) 1 (0 : Int32)) 2 (0 : Int32)) 3 (0 : Int32)) 4 (0 : Int32))) := (hne96 7 (by omega)).trans ((hne91 7 (by omega)).trans (hw84))
  have hw101 : w94 10 = .inr (7, [.int (30 : Int32), .int (3 : Int32), .ref (ad 11), .int (0 : Int32)]) := (hne96 10 (by omega)).trans (hw90)
  exact tw_vret F hH hret hlk (Nat.le_of_ble_eq_true rfl) (Nat.le_of_ble_eq_true rfl) dX9_layAnew_64 (⟨trivial, hw97, hw98, hw99, hw100, hw101, hw95, fun k h0 h1 h2 h3 h4 h5 => ((hne96 k (by omega)).trans ((hne91 k (by omega)).trans ((hne85 k (by omega)).trans ((hne80 k (by omega)).trans ((hne75 k (by omega)).trans ((hne69 k (by omega)).trans ((hne64 k (by omega)).trans ((hne59 k (by omega)).trans ((hne53 k (by omega)).trans ((hne48 k (by omega)).trans ((hne43 k (by omega)).trans ((hne37 k (by omega)).trans ((hne32 k (by omega)).trans ((hne27 k (by omega)).trans ((hne21 k (by omega)).trans ((hne16 k (by omega)).trans ((hne11 k (by omega)).trans ((hne6 k (by omega)).trans (hne3 k (by omega))))))))))))))))))))⟩)
set_option maxHeartbeats 4000000 in
set_option maxRecDepth 100000 in
theorem c_X11_track (l : Launch) (G : tw_G) (ad : Nat → Nat) (w : Nat → va_E) (sz : Nat) (x1 : Int32) (z1 : Int) (e1 : x1.toInt = z1) (x2 : Int32) (z2 : Int) (e2 : x2.toInt = z2) (hw_0 : w 0 = .inr (11, [.ref (ad 4), .ref (ad 14), .ref (ad 156), .ref (ad 221), .ref (ad 225), .ref (ad 233), .ref (ad 236), .int (0 : Int32), .ref (ad 237), .int (0 : Int32), .ref (ad 238)])) (hw_4 : w 4 = .inr (9, [.int (2 : Int32), .int (1 : Int32), .ref (ad 5), .ref (ad 6), .ref (ad 7), .ref (ad 8), .ref (ad 9), .ref (ad 10), .ref (ad 12)])) (hw_5 : w 5 = .inl (G.2.1 0, 5, .inl (upd (upd (upd (upd (upd (fun _ => 0) 0 (20000 : Int32)) 1 (20000 : Int32)) 2 (20000 : Int32)) 3 (20000 : Int32)) 4 (20000 : Int32)))) (hw_6 : w 6 = .inl (G.2.1 0, 5, .inl (upd (upd (upd (upd (upd (fun _ => 0) 0 (300 : Int32)) 1 (300 : Int32)) 2 (300 : Int32)) 3 (300 : Int32)) 4 (300 : Int32)))) (hw_7 : w 7 = .inl (G.2.1 1, 5, .inl (upd (upd (upd (upd (upd (fun _ => 0) 0 (0 : Int32)) 1 (0 : Int32)) 2 (0 : Int32)) 3 (0 : Int32)) 4 (0 : Int32)))) (hw_10 : w 10 = .inr (7, [.int (30 : Int32), .int (3 : Int32), .ref (ad 11), .int (0 : Int32)])) (hw_12 : w 12 = .inr (7, [.int (20 : Int32), .int (4 : Int32), .ref (ad 13), .int (0 : Int32)])) (hw_14 : w 14 = .inr (2, [.ref (ad 4), .ref (ad 1), .ref (ad 15), .ref (ad 16), .ref (ad 17), .int (0 : Int32), .int (0 : Int32), .int (0 : Int32)])) (hw_156 : w 156 = .inr (0, [.ref (ad 1), .ref (ad 157), .ref (ad 158), .int (0 : Int32), .ref (ad 159)])) (hw_159 : w 159 = .inr (7, [.int (20 : Int32), .int (4 : Int32), .ref (ad 160), .int (0 : Int32)])) : Met l yX11_track (tw_ws yX11_track cX11_track 3 (some .boolean)) ({ frames := 1, cells := 0, slots := 0, locals := 23 }) (tw_Pre G 244 ad w sz [.ref (ad 0), .int x1, .int x2]) (tw_Qi G 244 ad (fun r w1 => ((0 : Int32) = r ∧ (((z1 < 2)) ∨ ((¬ (z1 < 2)) ∧ (5 < z1)) ∨ ((¬ (z1 < 2)) ∧ (¬ (5 < z1)) ∧ (z2 < 1)) ∨ ((¬ (z1 < 2)) ∧ (¬ (5 < z1)) ∧ (¬ (z2 < 1)) ∧ (¬ (z2 ≤ 12))))) ∨ ((1 : Int32) = r ∧ ((¬ (z1 < 2)) ∧ (¬ (5 < z1)) ∧ (¬ (z2 < 1)) ∧ (z2 ≤ 12)))) sz) 0 0 (tw_A 244 ad sz) := by
  refine tw_met (by decide) (Nat.le_of_ble_eq_true rfl) ?_
  intro p e s m args below meth c F hret hlk hin hargs hsz hH ls hl
  have hx := F.1.1
  have hb := F.1.2.1
  have hown := F.1.2.2.2.1
  have hts := F.1.2.2.2.2
  have hl : lv_has ls 3 [(0, .ref (ad 0)), (1, .int x1), (2, .int x2)] := hl
  generalize hH0 : s.heap = H at hH ⊢
  refine lv_iload_n hx hb dX11_track_0 rfl (lv_at hl 1 rfl) ?_
  refine lv_iconst (v := 2) hx hb dX11_track_1 (by decide) ?_
  refine lv_icmp_lt (tgt := 21) hx hb dX11_track_2 (by decide) (fun c1 => ?_) (fun c1 => ?_)
  · have c1 := (tw_lt e1 (by decide : (2 : Int32).toInt = 2)).mp c1
    refine lv_iconst (v := 0) hx hb dX11_track_21 (by decide) ?_
    exact tw_iret F hH hret hlk rfl (Nat.le_of_ble_eq_true rfl) (Nat.le_of_ble_eq_true rfl) dX11_track_22 (Or.inl (⟨rfl, (by omega)⟩))
  · have c1 := mt (tw_lt e1 (by decide : (2 : Int32).toInt = 2)).mpr c1
    refine lv_iload_n hx hb dX11_track_5 rfl (lv_at hl 1 rfl) ?_
    refine lv_iconst (v := 5) hx hb dX11_track_6 (by decide) ?_
    refine lv_icmp_gt (tgt := 21) hx hb dX11_track_7 (by decide) (fun c2 => ?_) (fun c2 => ?_)
    · have c2 := (tw_lt (by decide : (5 : Int32).toInt = 5) e1).mp c2
      refine lv_iconst (v := 0) hx hb dX11_track_21 (by decide) ?_
      exact tw_iret F hH hret hlk rfl (Nat.le_of_ble_eq_true rfl) (Nat.le_of_ble_eq_true rfl) dX11_track_22 (Or.inl (⟨rfl, (by omega)⟩))
    · have c2 := mt (tw_lt (by decide : (5 : Int32).toInt = 5) e1).mpr c2
      refine lv_iload_n hx hb dX11_track_10 rfl (lv_at hl 2 rfl) ?_
      refine lv_iconst (v := 1) hx hb dX11_track_11 (by decide) ?_
      refine lv_icmp_lt (tgt := 21) hx hb dX11_track_12 (by decide) (fun c3 => ?_) (fun c3 => ?_)
      · have c3 := (tw_lt e2 (by decide : (1 : Int32).toInt = 1)).mp c3
        refine lv_iconst (v := 0) hx hb dX11_track_21 (by decide) ?_
        exact tw_iret F hH hret hlk rfl (Nat.le_of_ble_eq_true rfl) (Nat.le_of_ble_eq_true rfl) dX11_track_22 (Or.inl (⟨rfl, (by omega)⟩))
      · have c3 := mt (tw_lt e2 (by decide : (1 : Int32).toInt = 1)).mpr c3
        refine lv_iload_n hx hb dX11_track_15 rfl (lv_at hl 2 rfl) ?_
        refine lv_bipush (v := 12) hx hb dX11_track_16 (by decide) ?_
        refine lv_icmp_le (tgt := 23) hx hb dX11_track_18 (by decide) (fun c4 => ?_) (fun c4 => ?_)
        · have c4 := (tw_le e2 (by decide : (12 : Int32).toInt = 12)).mp c4
          refine lv_aload_n hx hb dX11_track_23 rfl (lv_at hl 0 rfl) ?_
          refine tw_get (r := 0) F hH kf_RX11_15 rfl (by omega) hw_0 rfl dX11_track_24 ?_
          refine lv_iload_n hx hb dX11_track_27 rfl (lv_at hl 1 rfl) ?_
          refine lv_iload_n hx hb dX11_track_28 rfl (lv_at hl 2 rfl) ?_
          refine tw_callv F hH (tw_runV (r := 4) (As := [.int x1, .int x2]) (rest := []) F hH (c_X9_layAnew_v2 l G ad w H.size x1 (z1) e1 x2 (z2) e2 hw_4 hw_5 hw_6 hw_7 hw_10 hw_12) (tw_gl kw_552 rfl) km_X9_layAnew kv_X9_layAnew rfl rfl ⟨(Nat.le_of_ble_eq_true rfl), (Nat.le_of_ble_eq_true rfl)⟩ (by omega) hw_4 rfl rfl hl.1 rfl (Nat.le_of_ble_eq_true rfl) dX11_track_29 ⟨(Nat.le_of_ble_eq_true rfl), (Nat.le_of_ble_eq_true rfl)⟩) (fun w5 H locs hp6 _ hH => ?_)
          obtain ⟨-, hw8, hw9, hw10, hw11, hw12, hw13, hfr14⟩ := hp6
          refine lv_aload_n hx hb dX11_track_32 rfl (lv_at hl 0 rfl) ?_
          have hw15 : w5 0 = .inr (11, [.ref (ad 4), .ref (ad 14), .ref (ad 156), .ref (ad 221), .ref (ad 225), .ref (ad 233), .ref (ad 236), .int (0 : Int32), .ref (ad 237), .int (0 : Int32), .ref (ad 238)]) := (hfr14 0 (by omega) (by omega) (by omega) (by omega) (by omega) (by omega)).trans (hw_0)
          refine tw_get (r := 0) F hH kf_RX11_24 rfl (by omega) hw15 rfl dX11_track_33 ?_
          refine lv_iconst (v := 0) hx hb dX11_track_36 (by decide) ?_
          have hw16 : w5 14 = .inr (2, [.ref (ad 4), .ref (ad 1), .ref (ad 15), .ref (ad 16), .ref (ad 17), .int (0 : Int32), .int (0 : Int32), .int (0 : Int32)]) := (hfr14 14 (by omega) (by omega) (by omega) (by omega) (by omega) (by omega)).trans (hw_14)
          refine tw_put (r := 14) F hH kf_RX11_80 kp_X2_5 rfl (by omega) hw16 (Nat.le_of_ble_eq_true rfl) rfl rfl dX11_track_37 (fun H locs w17 hw18 hne19 hH => ?_)
          have hw18 : w17 14 = .inr (2, [.ref (ad 4), .ref (ad 1), .ref (ad 15), .ref (ad 16), .ref (ad 17), .int (0 : Int32), .int (0 : Int32), .int (0 : Int32)]) := hw18
          refine lv_aload_n hx hb dX11_track_40 rfl (lv_at hl 0 rfl) ?_
          have hw20 : w17 0 = .inr (11, [.ref (ad 4), .ref (ad 14), .ref (ad 156), .ref (ad 221), .ref (ad 225), .ref (ad 233), .ref (ad 236), .int (0 : Int32), .ref (ad 237), .int (0 : Int32), .ref (ad 238)]) := (hne19 0 (by omega)).trans (hw15)
          refine tw_get (r := 0) F hH kf_RX11_24 rfl (by omega) hw20 rfl dX11_track_41 ?_
          refine lv_iconst (v := 0) hx hb dX11_track_44 (by decide) ?_
          refine tw_put (r := 14) F hH kf_RX11_84 kp_X2_7 rfl (by omega) hw18 (Nat.le_of_ble_eq_true rfl) rfl rfl dX11_track_45 (fun H locs w21 hw22 hne23 hH => ?_)
          have hw22 : w21 14 = .inr (2, [.ref (ad 4), .ref (ad 1), .ref (ad 15), .ref (ad 16), .ref (ad 17), .int (0 : Int32), .int (0 : Int32), .int (0 : Int32)]) := hw22
          refine lv_aload_n hx hb dX11_track_48 rfl (lv_at hl 0 rfl) ?_
          have hw24 : w21 0 = .inr (11, [.ref (ad 4), .ref (ad 14), .ref (ad 156), .ref (ad 221), .ref (ad 225), .ref (ad 233), .ref (ad 236), .int (0 : Int32), .ref (ad 237), .int (0 : Int32), .ref (ad 238)]) := (hne23 0 (by omega)).trans (hw20)
          refine tw_get (r := 0) F hH kf_RX11_33 rfl (by omega) hw24 rfl dX11_track_49 ?_
          refine lv_iconst (v := 0) hx hb dX11_track_52 (by decide) ?_
          have hw25 : w21 156 = .inr (0, [.ref (ad 1), .ref (ad 157), .ref (ad 158), .int (0 : Int32), .ref (ad 159)]) := (hne23 156 (by omega)).trans ((hne19 156 (by omega)).trans ((hfr14 156 (by omega) (by omega) (by omega) (by omega) (by omega) (by omega)).trans (hw_156)))
          refine tw_put (r := 156) F hH kf_RX11_88 kp_X0_3 rfl (by omega) hw25 (Nat.le_of_ble_eq_true rfl) rfl rfl dX11_track_53 (fun H locs w26 hw27 hne28 hH => ?_)
          have hw27 : w26 156 = .inr (0, [.ref (ad 1), .ref (ad 157), .ref (ad 158), .int (0 : Int32), .ref (ad 159)]) := hw27
          refine lv_aload_n hx hb dX11_track_56 rfl (lv_at hl 0 rfl) ?_
          have hw29 : w26 0 = .inr (11, [.ref (ad 4), .ref (ad 14), .ref (ad 156), .ref (ad 221), .ref (ad 225), .ref (ad 233), .ref (ad 236), .int (0 : Int32), .ref (ad 237), .int (0 : Int32), .ref (ad 238)]) := (hne28 0 (by omega)).trans (hw24)
          refine tw_get (r := 0) F hH kf_RX11_33 rfl (by omega) hw29 rfl dX11_track_57 ?_
          refine tw_get (r := 156) F hH kf_RX11_91 rfl (by omega) hw27 rfl dX11_track_60 ?_
          refine lv_iconst (v := 0) hx hb dX11_track_63 (by decide) ?_
          have hw30 : w26 159 = .inr (7, [.int (20 : Int32), .int (4 : Int32), .ref (ad 160), .int (0 : Int32)]) := (hne28 159 (by omega)).trans ((hne23 159 (by omega)).trans ((hne19 159 (by omega)).trans ((hfr14 159 (by omega) (by omega) (by omega) (by omega) (by omega) (by omega)).trans (hw_159))))
          refine tw_put (r := 159) F hH kf_RX11_95 kp_X7_3 rfl (by omega) hw30 (Nat.le_of_ble_eq_true rfl) rfl rfl dX11_track_64 (fun H locs w31 hw32 hne33 hH => ?_)
          have hw32 : w31 159 = .inr (7, [.int (20 : Int32), .int (4 : Int32), .ref (ad 160), .int (0 : Int32)]) := hw32
          refine lv_iconst (v := 1) hx hb dX11_track_67 (by decide) ?_
          exact tw_iret F hH hret hlk rfl (Nat.le_of_ble_eq_true rfl) (Nat.le_of_ble_eq_true rfl) dX11_track_68 (Or.inr (⟨rfl, (by omega)⟩))
        · have c4 := mt (tw_le e2 (by decide : (12 : Int32).toInt = 12)).mpr c4
          refine lv_iconst (v := 0) hx hb dX11_track_21 (by decide) ?_
          exact tw_iret F hH hret hlk rfl (Nat.le_of_ble_eq_true rfl) (Nat.le_of_ble_eq_true rfl) dX11_track_22 (Or.inl (⟨rfl, (by omega)⟩))
set_option maxHeartbeats 4000000 in
set_option maxRecDepth 100000 in
theorem c_X11_isIndex (l : Launch) (G : tw_G) (N : Nat) (ad : Nat → Nat) (w : Nat → va_E) (sz : Nat) (x0 : Int32) (z0 : Int) (e0 : x0.toInt = z0) (x1 : Int32) (z1 : Int) (e1 : x1.toInt = z1) : Met l yX11_isIndex (tw_ws yX11_isIndex cX11_isIndex 2 (some .boolean)) ({ frames := 0, cells := 0, slots := 0, locals := 0 }) (tw_Pre G N ad w sz [.int x0, .int x1]) (tw_Qi G N ad (fun r w1 => ((0 : Int32) = r ∧ (((z0 < 0)) ∨ ((¬ (z0 < 0)) ∧ (z1 ≤ z0))) ∧ w = w1) ∨ ((1 : Int32) = r ∧ ((¬ (z0 < 0)) ∧ (¬ (z1 ≤ z0))) ∧ w = w1)) sz) 0 0 (tw_A N ad sz) := by
  refine tw_met (by decide) (Nat.le_of_ble_eq_true rfl) ?_
  intro p e s m args below meth c F hret hlk hin hargs hsz hH ls hl
  have hx := F.1.1
  have hb := F.1.2.1
  have hown := F.1.2.2.2.1
  have hts := F.1.2.2.2.2
  have hl : lv_has ls 2 [(0, .int x0), (1, .int x1)] := hl
  generalize hH0 : s.heap = H at hH ⊢
  refine lv_iload_n hx hb dX11_isIndex_0 rfl (lv_at hl 0 rfl) ?_
  refine lv_if_lt (tgt := 13) hx hb dX11_isIndex_1 (by decide) (fun c1 => ?_) (fun c1 => ?_)
  · have c1 := (tw_lt e0 (by decide : (0 : Int32).toInt = 0)).mp c1
    refine lv_iconst (v := 0) hx hb dX11_isIndex_13 (by decide) ?_
    exact tw_iret F hH hret hlk rfl (Nat.le_of_ble_eq_true rfl) (Nat.le_of_ble_eq_true rfl) dX11_isIndex_14 (Or.inl (⟨rfl, (by omega), rfl⟩))
  · have c1 := mt (tw_lt e0 (by decide : (0 : Int32).toInt = 0)).mpr c1
    refine lv_iload_n hx hb dX11_isIndex_4 rfl (lv_at hl 0 rfl) ?_
    refine lv_iload_n hx hb dX11_isIndex_5 rfl (lv_at hl 1 rfl) ?_
    refine lv_icmp_ge (tgt := 13) hx hb dX11_isIndex_6 (by decide) (fun c2 => ?_) (fun c2 => ?_)
    · have c2 := (tw_le e1 e0).mp c2
      refine lv_iconst (v := 0) hx hb dX11_isIndex_13 (by decide) ?_
      exact tw_iret F hH hret hlk rfl (Nat.le_of_ble_eq_true rfl) (Nat.le_of_ble_eq_true rfl) dX11_isIndex_14 (Or.inl (⟨rfl, (by omega), rfl⟩))
    · have c2 := mt (tw_le e1 e0).mpr c2
      refine lv_iconst (v := 1) hx hb dX11_isIndex_9 (by decide) ?_
      refine lv_goto (tgt := 14) hx hb dX11_isIndex_10 (by decide) ?_
      exact tw_iret F hH hret hlk rfl (Nat.le_of_ble_eq_true rfl) (Nat.le_of_ble_eq_true rfl) dX11_isIndex_14 (Or.inr (⟨rfl, (by omega), rfl⟩))
set_option maxHeartbeats 4000000 in
set_option maxRecDepth 100000 in
theorem c_X9_hasSector (l : Launch) (G : tw_G) (ad : Nat → Nat) (w : Nat → va_E) (sz : Nat) (x1 : Int32) (z1 : Int) (e1 : x1.toInt = z1) (hw_4 : w 4 = .inr (9, [.int (2 : Int32), .int (1 : Int32), .ref (ad 5), .ref (ad 6), .ref (ad 7), .ref (ad 8), .ref (ad 9), .ref (ad 10), .ref (ad 12)])) : Met l yX9_hasSector (tw_ws yX9_hasSector cX9_hasSector 2 (some .boolean)) ({ frames := 1, cells := 0, slots := 0, locals := 21 }) (tw_Pre G 244 ad w sz [.ref (ad 4), .int x1]) (tw_Qi G 244 ad (fun r w1 => ((0 : Int32) = r ∧ (((z1 < 0)) ∨ ((¬ (z1 < 0)) ∧ (2 ≤ z1))) ∧ w = w1) ∨ ((1 : Int32) = r ∧ ((¬ (z1 < 0)) ∧ (¬ (2 ≤ z1))) ∧ w = w1)) sz) 0 0 (tw_A 244 ad sz) := by
  refine tw_met (by decide) (Nat.le_of_ble_eq_true rfl) ?_
  intro p e s m args below meth c F hret hlk hin hargs hsz hH ls hl
  have hx := F.1.1
  have hb := F.1.2.1
  have hown := F.1.2.2.2.1
  have hts := F.1.2.2.2.2
  have hl : lv_has ls 2 [(0, .ref (ad 4)), (1, .int x1)] := hl
  generalize hH0 : s.heap = H at hH ⊢
  refine lv_iload_n hx hb dX9_hasSector_0 rfl (lv_at hl 1 rfl) ?_
  refine lv_aload_n hx hb dX9_hasSector_1 rfl (lv_at hl 0 rfl) ?_
  refine tw_get (r := 4) F hH kf_RX9_49 rfl (by omega) hw_4 rfl dX9_hasSector_2 ?_
  refine tw_calli F hH (tw_runSN (host := "RaceByLaps") (As := [.int x1, .int (2 : Int32)]) (rest := []) F hH (c_X11_isIndex l G 244 ad w H.size x1 (z1) e1 (2 : Int32) 2 (by decide : (2 : Int32).toInt = 2)) (by decide) km_X11_isIndex (tw_gl kw_562 rfl) rfl rfl ⟨(Nat.le_of_ble_eq_true rfl), (Nat.le_of_ble_eq_true rfl)⟩ rfl hl.1 rfl (Nat.le_of_ble_eq_true rfl) dX9_hasSector_5 ⟨(Nat.le_of_ble_eq_true rfl), (Nat.le_of_ble_eq_true rfl)⟩) (fun r3 w1 H locs hp2 _ hH => ?_)
  rcases hp2 with ⟨rfl, hc4, rfl⟩ | ⟨rfl, hc5, rfl⟩
  · skip
    exact tw_iret F hH hret hlk rfl (Nat.le_of_ble_eq_true rfl) (Nat.le_of_ble_eq_true rfl) dX9_hasSector_8 (Or.inl (⟨rfl, (by omega), rfl⟩))
  · skip
    exact tw_iret F hH hret hlk rfl (Nat.le_of_ble_eq_true rfl) (Nat.le_of_ble_eq_true rfl) dX9_hasSector_8 (Or.inr (⟨rfl, (by omega), rfl⟩))
set_option maxHeartbeats 4000000 in
set_option maxRecDepth 100000 in
theorem c_X11_isWithin (l : Launch) (G : tw_G) (N : Nat) (ad : Nat → Nat) (w : Nat → va_E) (sz : Nat) (x0 : Int32) (z0 : Int) (e0 : x0.toInt = z0) (x1 : Int32) (z1 : Int) (e1 : x1.toInt = z1) (x2 : Int32) (z2 : Int) (e2 : x2.toInt = z2) : Met l yX11_isWithin (tw_ws yX11_isWithin cX11_isWithin 3 (some .boolean)) ({ frames := 0, cells := 0, slots := 0, locals := 0 }) (tw_Pre G N ad w sz [.int x0, .int x1, .int x2]) (tw_Qi G N ad (fun r w1 => ((0 : Int32) = r ∧ (((z0 < z1)) ∨ ((¬ (z0 < z1)) ∧ (z2 < z0))) ∧ w = w1) ∨ ((1 : Int32) = r ∧ ((¬ (z0 < z1)) ∧ (¬ (z2 < z0))) ∧ w = w1)) sz) 0 0 (tw_A N ad sz) := by
  refine tw_met (by decide) (Nat.le_of_ble_eq_true rfl) ?_
  intro p e s m args below meth c F hret hlk hin hargs hsz hH ls hl
  have hx := F.1.1
  have hb := F.1.2.1
  have hown := F.1.2.2.2.1
  have hts := F.1.2.2.2.2
  have hl : lv_has ls 3 [(0, .int x0), (1, .int x1), (2, .int x2)] := hl
  generalize hH0 : s.heap = H at hH ⊢
  refine lv_iload_n hx hb dX11_isWithin_0 rfl (lv_at hl 0 rfl) ?_
  refine lv_iload_n hx hb dX11_isWithin_1 rfl (lv_at hl 1 rfl) ?_
  refine lv_icmp_lt (tgt := 14) hx hb dX11_isWithin_2 (by decide) (fun c1 => ?_) (fun c1 => ?_)
  · have c1 := (tw_lt e0 e1).mp c1
    refine lv_iconst (v := 0) hx hb dX11_isWithin_14 (by decide) ?_
    exact tw_iret F hH hret hlk rfl (Nat.le_of_ble_eq_true rfl) (Nat.le_of_ble_eq_true rfl) dX11_isWithin_15 (Or.inl (⟨rfl, (by omega), rfl⟩))
  · have c1 := mt (tw_lt e0 e1).mpr c1
    refine lv_iload_n hx hb dX11_isWithin_5 rfl (lv_at hl 0 rfl) ?_
    refine lv_iload_n hx hb dX11_isWithin_6 rfl (lv_at hl 2 rfl) ?_
    refine lv_icmp_gt (tgt := 14) hx hb dX11_isWithin_7 (by decide) (fun c2 => ?_) (fun c2 => ?_)
    · have c2 := (tw_lt e2 e0).mp c2
      refine lv_iconst (v := 0) hx hb dX11_isWithin_14 (by decide) ?_
      exact tw_iret F hH hret hlk rfl (Nat.le_of_ble_eq_true rfl) (Nat.le_of_ble_eq_true rfl) dX11_isWithin_15 (Or.inl (⟨rfl, (by omega), rfl⟩))
    · have c2 := mt (tw_lt e2 e0).mpr c2
      refine lv_iconst (v := 1) hx hb dX11_isWithin_10 (by decide) ?_
      refine lv_goto (tgt := 15) hx hb dX11_isWithin_11 (by decide) ?_
      exact tw_iret F hH hret hlk rfl (Nat.le_of_ble_eq_true rfl) (Nat.le_of_ble_eq_true rfl) dX11_isWithin_15 (Or.inr (⟨rfl, (by omega), rfl⟩))
set_option maxHeartbeats 4000000 in
set_option maxRecDepth 100000 in
theorem c_X11_sector (l : Launch) (G : tw_G) (ad : Nat → Nat) (w : Nat → va_E) (sz : Nat) (x1 : Int32) (z1 : Int) (e1 : x1.toInt = z1) (x2 : Int32) (z2 : Int) (e2 : x2.toInt = z2) (x3 : Int32) (z3 : Int) (e3 : x3.toInt = z3) (hw_0 : w 0 = .inr (11, [.ref (ad 4), .ref (ad 14), .ref (ad 156), .ref (ad 221), .ref (ad 225), .ref (ad 233), .ref (ad 236), .int (0 : Int32), .ref (ad 237), .int (0 : Int32), .ref (ad 238)])) (hw_4 : w 4 = .inr (9, [.int (2 : Int32), .int (1 : Int32), .ref (ad 5), .ref (ad 6), .ref (ad 7), .ref (ad 8), .ref (ad 9), .ref (ad 10), .ref (ad 12)])) (hw_5 : w 5 = .inl (G.2.1 0, 5, .inl (upd (upd (upd (upd (upd (fun _ => 0) 0 (20000 : Int32)) 1 (20000 : Int32)) 2 (20000 : Int32)) 3 (20000 : Int32)) 4 (20000 : Int32)))) (hw_6 : w 6 = .inl (G.2.1 0, 5, .inl (upd (upd (upd (upd (upd (fun _ => 0) 0 (300 : Int32)) 1 (300 : Int32)) 2 (300 : Int32)) 3 (300 : Int32)) 4 (300 : Int32)))) (hw_14 : w 14 = .inr (2, [.ref (ad 4), .ref (ad 1), .ref (ad 15), .ref (ad 16), .ref (ad 17), .int (0 : Int32), .int (0 : Int32), .int (0 : Int32)])) : Met l yX11_sector (tw_ws yX11_sector cX11_sector 4 (some .boolean)) ({ frames := 2, cells := 0, slots := 0, locals := 42 }) (tw_Pre G 244 ad w sz [.ref (ad 0), .int x1, .int x2, .int x3]) (tw_Qi G 244 ad (fun r w1 => ((0 : Int32) = r ∧ ((((((z1 < 0)) ∨ ((¬ (z1 < 0)) ∧ (2 ≤ z1))))) ∨ ((((¬ (z1 < 0)) ∧ (¬ (2 ≤ z1)))) ∧ (((z2 < 5000)) ∨ ((¬ (z2 < 5000)) ∧ (60000 < z2)))) ∨ ((((¬ (z1 < 0)) ∧ (¬ (2 ≤ z1)))) ∧ ((¬ (z2 < 5000)) ∧ (¬ (60000 < z2))) ∧ (((z3 < (-1))) ∨ ((¬ (z3 < (-1))) ∧ (5000 < z3)))))) ∨ ((1 : Int32) = r ∧ (((((¬ (z1 < 0)) ∧ (¬ (2 ≤ z1)))) ∧ ((¬ (z2 < 5000)) ∧ (¬ (60000 < z2))) ∧ ((¬ (z3 < (-1))) ∧ (¬ (5000 < z3))) ∧ (z1 = 0)) ∨ ((((¬ (z1 < 0)) ∧ (¬ (2 ≤ z1)))) ∧ ((¬ (z2 < 5000)) ∧ (¬ (60000 < z2))) ∧ ((¬ (z3 < (-1))) ∧ (¬ (5000 < z3))) ∧ (z1 = 1))))) sz) 0 0 (tw_A 244 ad sz) := by
  refine tw_met (by decide) (Nat.le_of_ble_eq_true rfl) ?_
  intro p e s m args below meth c F hret hlk hin hargs hsz hH ls hl
  have hx := F.1.1
  have hb := F.1.2.1
  have hown := F.1.2.2.2.1
  have hts := F.1.2.2.2.2
  have hl : lv_has ls 4 [(0, .ref (ad 0)), (1, .int x1), (2, .int x2), (3, .int x3)] := hl
  generalize hH0 : s.heap = H at hH ⊢
  refine lv_aload_n hx hb dX11_sector_0 rfl (lv_at hl 0 rfl) ?_
  refine tw_get (r := 0) F hH kf_RX11_15 rfl (by omega) hw_0 rfl dX11_sector_1 ?_
  refine lv_iload_n hx hb dX11_sector_4 rfl (lv_at hl 1 rfl) ?_
  refine tw_calli F hH (tw_runV (r := 4) (As := [.int x1]) (rest := []) F hH (c_X9_hasSector l G ad w H.size x1 (z1) e1 hw_4) (tw_gl kw_557 rfl) km_X9_hasSector kv_X9_hasSector rfl rfl ⟨(Nat.le_of_ble_eq_true rfl), (Nat.le_of_ble_eq_true rfl)⟩ (by omega) hw_4 rfl rfl hl.1 rfl (Nat.le_of_ble_eq_true rfl) dX11_sector_5 ⟨(Nat.le_of_ble_eq_true rfl), (Nat.le_of_ble_eq_true rfl)⟩) (fun r3 w1 H locs hp2 _ hH => ?_)
  rcases hp2 with ⟨rfl, hc4, rfl⟩ | ⟨rfl, hc5, rfl⟩
  · skip
    refine lv_if_eq (tgt := 34) hx hb dX11_sector_8 (by decide) (fun _ => ?_) (fun c => absurd c (by decide))
    refine lv_iconst (v := 0) hx hb dX11_sector_34 (by decide) ?_
    exact tw_iret F hH hret hlk rfl (Nat.le_of_ble_eq_true rfl) (Nat.le_of_ble_eq_true rfl) dX11_sector_35 (Or.inl (⟨rfl, (by omega)⟩))
  · skip
    refine lv_if_eq (tgt := 34) hx hb dX11_sector_8 (by decide) (fun c => absurd c (by decide)) (fun _ => ?_)
    refine lv_iload_n hx hb dX11_sector_11 rfl (lv_at hl 2 rfl) ?_
    refine lv_sipush (v := 5000) hx hb dX11_sector_12 (by decide) ?_
    refine lv_ldc (v := 60000) hx hb hown (hts _ (tw_gl kw_564 rfl)) dX11_sector_15 ?_
    refine tw_calli F hH (tw_runS (As := [.int x2, .int (5000 : Int32), .int (60000 : Int32)]) (rest := []) F hH (c_X11_isWithin l G 244 ad w H.size x2 (z2) e2 (5000 : Int32) 5000 (by decide : (5000 : Int32).toInt = 5000) (60000 : Int32) 60000 (by decide : (60000 : Int32).toInt = 60000)) (tw_gl kw_565 rfl) km_X11_isWithin (tw_gl kw_566 rfl) rfl rfl ⟨(Nat.le_of_ble_eq_true rfl), (Nat.le_of_ble_eq_true rfl)⟩ rfl hl.1 rfl (Nat.le_of_ble_eq_true rfl) dX11_sector_17 ⟨(Nat.le_of_ble_eq_true rfl), (Nat.le_of_ble_eq_true rfl)⟩) (fun r10 w8 H locs hp9 _ hH => ?_)
    rcases hp9 with ⟨rfl, hc11, rfl⟩ | ⟨rfl, hc12, rfl⟩
    · skip
      refine lv_if_eq (tgt := 34) hx hb dX11_sector_20 (by decide) (fun _ => ?_) (fun c => absurd c (by decide))
      refine lv_iconst (v := 0) hx hb dX11_sector_34 (by decide) ?_
      exact tw_iret F hH hret hlk rfl (Nat.le_of_ble_eq_true rfl) (Nat.le_of_ble_eq_true rfl) dX11_sector_35 (Or.inl (⟨rfl, (by omega)⟩))
    · skip
      refine lv_if_eq (tgt := 34) hx hb dX11_sector_20 (by decide) (fun c => absurd c (by decide)) (fun _ => ?_)
      refine lv_iload_n hx hb dX11_sector_23 rfl (lv_at hl 3 rfl) ?_
      refine lv_iconst (v := -1) hx hb dX11_sector_24 (by decide) ?_
      refine lv_sipush (v := 5000) hx hb dX11_sector_25 (by decide) ?_
      refine tw_calli F hH (tw_runS (As := [.int x3, .int (-1 : Int32), .int (5000 : Int32)]) (rest := []) F hH (c_X11_isWithin l G 244 ad w H.size x3 (z3) e3 (-1 : Int32) (-1) (by decide : (-1 : Int32).toInt = -1) (5000 : Int32) 5000 (by decide : (5000 : Int32).toInt = 5000)) (tw_gl kw_565 rfl) km_X11_isWithin (tw_gl kw_566 rfl) rfl rfl ⟨(Nat.le_of_ble_eq_true rfl), (Nat.le_of_ble_eq_true rfl)⟩ rfl hl.1 rfl (Nat.le_of_ble_eq_true rfl) dX11_sector_28 ⟨(Nat.le_of_ble_eq_true rfl), (Nat.le_of_ble_eq_true rfl)⟩) (fun r17 w15 H locs hp16 _ hH => ?_)
      rcases hp16 with ⟨rfl, hc18, rfl⟩ | ⟨rfl, hc19, rfl⟩
      · skip
        refine lv_if_ne (tgt := 36) hx hb dX11_sector_31 (by decide) (fun c => absurd c (by decide)) (fun _ => ?_)
        refine lv_iconst (v := 0) hx hb dX11_sector_34 (by decide) ?_
        exact tw_iret F hH hret hlk rfl (Nat.le_of_ble_eq_true rfl) (Nat.le_of_ble_eq_true rfl) dX11_sector_35 (Or.inl (⟨rfl, (by omega)⟩))
      · skip
        refine lv_if_ne (tgt := 36) hx hb dX11_sector_31 (by decide) (fun _ => ?_) (fun c => absurd c (by decide))
        refine lv_aload_n hx hb dX11_sector_36 rfl (lv_at hl 0 rfl) ?_
        refine tw_get (r := 0) F hH kf_RX11_15 rfl (by omega) hw_0 rfl dX11_sector_37 ?_
        refine tw_get (r := 4) F hH kf_RX11_109 rfl (by omega) hw_4 rfl dX11_sector_40 ?_
        refine lv_iload_n hx hb dX11_sector_43 rfl (lv_at hl 1 rfl) ?_
        refine lv_iload_n hx hb dX11_sector_44 rfl (lv_at hl 2 rfl) ?_
        rcases (by omega : z1 = 0 ∨ z1 = 1) with hz22 | hz22
        · skip
          obtain rfl : (0 : Int32) = x1 := (Int32.toInt_inj.mp ((e1.trans hz22).trans (by decide : (0 : Int) = (0 : Int32).toInt))).symm
          refine tw_iast (r := 5) (j := 0) F hH rfl (by omega) hw_5 (by decide) (by decide) dX11_sector_45 (fun H locs w23 hw24 hne25 hH => ?_)
          refine lv_aload_n hx hb dX11_sector_46 rfl (lv_at hl 0 rfl) ?_
          have hw26 : w23 0 = .inr (11, [.ref (ad 4), .ref (ad 14), .ref (ad 156), .ref (ad 221), .ref (ad 225), .ref (ad 233), .ref (ad 236), .int (0 : Int32), .ref (ad 237), .int (0 : Int32), .ref (ad 238)]) := (hne25 0 (by omega)).trans (hw_0)
          refine tw_get (r := 0) F hH kf_RX11_15 rfl (by omega) hw26 rfl dX11_sector_47 ?_
          have hw27 : w23 4 = .inr (9, [.int (2 : Int32), .int (1 : Int32), .ref (ad 5), .ref (ad 6), .ref (ad 7), .ref (ad 8), .ref (ad 9), .ref (ad 10), .ref (ad 12)]) := (hne25 4 (by omega)).trans (hw_4)
          refine tw_get (r := 4) F hH kf_RX11_112 rfl (by omega) hw27 rfl dX11_sector_50 ?_
          refine lv_iload_n hx hb dX11_sector_53 rfl (lv_at hl 1 rfl) ?_
          refine lv_iload_n hx hb dX11_sector_54 rfl (lv_at hl 3 rfl) ?_
          have hw28 : w23 6 = .inl (G.2.1 0, 5, .inl (upd (upd (upd (upd (upd (fun _ => 0) 0 (300 : Int32)) 1 (300 : Int32)) 2 (300 : Int32)) 3 (300 : Int32)) 4 (300 : Int32))) := (hne25 6 (by omega)).trans (hw_6)
          refine tw_iast (r := 6) (j := 0) F hH rfl (by omega) hw28 (by decide) (by decide) dX11_sector_55 (fun H locs w29 hw30 hne31 hH => ?_)
          refine lv_aload_n hx hb dX11_sector_56 rfl (lv_at hl 0 rfl) ?_
          have hw32 : w29 0 = .inr (11, [.ref (ad 4), .ref (ad 14), .ref (ad 156), .ref (ad 221), .ref (ad 225), .ref (ad 233), .ref (ad 236), .int (0 : Int32), .ref (ad 237), .int (0 : Int32), .ref (ad 238)]) := (hne31 0 (by omega)).trans (hw26)
          refine tw_get (r := 0) F hH kf_RX11_24 rfl (by omega) hw32 rfl dX11_sector_57 ?_
          refine lv_iconst (v := 0) hx hb dX11_sector_60 (by decide) ?_
          have hw33 : w29 14 = .inr (2, [.ref (ad 4), .ref (ad 1), .ref (ad 15), .ref (ad 16), .ref (ad 17), .int (0 : Int32), .int (0 : Int32), .int (0 : Int32)]) := (hne31 14 (by omega)).trans ((hne25 14 (by omega)).trans (hw_14))
          refine tw_put (r := 14) F hH kf_RX11_84 kp_X2_7 rfl (by omega) hw33 (Nat.le_of_ble_eq_true rfl) rfl rfl dX11_sector_61 (fun H locs w34 hw35 hne36 hH => ?_)
          have hw35 : w34 14 = .inr (2, [.ref (ad 4), .ref (ad 1), .ref (ad 15), .ref (ad 16), .ref (ad 17), .int (0 : Int32), .int (0 : Int32), .int (0 : Int32)]) := hw35
          refine lv_iconst (v := 1) hx hb dX11_sector_64 (by decide) ?_
          exact tw_iret F hH hret hlk rfl (Nat.le_of_ble_eq_true rfl) (Nat.le_of_ble_eq_true rfl) dX11_sector_65 (Or.inr (⟨rfl, (by omega)⟩))
        · skip
          obtain rfl : (1 : Int32) = x1 := (Int32.toInt_inj.mp ((e1.trans hz22).trans (by decide : (1 : Int) = (1 : Int32).toInt))).symm
          refine tw_iast (r := 5) (j := 1) F hH rfl (by omega) hw_5 (by decide) (by decide) dX11_sector_45 (fun H locs w37 hw38 hne39 hH => ?_)
          refine lv_aload_n hx hb dX11_sector_46 rfl (lv_at hl 0 rfl) ?_
          have hw40 : w37 0 = .inr (11, [.ref (ad 4), .ref (ad 14), .ref (ad 156), .ref (ad 221), .ref (ad 225), .ref (ad 233), .ref (ad 236), .int (0 : Int32), .ref (ad 237), .int (0 : Int32), .ref (ad 238)]) := (hne39 0 (by omega)).trans (hw_0)
          refine tw_get (r := 0) F hH kf_RX11_15 rfl (by omega) hw40 rfl dX11_sector_47 ?_
          have hw41 : w37 4 = .inr (9, [.int (2 : Int32), .int (1 : Int32), .ref (ad 5), .ref (ad 6), .ref (ad 7), .ref (ad 8), .ref (ad 9), .ref (ad 10), .ref (ad 12)]) := (hne39 4 (by omega)).trans (hw_4)
          refine tw_get (r := 4) F hH kf_RX11_112 rfl (by omega) hw41 rfl dX11_sector_50 ?_
          refine lv_iload_n hx hb dX11_sector_53 rfl (lv_at hl 1 rfl) ?_
          refine lv_iload_n hx hb dX11_sector_54 rfl (lv_at hl 3 rfl) ?_
          have hw42 : w37 6 = .inl (G.2.1 0, 5, .inl (upd (upd (upd (upd (upd (fun _ => 0) 0 (300 : Int32)) 1 (300 : Int32)) 2 (300 : Int32)) 3 (300 : Int32)) 4 (300 : Int32))) := (hne39 6 (by omega)).trans (hw_6)
          refine tw_iast (r := 6) (j := 1) F hH rfl (by omega) hw42 (by decide) (by decide) dX11_sector_55 (fun H locs w43 hw44 hne45 hH => ?_)
          refine lv_aload_n hx hb dX11_sector_56 rfl (lv_at hl 0 rfl) ?_
          have hw46 : w43 0 = .inr (11, [.ref (ad 4), .ref (ad 14), .ref (ad 156), .ref (ad 221), .ref (ad 225), .ref (ad 233), .ref (ad 236), .int (0 : Int32), .ref (ad 237), .int (0 : Int32), .ref (ad 238)]) := (hne45 0 (by omega)).trans (hw40)
          refine tw_get (r := 0) F hH kf_RX11_24 rfl (by omega) hw46 rfl dX11_sector_57 ?_
          refine lv_iconst (v := 0) hx hb dX11_sector_60 (by decide) ?_
          have hw47 : w43 14 = .inr (2, [.ref (ad 4), .ref (ad 1), .ref (ad 15), .ref (ad 16), .ref (ad 17), .int (0 : Int32), .int (0 : Int32), .int (0 : Int32)]) := (hne45 14 (by omega)).trans ((hne39 14 (by omega)).trans (hw_14))
          refine tw_put (r := 14) F hH kf_RX11_84 kp_X2_7 rfl (by omega) hw47 (Nat.le_of_ble_eq_true rfl) rfl rfl dX11_sector_61 (fun H locs w48 hw49 hne50 hH => ?_)
          have hw49 : w48 14 = .inr (2, [.ref (ad 4), .ref (ad 1), .ref (ad 15), .ref (ad 16), .ref (ad 17), .int (0 : Int32), .int (0 : Int32), .int (0 : Int32)]) := hw49
          refine lv_iconst (v := 1) hx hb dX11_sector_64 (by decide) ?_
          exact tw_iret F hH hret hlk rfl (Nat.le_of_ble_eq_true rfl) (Nat.le_of_ble_eq_true rfl) dX11_sector_65 (Or.inr (⟨rfl, (by omega)⟩))
set_option maxHeartbeats 4000000 in
set_option maxRecDepth 100000 in
theorem c_X9_tyreNumber (l : Launch) (G : tw_G) (ad : Nat → Nat) (w : Nat → va_E) (sz : Nat) (x1 : Int32) (z1 : Int) (e1 : x1.toInt = z1) (hw_4 : w 4 = .inr (9, [.int (2 : Int32), .int (1 : Int32), .ref (ad 5), .ref (ad 6), .ref (ad 7), .ref (ad 8), .ref (ad 9), .ref (ad 10), .ref (ad 12)])) (hw_8 : w 8 = .inl (G.2.1 0, 24, .inl (upd (upd (upd (upd (upd (upd (upd (upd (upd (upd (upd (upd (upd (upd (upd (upd (upd (upd (upd (upd (upd (upd (upd (upd (fun _ => 0) 0 (0 : Int32)) 1 (10 : Int32)) 2 (40 : Int32)) 3 (1000 : Int32)) 4 (0 : Int32)) 5 (5 : Int32)) 6 (0 : Int32)) 7 (10 : Int32)) 8 (40 : Int32)) 9 (1000 : Int32)) 10 (0 : Int32)) 11 (5 : Int32)) 12 (0 : Int32)) 13 (10 : Int32)) 14 (40 : Int32)) 15 (1000 : Int32)) 16 (0 : Int32)) 17 (5 : Int32)) 18 (0 : Int32)) 19 (10 : Int32)) 20 (40 : Int32)) 21 (1000 : Int32)) 22 (0 : Int32)) 23 (5 : Int32)))) : Met l yX9_tyreNumber (tw_ws yX9_tyreNumber cX9_tyreNumber 3 (some .int)) ({ frames := 1, cells := 0, slots := 0, locals := 21 }) (tw_Pre G 244 ad w sz [.ref (ad 4), .int x1, .int (0 : Int32)]) (tw_Qi G 244 ad (fun r w1 => ((0 : Int32) = r ∧ (((((z1 < 0)) ∨ ((¬ (z1 < 0)) ∧ (4 ≤ z1)))) ∨ (((¬ (z1 < 0)) ∧ (¬ (4 ≤ z1))) ∧ ((¬ (0 < 0)) ∧ (¬ (6 ≤ 0))) ∧ (z1 = 0)) ∨ (((¬ (z1 < 0)) ∧ (¬ (4 ≤ z1))) ∧ ((¬ (0 < 0)) ∧ (¬ (6 ≤ 0))) ∧ (z1 = 1)) ∨ (((¬ (z1 < 0)) ∧ (¬ (4 ≤ z1))) ∧ ((¬ (0 < 0)) ∧ (¬ (6 ≤ 0))) ∧ (z1 = 2)) ∨ (((¬ (z1 < 0)) ∧ (¬ (4 ≤ z1))) ∧ ((¬ (0 < 0)) ∧ (¬ (6 ≤ 0))) ∧ (z1 = 3))) ∧ w = w1)) sz) 0 0 (tw_A 244 ad sz) := by
  refine tw_met (by decide) (Nat.le_of_ble_eq_true rfl) ?_
  intro p e s m args below meth c F hret hlk hin hargs hsz hH ls hl
  have hx := F.1.1
  have hb := F.1.2.1
  have hown := F.1.2.2.2.1
  have hts := F.1.2.2.2.2
  have hl : lv_has ls 3 [(0, .ref (ad 4)), (1, .int x1), (2, .int (0 : Int32))] := hl
  generalize hH0 : s.heap = H at hH ⊢
  refine lv_iload_n hx hb dX9_tyreNumber_0 rfl (lv_at hl 1 rfl) ?_
  refine lv_iconst (v := 4) hx hb dX9_tyreNumber_1 (by decide) ?_
  refine tw_calli F hH (tw_runSN (host := "RaceByLaps") (As := [.int x1, .int (4 : Int32)]) (rest := []) F hH (c_X11_isIndex l G 244 ad w H.size x1 (z1) e1 (4 : Int32) 4 (by decide : (4 : Int32).toInt = 4)) (by decide) km_X11_isIndex (tw_gl kw_562 rfl) rfl rfl ⟨(Nat.le_of_ble_eq_true rfl), (Nat.le_of_ble_eq_true rfl)⟩ rfl hl.1 rfl (Nat.le_of_ble_eq_true rfl) dX9_tyreNumber_2 ⟨(Nat.le_of_ble_eq_true rfl), (Nat.le_of_ble_eq_true rfl)⟩) (fun r3 w1 H locs hp2 _ hH => ?_)
  rcases hp2 with ⟨rfl, hc4, rfl⟩ | ⟨rfl, hc5, rfl⟩
  · skip
    refine lv_if_eq (tgt := 17) hx hb dX9_tyreNumber_5 (by decide) (fun _ => ?_) (fun c => absurd c (by decide))
    refine lv_iconst (v := 0) hx hb dX9_tyreNumber_17 (by decide) ?_
    exact tw_iret F hH hret hlk rfl (Nat.le_of_ble_eq_true rfl) (Nat.le_of_ble_eq_true rfl) dX9_tyreNumber_18 (⟨rfl, (by omega), rfl⟩)
  · skip
    refine lv_if_eq (tgt := 17) hx hb dX9_tyreNumber_5 (by decide) (fun c => absurd c (by decide)) (fun _ => ?_)
    refine lv_iload_n hx hb dX9_tyreNumber_8 rfl (lv_at hl 2 rfl) ?_
    refine lv_bipush (v := 6) hx hb dX9_tyreNumber_9 (by decide) ?_
    refine tw_calli F hH (tw_runSN (host := "RaceByLaps") (As := [.int (0 : Int32), .int (6 : Int32)]) (rest := []) F hH (c_X11_isIndex l G 244 ad w H.size (0 : Int32) 0 (by decide : (0 : Int32).toInt = 0) (6 : Int32) 6 (by decide : (6 : Int32).toInt = 6)) (by decide) km_X11_isIndex (tw_gl kw_562 rfl) rfl rfl ⟨(Nat.le_of_ble_eq_true rfl), (Nat.le_of_ble_eq_true rfl)⟩ rfl hl.1 rfl (Nat.le_of_ble_eq_true rfl) dX9_tyreNumber_11 ⟨(Nat.le_of_ble_eq_true rfl), (Nat.le_of_ble_eq_true rfl)⟩) (fun r10 w8 H locs hp9 _ hH => ?_)
    rcases hp9 with ⟨rfl, hc11, rfl⟩ | ⟨rfl, hc12, rfl⟩
    · exfalso; omega
    · skip
      refine lv_if_ne (tgt := 19) hx hb dX9_tyreNumber_14 (by decide) (fun _ => ?_) (fun c => absurd c (by decide))
      refine lv_aload_n hx hb dX9_tyreNumber_19 rfl (lv_at hl 0 rfl) ?_
      refine tw_get (r := 4) F hH kf_RX9_22 rfl (by omega) hw_4 rfl dX9_tyreNumber_20 ?_
      refine lv_iload_n hx hb dX9_tyreNumber_23 rfl (lv_at hl 1 rfl) ?_
      refine lv_bipush (v := 6) hx hb dX9_tyreNumber_24 (by decide) ?_
      rcases (by omega : z1 = 0 ∨ z1 = 1 ∨ z1 = 2 ∨ z1 = 3) with hz14 | hz14 | hz14 | hz14
      · skip
        obtain rfl : (0 : Int32) = x1 := (Int32.toInt_inj.mp ((e1.trans hz14).trans (by decide : (0 : Int) = (0 : Int32).toInt))).symm
        refine lv_imul hx hb dX9_tyreNumber_26 ?_
        refine tw_cv (v := (0 : Int32)) (by decide) ?_
        refine lv_iload_n hx hb dX9_tyreNumber_27 rfl (lv_at hl 2 rfl) ?_
        refine lv_iadd hx hb dX9_tyreNumber_28 ?_
        refine tw_cv (v := (0 : Int32)) (by decide) ?_
        refine tw_iald (r := 8) (j := 0) (v := (0 : Int32)) F hH rfl (by omega) hw_8 (by decide) (by decide) rfl dX9_tyreNumber_29 ?_
        exact tw_iret F hH hret hlk rfl (Nat.le_of_ble_eq_true rfl) (Nat.le_of_ble_eq_true rfl) dX9_tyreNumber_30 (⟨rfl, (by omega), rfl⟩)
      · skip
        obtain rfl : (1 : Int32) = x1 := (Int32.toInt_inj.mp ((e1.trans hz14).trans (by decide : (1 : Int) = (1 : Int32).toInt))).symm
        refine lv_imul hx hb dX9_tyreNumber_26 ?_
        refine tw_cv (v := (6 : Int32)) (by decide) ?_
        refine lv_iload_n hx hb dX9_tyreNumber_27 rfl (lv_at hl 2 rfl) ?_
        refine lv_iadd hx hb dX9_tyreNumber_28 ?_
        refine tw_cv (v := (6 : Int32)) (by decide) ?_
        refine tw_iald (r := 8) (j := 6) (v := (0 : Int32)) F hH rfl (by omega) hw_8 (by decide) (by decide) rfl dX9_tyreNumber_29 ?_
        exact tw_iret F hH hret hlk rfl (Nat.le_of_ble_eq_true rfl) (Nat.le_of_ble_eq_true rfl) dX9_tyreNumber_30 (⟨rfl, (by omega), rfl⟩)
      · skip
        obtain rfl : (2 : Int32) = x1 := (Int32.toInt_inj.mp ((e1.trans hz14).trans (by decide : (2 : Int) = (2 : Int32).toInt))).symm
        refine lv_imul hx hb dX9_tyreNumber_26 ?_
        refine tw_cv (v := (12 : Int32)) (by decide) ?_
        refine lv_iload_n hx hb dX9_tyreNumber_27 rfl (lv_at hl 2 rfl) ?_
        refine lv_iadd hx hb dX9_tyreNumber_28 ?_
        refine tw_cv (v := (12 : Int32)) (by decide) ?_
        refine tw_iald (r := 8) (j := 12) (v := (0 : Int32)) F hH rfl (by omega) hw_8 (by decide) (by decide) rfl dX9_tyreNumber_29 ?_
        exact tw_iret F hH hret hlk rfl (Nat.le_of_ble_eq_true rfl) (Nat.le_of_ble_eq_true rfl) dX9_tyreNumber_30 (⟨rfl, (by omega), rfl⟩)
      · skip
        obtain rfl : (3 : Int32) = x1 := (Int32.toInt_inj.mp ((e1.trans hz14).trans (by decide : (3 : Int) = (3 : Int32).toInt))).symm
        refine lv_imul hx hb dX9_tyreNumber_26 ?_
        refine tw_cv (v := (18 : Int32)) (by decide) ?_
        refine lv_iload_n hx hb dX9_tyreNumber_27 rfl (lv_at hl 2 rfl) ?_
        refine lv_iadd hx hb dX9_tyreNumber_28 ?_
        refine tw_cv (v := (18 : Int32)) (by decide) ?_
        refine tw_iald (r := 8) (j := 18) (v := (0 : Int32)) F hH rfl (by omega) hw_8 (by decide) (by decide) rfl dX9_tyreNumber_29 ?_
        exact tw_iret F hH hret hlk rfl (Nat.le_of_ble_eq_true rfl) (Nat.le_of_ble_eq_true rfl) dX9_tyreNumber_30 (⟨rfl, (by omega), rfl⟩)
set_option maxHeartbeats 4000000 in
set_option maxRecDepth 100000 in
theorem c_X9_tyreNumber_v2 (l : Launch) (G : tw_G) (ad : Nat → Nat) (w : Nat → va_E) (sz : Nat) (x1 : Int32) (z1 : Int) (e1 : x1.toInt = z1) (hw_4 : w 4 = .inr (9, [.int (2 : Int32), .int (1 : Int32), .ref (ad 5), .ref (ad 6), .ref (ad 7), .ref (ad 8), .ref (ad 9), .ref (ad 10), .ref (ad 12)])) (hw_8 : w 8 = .inl (G.2.1 0, 24, .inl (upd (upd (upd (upd (upd (upd (upd (upd (upd (upd (upd (upd (upd (upd (upd (upd (upd (upd (upd (upd (upd (upd (upd (upd (fun _ => 0) 0 (0 : Int32)) 1 (10 : Int32)) 2 (40 : Int32)) 3 (1000 : Int32)) 4 (0 : Int32)) 5 (5 : Int32)) 6 (0 : Int32)) 7 (10 : Int32)) 8 (40 : Int32)) 9 (1000 : Int32)) 10 (0 : Int32)) 11 (5 : Int32)) 12 (0 : Int32)) 13 (10 : Int32)) 14 (40 : Int32)) 15 (1000 : Int32)) 16 (0 : Int32)) 17 (5 : Int32)) 18 (0 : Int32)) 19 (10 : Int32)) 20 (40 : Int32)) 21 (1000 : Int32)) 22 (0 : Int32)) 23 (5 : Int32)))) : Met l yX9_tyreNumber (tw_ws yX9_tyreNumber cX9_tyreNumber 3 (some .int)) ({ frames := 1, cells := 0, slots := 0, locals := 21 }) (tw_Pre G 244 ad w sz [.ref (ad 4), .int x1, .int (1 : Int32)]) (tw_Qi G 244 ad (fun r w1 => ((0 : Int32) = r ∧ (((z1 < 0)) ∨ ((¬ (z1 < 0)) ∧ (4 ≤ z1))) ∧ w = w1) ∨ ((10 : Int32) = r ∧ ((((¬ (z1 < 0)) ∧ (¬ (4 ≤ z1))) ∧ ((¬ (1 < 0)) ∧ (¬ (6 ≤ 1))) ∧ (z1 = 0)) ∨ (((¬ (z1 < 0)) ∧ (¬ (4 ≤ z1))) ∧ ((¬ (1 < 0)) ∧ (¬ (6 ≤ 1))) ∧ (z1 = 1)) ∨ (((¬ (z1 < 0)) ∧ (¬ (4 ≤ z1))) ∧ ((¬ (1 < 0)) ∧ (¬ (6 ≤ 1))) ∧ (z1 = 2)) ∨ (((¬ (z1 < 0)) ∧ (¬ (4 ≤ z1))) ∧ ((¬ (1 < 0)) ∧ (¬ (6 ≤ 1))) ∧ (z1 = 3))) ∧ w = w1)) sz) 0 0 (tw_A 244 ad sz) := by
  refine tw_met (by decide) (Nat.le_of_ble_eq_true rfl) ?_
  intro p e s m args below meth c F hret hlk hin hargs hsz hH ls hl
  have hx := F.1.1
  have hb := F.1.2.1
  have hown := F.1.2.2.2.1
  have hts := F.1.2.2.2.2
  have hl : lv_has ls 3 [(0, .ref (ad 4)), (1, .int x1), (2, .int (1 : Int32))] := hl
  generalize hH0 : s.heap = H at hH ⊢
  refine lv_iload_n hx hb dX9_tyreNumber_0 rfl (lv_at hl 1 rfl) ?_
  refine lv_iconst (v := 4) hx hb dX9_tyreNumber_1 (by decide) ?_
  refine tw_calli F hH (tw_runSN (host := "RaceByLaps") (As := [.int x1, .int (4 : Int32)]) (rest := []) F hH (c_X11_isIndex l G 244 ad w H.size x1 (z1) e1 (4 : Int32) 4 (by decide : (4 : Int32).toInt = 4)) (by decide) km_X11_isIndex (tw_gl kw_562 rfl) rfl rfl ⟨(Nat.le_of_ble_eq_true rfl), (Nat.le_of_ble_eq_true rfl)⟩ rfl hl.1 rfl (Nat.le_of_ble_eq_true rfl) dX9_tyreNumber_2 ⟨(Nat.le_of_ble_eq_true rfl), (Nat.le_of_ble_eq_true rfl)⟩) (fun r3 w1 H locs hp2 _ hH => ?_)
  rcases hp2 with ⟨rfl, hc4, rfl⟩ | ⟨rfl, hc5, rfl⟩
  · skip
    refine lv_if_eq (tgt := 17) hx hb dX9_tyreNumber_5 (by decide) (fun _ => ?_) (fun c => absurd c (by decide))
    refine lv_iconst (v := 0) hx hb dX9_tyreNumber_17 (by decide) ?_
    exact tw_iret F hH hret hlk rfl (Nat.le_of_ble_eq_true rfl) (Nat.le_of_ble_eq_true rfl) dX9_tyreNumber_18 (Or.inl (⟨rfl, (by omega), rfl⟩))
  · skip
    refine lv_if_eq (tgt := 17) hx hb dX9_tyreNumber_5 (by decide) (fun c => absurd c (by decide)) (fun _ => ?_)
    refine lv_iload_n hx hb dX9_tyreNumber_8 rfl (lv_at hl 2 rfl) ?_
    refine lv_bipush (v := 6) hx hb dX9_tyreNumber_9 (by decide) ?_
    refine tw_calli F hH (tw_runSN (host := "RaceByLaps") (As := [.int (1 : Int32), .int (6 : Int32)]) (rest := []) F hH (c_X11_isIndex l G 244 ad w H.size (1 : Int32) 1 (by decide : (1 : Int32).toInt = 1) (6 : Int32) 6 (by decide : (6 : Int32).toInt = 6)) (by decide) km_X11_isIndex (tw_gl kw_562 rfl) rfl rfl ⟨(Nat.le_of_ble_eq_true rfl), (Nat.le_of_ble_eq_true rfl)⟩ rfl hl.1 rfl (Nat.le_of_ble_eq_true rfl) dX9_tyreNumber_11 ⟨(Nat.le_of_ble_eq_true rfl), (Nat.le_of_ble_eq_true rfl)⟩) (fun r10 w8 H locs hp9 _ hH => ?_)
    rcases hp9 with ⟨rfl, hc11, rfl⟩ | ⟨rfl, hc12, rfl⟩
    · exfalso; omega
    · skip
      refine lv_if_ne (tgt := 19) hx hb dX9_tyreNumber_14 (by decide) (fun _ => ?_) (fun c => absurd c (by decide))
      refine lv_aload_n hx hb dX9_tyreNumber_19 rfl (lv_at hl 0 rfl) ?_
      refine tw_get (r := 4) F hH kf_RX9_22 rfl (by omega) hw_4 rfl dX9_tyreNumber_20 ?_
      refine lv_iload_n hx hb dX9_tyreNumber_23 rfl (lv_at hl 1 rfl) ?_
      refine lv_bipush (v := 6) hx hb dX9_tyreNumber_24 (by decide) ?_
      rcases (by omega : z1 = 0 ∨ z1 = 1 ∨ z1 = 2 ∨ z1 = 3) with hz14 | hz14 | hz14 | hz14
      · skip
        obtain rfl : (0 : Int32) = x1 := (Int32.toInt_inj.mp ((e1.trans hz14).trans (by decide : (0 : Int) = (0 : Int32).toInt))).symm
        refine lv_imul hx hb dX9_tyreNumber_26 ?_
        refine tw_cv (v := (0 : Int32)) (by decide) ?_
        refine lv_iload_n hx hb dX9_tyreNumber_27 rfl (lv_at hl 2 rfl) ?_
        refine lv_iadd hx hb dX9_tyreNumber_28 ?_
        refine tw_cv (v := (1 : Int32)) (by decide) ?_
        refine tw_iald (r := 8) (j := 1) (v := (10 : Int32)) F hH rfl (by omega) hw_8 (by decide) (by decide) rfl dX9_tyreNumber_29 ?_
        exact tw_iret F hH hret hlk rfl (Nat.le_of_ble_eq_true rfl) (Nat.le_of_ble_eq_true rfl) dX9_tyreNumber_30 (Or.inr (⟨rfl, (by omega), rfl⟩))
      · skip
        obtain rfl : (1 : Int32) = x1 := (Int32.toInt_inj.mp ((e1.trans hz14).trans (by decide : (1 : Int) = (1 : Int32).toInt))).symm
        refine lv_imul hx hb dX9_tyreNumber_26 ?_
        refine tw_cv (v := (6 : Int32)) (by decide) ?_
        refine lv_iload_n hx hb dX9_tyreNumber_27 rfl (lv_at hl 2 rfl) ?_
        refine lv_iadd hx hb dX9_tyreNumber_28 ?_
        refine tw_cv (v := (7 : Int32)) (by decide) ?_
        refine tw_iald (r := 8) (j := 7) (v := (10 : Int32)) F hH rfl (by omega) hw_8 (by decide) (by decide) rfl dX9_tyreNumber_29 ?_
        exact tw_iret F hH hret hlk rfl (Nat.le_of_ble_eq_true rfl) (Nat.le_of_ble_eq_true rfl) dX9_tyreNumber_30 (Or.inr (⟨rfl, (by omega), rfl⟩))
      · skip
        obtain rfl : (2 : Int32) = x1 := (Int32.toInt_inj.mp ((e1.trans hz14).trans (by decide : (2 : Int) = (2 : Int32).toInt))).symm
        refine lv_imul hx hb dX9_tyreNumber_26 ?_
        refine tw_cv (v := (12 : Int32)) (by decide) ?_
        refine lv_iload_n hx hb dX9_tyreNumber_27 rfl (lv_at hl 2 rfl) ?_
        refine lv_iadd hx hb dX9_tyreNumber_28 ?_
        refine tw_cv (v := (13 : Int32)) (by decide) ?_
        refine tw_iald (r := 8) (j := 13) (v := (10 : Int32)) F hH rfl (by omega) hw_8 (by decide) (by decide) rfl dX9_tyreNumber_29 ?_
        exact tw_iret F hH hret hlk rfl (Nat.le_of_ble_eq_true rfl) (Nat.le_of_ble_eq_true rfl) dX9_tyreNumber_30 (Or.inr (⟨rfl, (by omega), rfl⟩))
      · skip
        obtain rfl : (3 : Int32) = x1 := (Int32.toInt_inj.mp ((e1.trans hz14).trans (by decide : (3 : Int) = (3 : Int32).toInt))).symm
        refine lv_imul hx hb dX9_tyreNumber_26 ?_
        refine tw_cv (v := (18 : Int32)) (by decide) ?_
        refine lv_iload_n hx hb dX9_tyreNumber_27 rfl (lv_at hl 2 rfl) ?_
        refine lv_iadd hx hb dX9_tyreNumber_28 ?_
        refine tw_cv (v := (19 : Int32)) (by decide) ?_
        refine tw_iald (r := 8) (j := 19) (v := (10 : Int32)) F hH rfl (by omega) hw_8 (by decide) (by decide) rfl dX9_tyreNumber_29 ?_
        exact tw_iret F hH hret hlk rfl (Nat.le_of_ble_eq_true rfl) (Nat.le_of_ble_eq_true rfl) dX9_tyreNumber_30 (Or.inr (⟨rfl, (by omega), rfl⟩))
set_option maxHeartbeats 4000000 in
set_option maxRecDepth 100000 in
theorem c_X9_tyreNumber_v3 (l : Launch) (G : tw_G) (ad : Nat → Nat) (w : Nat → va_E) (sz : Nat) (x1 : Int32) (z1 : Int) (e1 : x1.toInt = z1) (hw_4 : w 4 = .inr (9, [.int (2 : Int32), .int (1 : Int32), .ref (ad 5), .ref (ad 6), .ref (ad 7), .ref (ad 8), .ref (ad 9), .ref (ad 10), .ref (ad 12)])) (hw_8 : w 8 = .inl (G.2.1 0, 24, .inl (upd (upd (upd (upd (upd (upd (upd (upd (upd (upd (upd (upd (upd (upd (upd (upd (upd (upd (upd (upd (upd (upd (upd (upd (fun _ => 0) 0 (0 : Int32)) 1 (10 : Int32)) 2 (40 : Int32)) 3 (1000 : Int32)) 4 (0 : Int32)) 5 (5 : Int32)) 6 (0 : Int32)) 7 (10 : Int32)) 8 (40 : Int32)) 9 (1000 : Int32)) 10 (0 : Int32)) 11 (5 : Int32)) 12 (0 : Int32)) 13 (10 : Int32)) 14 (40 : Int32)) 15 (1000 : Int32)) 16 (0 : Int32)) 17 (5 : Int32)) 18 (0 : Int32)) 19 (10 : Int32)) 20 (40 : Int32)) 21 (1000 : Int32)) 22 (0 : Int32)) 23 (5 : Int32)))) : Met l yX9_tyreNumber (tw_ws yX9_tyreNumber cX9_tyreNumber 3 (some .int)) ({ frames := 1, cells := 0, slots := 0, locals := 21 }) (tw_Pre G 244 ad w sz [.ref (ad 4), .int x1, .int (2 : Int32)]) (tw_Qi G 244 ad (fun r w1 => ((0 : Int32) = r ∧ (((z1 < 0)) ∨ ((¬ (z1 < 0)) ∧ (4 ≤ z1))) ∧ w = w1) ∨ ((40 : Int32) = r ∧ ((((¬ (z1 < 0)) ∧ (¬ (4 ≤ z1))) ∧ ((¬ (2 < 0)) ∧ (¬ (6 ≤ 2))) ∧ (z1 = 0)) ∨ (((¬ (z1 < 0)) ∧ (¬ (4 ≤ z1))) ∧ ((¬ (2 < 0)) ∧ (¬ (6 ≤ 2))) ∧ (z1 = 1)) ∨ (((¬ (z1 < 0)) ∧ (¬ (4 ≤ z1))) ∧ ((¬ (2 < 0)) ∧ (¬ (6 ≤ 2))) ∧ (z1 = 2)) ∨ (((¬ (z1 < 0)) ∧ (¬ (4 ≤ z1))) ∧ ((¬ (2 < 0)) ∧ (¬ (6 ≤ 2))) ∧ (z1 = 3))) ∧ w = w1)) sz) 0 0 (tw_A 244 ad sz) := by
  refine tw_met (by decide) (Nat.le_of_ble_eq_true rfl) ?_
  intro p e s m args below meth c F hret hlk hin hargs hsz hH ls hl
  have hx := F.1.1
  have hb := F.1.2.1
  have hown := F.1.2.2.2.1
  have hts := F.1.2.2.2.2
  have hl : lv_has ls 3 [(0, .ref (ad 4)), (1, .int x1), (2, .int (2 : Int32))] := hl
  generalize hH0 : s.heap = H at hH ⊢
  refine lv_iload_n hx hb dX9_tyreNumber_0 rfl (lv_at hl 1 rfl) ?_
  refine lv_iconst (v := 4) hx hb dX9_tyreNumber_1 (by decide) ?_
  refine tw_calli F hH (tw_runSN (host := "RaceByLaps") (As := [.int x1, .int (4 : Int32)]) (rest := []) F hH (c_X11_isIndex l G 244 ad w H.size x1 (z1) e1 (4 : Int32) 4 (by decide : (4 : Int32).toInt = 4)) (by decide) km_X11_isIndex (tw_gl kw_562 rfl) rfl rfl ⟨(Nat.le_of_ble_eq_true rfl), (Nat.le_of_ble_eq_true rfl)⟩ rfl hl.1 rfl (Nat.le_of_ble_eq_true rfl) dX9_tyreNumber_2 ⟨(Nat.le_of_ble_eq_true rfl), (Nat.le_of_ble_eq_true rfl)⟩) (fun r3 w1 H locs hp2 _ hH => ?_)
  rcases hp2 with ⟨rfl, hc4, rfl⟩ | ⟨rfl, hc5, rfl⟩
  · skip
    refine lv_if_eq (tgt := 17) hx hb dX9_tyreNumber_5 (by decide) (fun _ => ?_) (fun c => absurd c (by decide))
    refine lv_iconst (v := 0) hx hb dX9_tyreNumber_17 (by decide) ?_
    exact tw_iret F hH hret hlk rfl (Nat.le_of_ble_eq_true rfl) (Nat.le_of_ble_eq_true rfl) dX9_tyreNumber_18 (Or.inl (⟨rfl, (by omega), rfl⟩))
  · skip
    refine lv_if_eq (tgt := 17) hx hb dX9_tyreNumber_5 (by decide) (fun c => absurd c (by decide)) (fun _ => ?_)
    refine lv_iload_n hx hb dX9_tyreNumber_8 rfl (lv_at hl 2 rfl) ?_
    refine lv_bipush (v := 6) hx hb dX9_tyreNumber_9 (by decide) ?_
    refine tw_calli F hH (tw_runSN (host := "RaceByLaps") (As := [.int (2 : Int32), .int (6 : Int32)]) (rest := []) F hH (c_X11_isIndex l G 244 ad w H.size (2 : Int32) 2 (by decide : (2 : Int32).toInt = 2) (6 : Int32) 6 (by decide : (6 : Int32).toInt = 6)) (by decide) km_X11_isIndex (tw_gl kw_562 rfl) rfl rfl ⟨(Nat.le_of_ble_eq_true rfl), (Nat.le_of_ble_eq_true rfl)⟩ rfl hl.1 rfl (Nat.le_of_ble_eq_true rfl) dX9_tyreNumber_11 ⟨(Nat.le_of_ble_eq_true rfl), (Nat.le_of_ble_eq_true rfl)⟩) (fun r10 w8 H locs hp9 _ hH => ?_)
    rcases hp9 with ⟨rfl, hc11, rfl⟩ | ⟨rfl, hc12, rfl⟩
    · exfalso; omega
    · skip
      refine lv_if_ne (tgt := 19) hx hb dX9_tyreNumber_14 (by decide) (fun _ => ?_) (fun c => absurd c (by decide))
      refine lv_aload_n hx hb dX9_tyreNumber_19 rfl (lv_at hl 0 rfl) ?_
      refine tw_get (r := 4) F hH kf_RX9_22 rfl (by omega) hw_4 rfl dX9_tyreNumber_20 ?_
      refine lv_iload_n hx hb dX9_tyreNumber_23 rfl (lv_at hl 1 rfl) ?_
      refine lv_bipush (v := 6) hx hb dX9_tyreNumber_24 (by decide) ?_
      rcases (by omega : z1 = 0 ∨ z1 = 1 ∨ z1 = 2 ∨ z1 = 3) with hz14 | hz14 | hz14 | hz14
      · skip
        obtain rfl : (0 : Int32) = x1 := (Int32.toInt_inj.mp ((e1.trans hz14).trans (by decide : (0 : Int) = (0 : Int32).toInt))).symm
        refine lv_imul hx hb dX9_tyreNumber_26 ?_
        refine tw_cv (v := (0 : Int32)) (by decide) ?_
        refine lv_iload_n hx hb dX9_tyreNumber_27 rfl (lv_at hl 2 rfl) ?_
        refine lv_iadd hx hb dX9_tyreNumber_28 ?_
        refine tw_cv (v := (2 : Int32)) (by decide) ?_
        refine tw_iald (r := 8) (j := 2) (v := (40 : Int32)) F hH rfl (by omega) hw_8 (by decide) (by decide) rfl dX9_tyreNumber_29 ?_
        exact tw_iret F hH hret hlk rfl (Nat.le_of_ble_eq_true rfl) (Nat.le_of_ble_eq_true rfl) dX9_tyreNumber_30 (Or.inr (⟨rfl, (by omega), rfl⟩))
      · skip
        obtain rfl : (1 : Int32) = x1 := (Int32.toInt_inj.mp ((e1.trans hz14).trans (by decide : (1 : Int) = (1 : Int32).toInt))).symm
        refine lv_imul hx hb dX9_tyreNumber_26 ?_
        refine tw_cv (v := (6 : Int32)) (by decide) ?_
        refine lv_iload_n hx hb dX9_tyreNumber_27 rfl (lv_at hl 2 rfl) ?_
        refine lv_iadd hx hb dX9_tyreNumber_28 ?_
        refine tw_cv (v := (8 : Int32)) (by decide) ?_
        refine tw_iald (r := 8) (j := 8) (v := (40 : Int32)) F hH rfl (by omega) hw_8 (by decide) (by decide) rfl dX9_tyreNumber_29 ?_
        exact tw_iret F hH hret hlk rfl (Nat.le_of_ble_eq_true rfl) (Nat.le_of_ble_eq_true rfl) dX9_tyreNumber_30 (Or.inr (⟨rfl, (by omega), rfl⟩))
      · skip
        obtain rfl : (2 : Int32) = x1 := (Int32.toInt_inj.mp ((e1.trans hz14).trans (by decide : (2 : Int) = (2 : Int32).toInt))).symm
        refine lv_imul hx hb dX9_tyreNumber_26 ?_
        refine tw_cv (v := (12 : Int32)) (by decide) ?_
        refine lv_iload_n hx hb dX9_tyreNumber_27 rfl (lv_at hl 2 rfl) ?_
        refine lv_iadd hx hb dX9_tyreNumber_28 ?_
        refine tw_cv (v := (14 : Int32)) (by decide) ?_
        refine tw_iald (r := 8) (j := 14) (v := (40 : Int32)) F hH rfl (by omega) hw_8 (by decide) (by decide) rfl dX9_tyreNumber_29 ?_
        exact tw_iret F hH hret hlk rfl (Nat.le_of_ble_eq_true rfl) (Nat.le_of_ble_eq_true rfl) dX9_tyreNumber_30 (Or.inr (⟨rfl, (by omega), rfl⟩))
      · skip
        obtain rfl : (3 : Int32) = x1 := (Int32.toInt_inj.mp ((e1.trans hz14).trans (by decide : (3 : Int) = (3 : Int32).toInt))).symm
        refine lv_imul hx hb dX9_tyreNumber_26 ?_
        refine tw_cv (v := (18 : Int32)) (by decide) ?_
        refine lv_iload_n hx hb dX9_tyreNumber_27 rfl (lv_at hl 2 rfl) ?_
        refine lv_iadd hx hb dX9_tyreNumber_28 ?_
        refine tw_cv (v := (20 : Int32)) (by decide) ?_
        refine tw_iald (r := 8) (j := 20) (v := (40 : Int32)) F hH rfl (by omega) hw_8 (by decide) (by decide) rfl dX9_tyreNumber_29 ?_
        exact tw_iret F hH hret hlk rfl (Nat.le_of_ble_eq_true rfl) (Nat.le_of_ble_eq_true rfl) dX9_tyreNumber_30 (Or.inr (⟨rfl, (by omega), rfl⟩))
set_option maxHeartbeats 4000000 in
set_option maxRecDepth 100000 in
theorem c_X9_tyreNumber_v4 (l : Launch) (G : tw_G) (ad : Nat → Nat) (w : Nat → va_E) (sz : Nat) (x1 : Int32) (z1 : Int) (e1 : x1.toInt = z1) (hw_4 : w 4 = .inr (9, [.int (2 : Int32), .int (1 : Int32), .ref (ad 5), .ref (ad 6), .ref (ad 7), .ref (ad 8), .ref (ad 9), .ref (ad 10), .ref (ad 12)])) (hw_8 : w 8 = .inl (G.2.1 0, 24, .inl (upd (upd (upd (upd (upd (upd (upd (upd (upd (upd (upd (upd (upd (upd (upd (upd (upd (upd (upd (upd (upd (upd (upd (upd (fun _ => 0) 0 (0 : Int32)) 1 (10 : Int32)) 2 (40 : Int32)) 3 (1000 : Int32)) 4 (0 : Int32)) 5 (5 : Int32)) 6 (0 : Int32)) 7 (10 : Int32)) 8 (40 : Int32)) 9 (1000 : Int32)) 10 (0 : Int32)) 11 (5 : Int32)) 12 (0 : Int32)) 13 (10 : Int32)) 14 (40 : Int32)) 15 (1000 : Int32)) 16 (0 : Int32)) 17 (5 : Int32)) 18 (0 : Int32)) 19 (10 : Int32)) 20 (40 : Int32)) 21 (1000 : Int32)) 22 (0 : Int32)) 23 (5 : Int32)))) : Met l yX9_tyreNumber (tw_ws yX9_tyreNumber cX9_tyreNumber 3 (some .int)) ({ frames := 1, cells := 0, slots := 0, locals := 21 }) (tw_Pre G 244 ad w sz [.ref (ad 4), .int x1, .int (3 : Int32)]) (tw_Qi G 244 ad (fun r w1 => ((0 : Int32) = r ∧ (((z1 < 0)) ∨ ((¬ (z1 < 0)) ∧ (4 ≤ z1))) ∧ w = w1) ∨ ((1000 : Int32) = r ∧ ((((¬ (z1 < 0)) ∧ (¬ (4 ≤ z1))) ∧ ((¬ (3 < 0)) ∧ (¬ (6 ≤ 3))) ∧ (z1 = 0)) ∨ (((¬ (z1 < 0)) ∧ (¬ (4 ≤ z1))) ∧ ((¬ (3 < 0)) ∧ (¬ (6 ≤ 3))) ∧ (z1 = 1)) ∨ (((¬ (z1 < 0)) ∧ (¬ (4 ≤ z1))) ∧ ((¬ (3 < 0)) ∧ (¬ (6 ≤ 3))) ∧ (z1 = 2)) ∨ (((¬ (z1 < 0)) ∧ (¬ (4 ≤ z1))) ∧ ((¬ (3 < 0)) ∧ (¬ (6 ≤ 3))) ∧ (z1 = 3))) ∧ w = w1)) sz) 0 0 (tw_A 244 ad sz) := by
  refine tw_met (by decide) (Nat.le_of_ble_eq_true rfl) ?_
  intro p e s m args below meth c F hret hlk hin hargs hsz hH ls hl
  have hx := F.1.1
  have hb := F.1.2.1
  have hown := F.1.2.2.2.1
  have hts := F.1.2.2.2.2
  have hl : lv_has ls 3 [(0, .ref (ad 4)), (1, .int x1), (2, .int (3 : Int32))] := hl
  generalize hH0 : s.heap = H at hH ⊢
  refine lv_iload_n hx hb dX9_tyreNumber_0 rfl (lv_at hl 1 rfl) ?_
  refine lv_iconst (v := 4) hx hb dX9_tyreNumber_1 (by decide) ?_
  refine tw_calli F hH (tw_runSN (host := "RaceByLaps") (As := [.int x1, .int (4 : Int32)]) (rest := []) F hH (c_X11_isIndex l G 244 ad w H.size x1 (z1) e1 (4 : Int32) 4 (by decide : (4 : Int32).toInt = 4)) (by decide) km_X11_isIndex (tw_gl kw_562 rfl) rfl rfl ⟨(Nat.le_of_ble_eq_true rfl), (Nat.le_of_ble_eq_true rfl)⟩ rfl hl.1 rfl (Nat.le_of_ble_eq_true rfl) dX9_tyreNumber_2 ⟨(Nat.le_of_ble_eq_true rfl), (Nat.le_of_ble_eq_true rfl)⟩) (fun r3 w1 H locs hp2 _ hH => ?_)
  rcases hp2 with ⟨rfl, hc4, rfl⟩ | ⟨rfl, hc5, rfl⟩
  · skip
    refine lv_if_eq (tgt := 17) hx hb dX9_tyreNumber_5 (by decide) (fun _ => ?_) (fun c => absurd c (by decide))
    refine lv_iconst (v := 0) hx hb dX9_tyreNumber_17 (by decide) ?_
    exact tw_iret F hH hret hlk rfl (Nat.le_of_ble_eq_true rfl) (Nat.le_of_ble_eq_true rfl) dX9_tyreNumber_18 (Or.inl (⟨rfl, (by omega), rfl⟩))
  · skip
    refine lv_if_eq (tgt := 17) hx hb dX9_tyreNumber_5 (by decide) (fun c => absurd c (by decide)) (fun _ => ?_)
    refine lv_iload_n hx hb dX9_tyreNumber_8 rfl (lv_at hl 2 rfl) ?_
    refine lv_bipush (v := 6) hx hb dX9_tyreNumber_9 (by decide) ?_
    refine tw_calli F hH (tw_runSN (host := "RaceByLaps") (As := [.int (3 : Int32), .int (6 : Int32)]) (rest := []) F hH (c_X11_isIndex l G 244 ad w H.size (3 : Int32) 3 (by decide : (3 : Int32).toInt = 3) (6 : Int32) 6 (by decide : (6 : Int32).toInt = 6)) (by decide) km_X11_isIndex (tw_gl kw_562 rfl) rfl rfl ⟨(Nat.le_of_ble_eq_true rfl), (Nat.le_of_ble_eq_true rfl)⟩ rfl hl.1 rfl (Nat.le_of_ble_eq_true rfl) dX9_tyreNumber_11 ⟨(Nat.le_of_ble_eq_true rfl), (Nat.le_of_ble_eq_true rfl)⟩) (fun r10 w8 H locs hp9 _ hH => ?_)
    rcases hp9 with ⟨rfl, hc11, rfl⟩ | ⟨rfl, hc12, rfl⟩
    · exfalso; omega
    · skip
      refine lv_if_ne (tgt := 19) hx hb dX9_tyreNumber_14 (by decide) (fun _ => ?_) (fun c => absurd c (by decide))
      refine lv_aload_n hx hb dX9_tyreNumber_19 rfl (lv_at hl 0 rfl) ?_
      refine tw_get (r := 4) F hH kf_RX9_22 rfl (by omega) hw_4 rfl dX9_tyreNumber_20 ?_
      refine lv_iload_n hx hb dX9_tyreNumber_23 rfl (lv_at hl 1 rfl) ?_
      refine lv_bipush (v := 6) hx hb dX9_tyreNumber_24 (by decide) ?_
      rcases (by omega : z1 = 0 ∨ z1 = 1 ∨ z1 = 2 ∨ z1 = 3) with hz14 | hz14 | hz14 | hz14
      · skip
        obtain rfl : (0 : Int32) = x1 := (Int32.toInt_inj.mp ((e1.trans hz14).trans (by decide : (0 : Int) = (0 : Int32).toInt))).symm
        refine lv_imul hx hb dX9_tyreNumber_26 ?_
        refine tw_cv (v := (0 : Int32)) (by decide) ?_
        refine lv_iload_n hx hb dX9_tyreNumber_27 rfl (lv_at hl 2 rfl) ?_
        refine lv_iadd hx hb dX9_tyreNumber_28 ?_
        refine tw_cv (v := (3 : Int32)) (by decide) ?_
        refine tw_iald (r := 8) (j := 3) (v := (1000 : Int32)) F hH rfl (by omega) hw_8 (by decide) (by decide) rfl dX9_tyreNumber_29 ?_
        exact tw_iret F hH hret hlk rfl (Nat.le_of_ble_eq_true rfl) (Nat.le_of_ble_eq_true rfl) dX9_tyreNumber_30 (Or.inr (⟨rfl, (by omega), rfl⟩))
      · skip
        obtain rfl : (1 : Int32) = x1 := (Int32.toInt_inj.mp ((e1.trans hz14).trans (by decide : (1 : Int) = (1 : Int32).toInt))).symm
        refine lv_imul hx hb dX9_tyreNumber_26 ?_
        refine tw_cv (v := (6 : Int32)) (by decide) ?_
        refine lv_iload_n hx hb dX9_tyreNumber_27 rfl (lv_at hl 2 rfl) ?_
        refine lv_iadd hx hb dX9_tyreNumber_28 ?_
        refine tw_cv (v := (9 : Int32)) (by decide) ?_
        refine tw_iald (r := 8) (j := 9) (v := (1000 : Int32)) F hH rfl (by omega) hw_8 (by decide) (by decide) rfl dX9_tyreNumber_29 ?_
        exact tw_iret F hH hret hlk rfl (Nat.le_of_ble_eq_true rfl) (Nat.le_of_ble_eq_true rfl) dX9_tyreNumber_30 (Or.inr (⟨rfl, (by omega), rfl⟩))
      · skip
        obtain rfl : (2 : Int32) = x1 := (Int32.toInt_inj.mp ((e1.trans hz14).trans (by decide : (2 : Int) = (2 : Int32).toInt))).symm
        refine lv_imul hx hb dX9_tyreNumber_26 ?_
        refine tw_cv (v := (12 : Int32)) (by decide) ?_
        refine lv_iload_n hx hb dX9_tyreNumber_27 rfl (lv_at hl 2 rfl) ?_
        refine lv_iadd hx hb dX9_tyreNumber_28 ?_
        refine tw_cv (v := (15 : Int32)) (by decide) ?_
        refine tw_iald (r := 8) (j := 15) (v := (1000 : Int32)) F hH rfl (by omega) hw_8 (by decide) (by decide) rfl dX9_tyreNumber_29 ?_
        exact tw_iret F hH hret hlk rfl (Nat.le_of_ble_eq_true rfl) (Nat.le_of_ble_eq_true rfl) dX9_tyreNumber_30 (Or.inr (⟨rfl, (by omega), rfl⟩))
      · skip
        obtain rfl : (3 : Int32) = x1 := (Int32.toInt_inj.mp ((e1.trans hz14).trans (by decide : (3 : Int) = (3 : Int32).toInt))).symm
        refine lv_imul hx hb dX9_tyreNumber_26 ?_
        refine tw_cv (v := (18 : Int32)) (by decide) ?_
        refine lv_iload_n hx hb dX9_tyreNumber_27 rfl (lv_at hl 2 rfl) ?_
        refine lv_iadd hx hb dX9_tyreNumber_28 ?_
        refine tw_cv (v := (21 : Int32)) (by decide) ?_
        refine tw_iald (r := 8) (j := 21) (v := (1000 : Int32)) F hH rfl (by omega) hw_8 (by decide) (by decide) rfl dX9_tyreNumber_29 ?_
        exact tw_iret F hH hret hlk rfl (Nat.le_of_ble_eq_true rfl) (Nat.le_of_ble_eq_true rfl) dX9_tyreNumber_30 (Or.inr (⟨rfl, (by omega), rfl⟩))
set_option maxHeartbeats 4000000 in
set_option maxRecDepth 100000 in
theorem c_X9_tyreNumber_v5 (l : Launch) (G : tw_G) (ad : Nat → Nat) (w : Nat → va_E) (sz : Nat) (x1 : Int32) (z1 : Int) (e1 : x1.toInt = z1) (hw_4 : w 4 = .inr (9, [.int (2 : Int32), .int (1 : Int32), .ref (ad 5), .ref (ad 6), .ref (ad 7), .ref (ad 8), .ref (ad 9), .ref (ad 10), .ref (ad 12)])) (hw_8 : w 8 = .inl (G.2.1 0, 24, .inl (upd (upd (upd (upd (upd (upd (upd (upd (upd (upd (upd (upd (upd (upd (upd (upd (upd (upd (upd (upd (upd (upd (upd (upd (fun _ => 0) 0 (0 : Int32)) 1 (10 : Int32)) 2 (40 : Int32)) 3 (1000 : Int32)) 4 (0 : Int32)) 5 (5 : Int32)) 6 (0 : Int32)) 7 (10 : Int32)) 8 (40 : Int32)) 9 (1000 : Int32)) 10 (0 : Int32)) 11 (5 : Int32)) 12 (0 : Int32)) 13 (10 : Int32)) 14 (40 : Int32)) 15 (1000 : Int32)) 16 (0 : Int32)) 17 (5 : Int32)) 18 (0 : Int32)) 19 (10 : Int32)) 20 (40 : Int32)) 21 (1000 : Int32)) 22 (0 : Int32)) 23 (5 : Int32)))) : Met l yX9_tyreNumber (tw_ws yX9_tyreNumber cX9_tyreNumber 3 (some .int)) ({ frames := 1, cells := 0, slots := 0, locals := 21 }) (tw_Pre G 244 ad w sz [.ref (ad 4), .int x1, .int (4 : Int32)]) (tw_Qi G 244 ad (fun r w1 => ((0 : Int32) = r ∧ (((((z1 < 0)) ∨ ((¬ (z1 < 0)) ∧ (4 ≤ z1)))) ∨ (((¬ (z1 < 0)) ∧ (¬ (4 ≤ z1))) ∧ ((¬ (4 < 0)) ∧ (¬ (6 ≤ 4))) ∧ (z1 = 0)) ∨ (((¬ (z1 < 0)) ∧ (¬ (4 ≤ z1))) ∧ ((¬ (4 < 0)) ∧ (¬ (6 ≤ 4))) ∧ (z1 = 1)) ∨ (((¬ (z1 < 0)) ∧ (¬ (4 ≤ z1))) ∧ ((¬ (4 < 0)) ∧ (¬ (6 ≤ 4))) ∧ (z1 = 2)) ∨ (((¬ (z1 < 0)) ∧ (¬ (4 ≤ z1))) ∧ ((¬ (4 < 0)) ∧ (¬ (6 ≤ 4))) ∧ (z1 = 3))) ∧ w = w1)) sz) 0 0 (tw_A 244 ad sz) := by
  refine tw_met (by decide) (Nat.le_of_ble_eq_true rfl) ?_
  intro p e s m args below meth c F hret hlk hin hargs hsz hH ls hl
  have hx := F.1.1
  have hb := F.1.2.1
  have hown := F.1.2.2.2.1
  have hts := F.1.2.2.2.2
  have hl : lv_has ls 3 [(0, .ref (ad 4)), (1, .int x1), (2, .int (4 : Int32))] := hl
  generalize hH0 : s.heap = H at hH ⊢
  refine lv_iload_n hx hb dX9_tyreNumber_0 rfl (lv_at hl 1 rfl) ?_
  refine lv_iconst (v := 4) hx hb dX9_tyreNumber_1 (by decide) ?_
  refine tw_calli F hH (tw_runSN (host := "RaceByLaps") (As := [.int x1, .int (4 : Int32)]) (rest := []) F hH (c_X11_isIndex l G 244 ad w H.size x1 (z1) e1 (4 : Int32) 4 (by decide : (4 : Int32).toInt = 4)) (by decide) km_X11_isIndex (tw_gl kw_562 rfl) rfl rfl ⟨(Nat.le_of_ble_eq_true rfl), (Nat.le_of_ble_eq_true rfl)⟩ rfl hl.1 rfl (Nat.le_of_ble_eq_true rfl) dX9_tyreNumber_2 ⟨(Nat.le_of_ble_eq_true rfl), (Nat.le_of_ble_eq_true rfl)⟩) (fun r3 w1 H locs hp2 _ hH => ?_)
  rcases hp2 with ⟨rfl, hc4, rfl⟩ | ⟨rfl, hc5, rfl⟩
  · skip
    refine lv_if_eq (tgt := 17) hx hb dX9_tyreNumber_5 (by decide) (fun _ => ?_) (fun c => absurd c (by decide))
    refine lv_iconst (v := 0) hx hb dX9_tyreNumber_17 (by decide) ?_
    exact tw_iret F hH hret hlk rfl (Nat.le_of_ble_eq_true rfl) (Nat.le_of_ble_eq_true rfl) dX9_tyreNumber_18 (⟨rfl, (by omega), rfl⟩)
  · skip
    refine lv_if_eq (tgt := 17) hx hb dX9_tyreNumber_5 (by decide) (fun c => absurd c (by decide)) (fun _ => ?_)
    refine lv_iload_n hx hb dX9_tyreNumber_8 rfl (lv_at hl 2 rfl) ?_
    refine lv_bipush (v := 6) hx hb dX9_tyreNumber_9 (by decide) ?_
    refine tw_calli F hH (tw_runSN (host := "RaceByLaps") (As := [.int (4 : Int32), .int (6 : Int32)]) (rest := []) F hH (c_X11_isIndex l G 244 ad w H.size (4 : Int32) 4 (by decide : (4 : Int32).toInt = 4) (6 : Int32) 6 (by decide : (6 : Int32).toInt = 6)) (by decide) km_X11_isIndex (tw_gl kw_562 rfl) rfl rfl ⟨(Nat.le_of_ble_eq_true rfl), (Nat.le_of_ble_eq_true rfl)⟩ rfl hl.1 rfl (Nat.le_of_ble_eq_true rfl) dX9_tyreNumber_11 ⟨(Nat.le_of_ble_eq_true rfl), (Nat.le_of_ble_eq_true rfl)⟩) (fun r10 w8 H locs hp9 _ hH => ?_)
    rcases hp9 with ⟨rfl, hc11, rfl⟩ | ⟨rfl, hc12, rfl⟩
    · exfalso; omega
    · skip
      refine lv_if_ne (tgt := 19) hx hb dX9_tyreNumber_14 (by decide) (fun _ => ?_) (fun c => absurd c (by decide))
      refine lv_aload_n hx hb dX9_tyreNumber_19 rfl (lv_at hl 0 rfl) ?_
      refine tw_get (r := 4) F hH kf_RX9_22 rfl (by omega) hw_4 rfl dX9_tyreNumber_20 ?_
      refine lv_iload_n hx hb dX9_tyreNumber_23 rfl (lv_at hl 1 rfl) ?_
      refine lv_bipush (v := 6) hx hb dX9_tyreNumber_24 (by decide) ?_
      rcases (by omega : z1 = 0 ∨ z1 = 1 ∨ z1 = 2 ∨ z1 = 3) with hz14 | hz14 | hz14 | hz14
      · skip
        obtain rfl : (0 : Int32) = x1 := (Int32.toInt_inj.mp ((e1.trans hz14).trans (by decide : (0 : Int) = (0 : Int32).toInt))).symm
        refine lv_imul hx hb dX9_tyreNumber_26 ?_
        refine tw_cv (v := (0 : Int32)) (by decide) ?_
        refine lv_iload_n hx hb dX9_tyreNumber_27 rfl (lv_at hl 2 rfl) ?_
        refine lv_iadd hx hb dX9_tyreNumber_28 ?_
        refine tw_cv (v := (4 : Int32)) (by decide) ?_
        refine tw_iald (r := 8) (j := 4) (v := (0 : Int32)) F hH rfl (by omega) hw_8 (by decide) (by decide) rfl dX9_tyreNumber_29 ?_
        exact tw_iret F hH hret hlk rfl (Nat.le_of_ble_eq_true rfl) (Nat.le_of_ble_eq_true rfl) dX9_tyreNumber_30 (⟨rfl, (by omega), rfl⟩)
      · skip
        obtain rfl : (1 : Int32) = x1 := (Int32.toInt_inj.mp ((e1.trans hz14).trans (by decide : (1 : Int) = (1 : Int32).toInt))).symm
        refine lv_imul hx hb dX9_tyreNumber_26 ?_
        refine tw_cv (v := (6 : Int32)) (by decide) ?_
        refine lv_iload_n hx hb dX9_tyreNumber_27 rfl (lv_at hl 2 rfl) ?_
        refine lv_iadd hx hb dX9_tyreNumber_28 ?_
        refine tw_cv (v := (10 : Int32)) (by decide) ?_
        refine tw_iald (r := 8) (j := 10) (v := (0 : Int32)) F hH rfl (by omega) hw_8 (by decide) (by decide) rfl dX9_tyreNumber_29 ?_
        exact tw_iret F hH hret hlk rfl (Nat.le_of_ble_eq_true rfl) (Nat.le_of_ble_eq_true rfl) dX9_tyreNumber_30 (⟨rfl, (by omega), rfl⟩)
      · skip
        obtain rfl : (2 : Int32) = x1 := (Int32.toInt_inj.mp ((e1.trans hz14).trans (by decide : (2 : Int) = (2 : Int32).toInt))).symm
        refine lv_imul hx hb dX9_tyreNumber_26 ?_
        refine tw_cv (v := (12 : Int32)) (by decide) ?_
        refine lv_iload_n hx hb dX9_tyreNumber_27 rfl (lv_at hl 2 rfl) ?_
        refine lv_iadd hx hb dX9_tyreNumber_28 ?_
        refine tw_cv (v := (16 : Int32)) (by decide) ?_
        refine tw_iald (r := 8) (j := 16) (v := (0 : Int32)) F hH rfl (by omega) hw_8 (by decide) (by decide) rfl dX9_tyreNumber_29 ?_
        exact tw_iret F hH hret hlk rfl (Nat.le_of_ble_eq_true rfl) (Nat.le_of_ble_eq_true rfl) dX9_tyreNumber_30 (⟨rfl, (by omega), rfl⟩)
      · skip
        obtain rfl : (3 : Int32) = x1 := (Int32.toInt_inj.mp ((e1.trans hz14).trans (by decide : (3 : Int) = (3 : Int32).toInt))).symm
        refine lv_imul hx hb dX9_tyreNumber_26 ?_
        refine tw_cv (v := (18 : Int32)) (by decide) ?_
        refine lv_iload_n hx hb dX9_tyreNumber_27 rfl (lv_at hl 2 rfl) ?_
        refine lv_iadd hx hb dX9_tyreNumber_28 ?_
        refine tw_cv (v := (22 : Int32)) (by decide) ?_
        refine tw_iald (r := 8) (j := 22) (v := (0 : Int32)) F hH rfl (by omega) hw_8 (by decide) (by decide) rfl dX9_tyreNumber_29 ?_
        exact tw_iret F hH hret hlk rfl (Nat.le_of_ble_eq_true rfl) (Nat.le_of_ble_eq_true rfl) dX9_tyreNumber_30 (⟨rfl, (by omega), rfl⟩)
set_option maxHeartbeats 4000000 in
set_option maxRecDepth 100000 in
theorem c_X9_tyreNumber_v6 (l : Launch) (G : tw_G) (ad : Nat → Nat) (w : Nat → va_E) (sz : Nat) (x1 : Int32) (z1 : Int) (e1 : x1.toInt = z1) (hw_4 : w 4 = .inr (9, [.int (2 : Int32), .int (1 : Int32), .ref (ad 5), .ref (ad 6), .ref (ad 7), .ref (ad 8), .ref (ad 9), .ref (ad 10), .ref (ad 12)])) (hw_8 : w 8 = .inl (G.2.1 0, 24, .inl (upd (upd (upd (upd (upd (upd (upd (upd (upd (upd (upd (upd (upd (upd (upd (upd (upd (upd (upd (upd (upd (upd (upd (upd (fun _ => 0) 0 (0 : Int32)) 1 (10 : Int32)) 2 (40 : Int32)) 3 (1000 : Int32)) 4 (0 : Int32)) 5 (5 : Int32)) 6 (0 : Int32)) 7 (10 : Int32)) 8 (40 : Int32)) 9 (1000 : Int32)) 10 (0 : Int32)) 11 (5 : Int32)) 12 (0 : Int32)) 13 (10 : Int32)) 14 (40 : Int32)) 15 (1000 : Int32)) 16 (0 : Int32)) 17 (5 : Int32)) 18 (0 : Int32)) 19 (10 : Int32)) 20 (40 : Int32)) 21 (1000 : Int32)) 22 (0 : Int32)) 23 (5 : Int32)))) : Met l yX9_tyreNumber (tw_ws yX9_tyreNumber cX9_tyreNumber 3 (some .int)) ({ frames := 1, cells := 0, slots := 0, locals := 21 }) (tw_Pre G 244 ad w sz [.ref (ad 4), .int x1, .int (5 : Int32)]) (tw_Qi G 244 ad (fun r w1 => ((0 : Int32) = r ∧ (((z1 < 0)) ∨ ((¬ (z1 < 0)) ∧ (4 ≤ z1))) ∧ w = w1) ∨ ((5 : Int32) = r ∧ ((((¬ (z1 < 0)) ∧ (¬ (4 ≤ z1))) ∧ ((¬ (5 < 0)) ∧ (¬ (6 ≤ 5))) ∧ (z1 = 0)) ∨ (((¬ (z1 < 0)) ∧ (¬ (4 ≤ z1))) ∧ ((¬ (5 < 0)) ∧ (¬ (6 ≤ 5))) ∧ (z1 = 1)) ∨ (((¬ (z1 < 0)) ∧ (¬ (4 ≤ z1))) ∧ ((¬ (5 < 0)) ∧ (¬ (6 ≤ 5))) ∧ (z1 = 2)) ∨ (((¬ (z1 < 0)) ∧ (¬ (4 ≤ z1))) ∧ ((¬ (5 < 0)) ∧ (¬ (6 ≤ 5))) ∧ (z1 = 3))) ∧ w = w1)) sz) 0 0 (tw_A 244 ad sz) := by
  refine tw_met (by decide) (Nat.le_of_ble_eq_true rfl) ?_
  intro p e s m args below meth c F hret hlk hin hargs hsz hH ls hl
  have hx := F.1.1
  have hb := F.1.2.1
  have hown := F.1.2.2.2.1
  have hts := F.1.2.2.2.2
  have hl : lv_has ls 3 [(0, .ref (ad 4)), (1, .int x1), (2, .int (5 : Int32))] := hl
  generalize hH0 : s.heap = H at hH ⊢
  refine lv_iload_n hx hb dX9_tyreNumber_0 rfl (lv_at hl 1 rfl) ?_
  refine lv_iconst (v := 4) hx hb dX9_tyreNumber_1 (by decide) ?_
  refine tw_calli F hH (tw_runSN (host := "RaceByLaps") (As := [.int x1, .int (4 : Int32)]) (rest := []) F hH (c_X11_isIndex l G 244 ad w H.size x1 (z1) e1 (4 : Int32) 4 (by decide : (4 : Int32).toInt = 4)) (by decide) km_X11_isIndex (tw_gl kw_562 rfl) rfl rfl ⟨(Nat.le_of_ble_eq_true rfl), (Nat.le_of_ble_eq_true rfl)⟩ rfl hl.1 rfl (Nat.le_of_ble_eq_true rfl) dX9_tyreNumber_2 ⟨(Nat.le_of_ble_eq_true rfl), (Nat.le_of_ble_eq_true rfl)⟩) (fun r3 w1 H locs hp2 _ hH => ?_)
  rcases hp2 with ⟨rfl, hc4, rfl⟩ | ⟨rfl, hc5, rfl⟩
  · skip
    refine lv_if_eq (tgt := 17) hx hb dX9_tyreNumber_5 (by decide) (fun _ => ?_) (fun c => absurd c (by decide))
    refine lv_iconst (v := 0) hx hb dX9_tyreNumber_17 (by decide) ?_
    exact tw_iret F hH hret hlk rfl (Nat.le_of_ble_eq_true rfl) (Nat.le_of_ble_eq_true rfl) dX9_tyreNumber_18 (Or.inl (⟨rfl, (by omega), rfl⟩))
  · skip
    refine lv_if_eq (tgt := 17) hx hb dX9_tyreNumber_5 (by decide) (fun c => absurd c (by decide)) (fun _ => ?_)
    refine lv_iload_n hx hb dX9_tyreNumber_8 rfl (lv_at hl 2 rfl) ?_
    refine lv_bipush (v := 6) hx hb dX9_tyreNumber_9 (by decide) ?_
    refine tw_calli F hH (tw_runSN (host := "RaceByLaps") (As := [.int (5 : Int32), .int (6 : Int32)]) (rest := []) F hH (c_X11_isIndex l G 244 ad w H.size (5 : Int32) 5 (by decide : (5 : Int32).toInt = 5) (6 : Int32) 6 (by decide : (6 : Int32).toInt = 6)) (by decide) km_X11_isIndex (tw_gl kw_562 rfl) rfl rfl ⟨(Nat.le_of_ble_eq_true rfl), (Nat.le_of_ble_eq_true rfl)⟩ rfl hl.1 rfl (Nat.le_of_ble_eq_true rfl) dX9_tyreNumber_11 ⟨(Nat.le_of_ble_eq_true rfl), (Nat.le_of_ble_eq_true rfl)⟩) (fun r10 w8 H locs hp9 _ hH => ?_)
    rcases hp9 with ⟨rfl, hc11, rfl⟩ | ⟨rfl, hc12, rfl⟩
    · exfalso; omega
    · skip
      refine lv_if_ne (tgt := 19) hx hb dX9_tyreNumber_14 (by decide) (fun _ => ?_) (fun c => absurd c (by decide))
      refine lv_aload_n hx hb dX9_tyreNumber_19 rfl (lv_at hl 0 rfl) ?_
      refine tw_get (r := 4) F hH kf_RX9_22 rfl (by omega) hw_4 rfl dX9_tyreNumber_20 ?_
      refine lv_iload_n hx hb dX9_tyreNumber_23 rfl (lv_at hl 1 rfl) ?_
      refine lv_bipush (v := 6) hx hb dX9_tyreNumber_24 (by decide) ?_
      rcases (by omega : z1 = 0 ∨ z1 = 1 ∨ z1 = 2 ∨ z1 = 3) with hz14 | hz14 | hz14 | hz14
      · skip
        obtain rfl : (0 : Int32) = x1 := (Int32.toInt_inj.mp ((e1.trans hz14).trans (by decide : (0 : Int) = (0 : Int32).toInt))).symm
        refine lv_imul hx hb dX9_tyreNumber_26 ?_
        refine tw_cv (v := (0 : Int32)) (by decide) ?_
        refine lv_iload_n hx hb dX9_tyreNumber_27 rfl (lv_at hl 2 rfl) ?_
        refine lv_iadd hx hb dX9_tyreNumber_28 ?_
        refine tw_cv (v := (5 : Int32)) (by decide) ?_
        refine tw_iald (r := 8) (j := 5) (v := (5 : Int32)) F hH rfl (by omega) hw_8 (by decide) (by decide) rfl dX9_tyreNumber_29 ?_
        exact tw_iret F hH hret hlk rfl (Nat.le_of_ble_eq_true rfl) (Nat.le_of_ble_eq_true rfl) dX9_tyreNumber_30 (Or.inr (⟨rfl, (by omega), rfl⟩))
      · skip
        obtain rfl : (1 : Int32) = x1 := (Int32.toInt_inj.mp ((e1.trans hz14).trans (by decide : (1 : Int) = (1 : Int32).toInt))).symm
        refine lv_imul hx hb dX9_tyreNumber_26 ?_
        refine tw_cv (v := (6 : Int32)) (by decide) ?_
        refine lv_iload_n hx hb dX9_tyreNumber_27 rfl (lv_at hl 2 rfl) ?_
        refine lv_iadd hx hb dX9_tyreNumber_28 ?_
        refine tw_cv (v := (11 : Int32)) (by decide) ?_
        refine tw_iald (r := 8) (j := 11) (v := (5 : Int32)) F hH rfl (by omega) hw_8 (by decide) (by decide) rfl dX9_tyreNumber_29 ?_
        exact tw_iret F hH hret hlk rfl (Nat.le_of_ble_eq_true rfl) (Nat.le_of_ble_eq_true rfl) dX9_tyreNumber_30 (Or.inr (⟨rfl, (by omega), rfl⟩))
      · skip
        obtain rfl : (2 : Int32) = x1 := (Int32.toInt_inj.mp ((e1.trans hz14).trans (by decide : (2 : Int) = (2 : Int32).toInt))).symm
        refine lv_imul hx hb dX9_tyreNumber_26 ?_
        refine tw_cv (v := (12 : Int32)) (by decide) ?_
        refine lv_iload_n hx hb dX9_tyreNumber_27 rfl (lv_at hl 2 rfl) ?_
        refine lv_iadd hx hb dX9_tyreNumber_28 ?_
        refine tw_cv (v := (17 : Int32)) (by decide) ?_
        refine tw_iald (r := 8) (j := 17) (v := (5 : Int32)) F hH rfl (by omega) hw_8 (by decide) (by decide) rfl dX9_tyreNumber_29 ?_
        exact tw_iret F hH hret hlk rfl (Nat.le_of_ble_eq_true rfl) (Nat.le_of_ble_eq_true rfl) dX9_tyreNumber_30 (Or.inr (⟨rfl, (by omega), rfl⟩))
      · skip
        obtain rfl : (3 : Int32) = x1 := (Int32.toInt_inj.mp ((e1.trans hz14).trans (by decide : (3 : Int) = (3 : Int32).toInt))).symm
        refine lv_imul hx hb dX9_tyreNumber_26 ?_
        refine tw_cv (v := (18 : Int32)) (by decide) ?_
        refine lv_iload_n hx hb dX9_tyreNumber_27 rfl (lv_at hl 2 rfl) ?_
        refine lv_iadd hx hb dX9_tyreNumber_28 ?_
        refine tw_cv (v := (23 : Int32)) (by decide) ?_
        refine tw_iald (r := 8) (j := 23) (v := (5 : Int32)) F hH rfl (by omega) hw_8 (by decide) (by decide) rfl dX9_tyreNumber_29 ?_
        exact tw_iret F hH hret hlk rfl (Nat.le_of_ble_eq_true rfl) (Nat.le_of_ble_eq_true rfl) dX9_tyreNumber_30 (Or.inr (⟨rfl, (by omega), rfl⟩))
