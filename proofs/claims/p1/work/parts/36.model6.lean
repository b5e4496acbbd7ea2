set_option maxHeartbeats 4000000 in
set_option maxRecDepth 100000 in
theorem c_X12_starts (l : Launch) (G : tw_G) (ad : Nat → Nat) (w : Nat → va_E) (sz : Nat) (hw_0 : w 0 = .inr (12, [.int (0 : Int32), .int (2 : Int32), .int (1 : Int32), .ref (ad 1), .ref (ad 2), .ref (ad 3), .ref (ad 4), .ref (ad 5), .int (0 : Int32), .ref (ad 6), .ref (ad 7), .ref (ad 8), .int (0 : Int32), .ref (ad 9), .ref (ad 10), .ref (ad 11), .ref (ad 12), .int (0 : Int32), .ref (ad 13), .ref (ad 14), .ref (ad 15), .ref (ad 16), .ref (ad 17), .ref (ad 18), .ref (ad 19), .ref (ad 20), .ref (ad 21), .ref (ad 22), .ref (ad 23), .ref (ad 24), .ref (ad 25), .ref (ad 26), .ref (ad 27), .ref (ad 28), .ref (ad 29), .ref (ad 30), .ref (ad 31), .ref (ad 32), .ref (ad 33), .ref (ad 34), .int (0 : Int32), .int (0 : Int32), .int (0 : Int32), .ref (G.2.2 (100 + 10)), .ref (ad 35), .ref (ad 36), .ref (ad 37), .int (0 : Int32), .ref (ad 38), .ref (ad 39), .ref (ad 40), .ref (ad 41), .ref (ad 42), .ref (ad 43), .ref (ad 44), .ref (ad 45), .ref (ad 46), .ref (ad 47), .ref (ad 48), .ref (ad 49), .ref (ad 50), .ref (ad 51), .ref (ad 52), .ref (ad 53), .ref (ad 54), .ref (ad 55), .ref (ad 56), .ref (ad 57), .ref (ad 58), .ref (ad 59), .int (0 : Int32), .ref (ad 60), .int (0 : Int32), .ref (ad 61), .ref (ad 62), .int (0 : Int32), .ref (ad 63), .ref (ad 64), .ref (ad 65), .ref (ad 66), .ref (ad 67), .ref (ad 68), .int (0 : Int32), .ref (ad 69), .ref (ad 70), .ref (ad 71), .ref (ad 72), .ref (ad 73), .int (0 : Int32), .int (0 : Int32), .int (0 : Int32), .ref (ad 74), .ref (ad 75), .ref (ad 76), .ref (ad 77), .ref (ad 78), .ref (ad 79)])) (hw_58 : w 58 = .inl (G.2.1 0, 4, .inl (fun _ => 0))) : Met l yX12_starts (tw_ws yX12_starts cX12_starts 3 none) ({ frames := 0, cells := 0, slots := 0, locals := 0 }) (tw_Pre G 80 ad w sz [.ref (ad 0)]) (tw_Qv G 80 ad (fun w1 => (True ∧ w1 0 = .inr (12, [.int (0 : Int32), .int (2 : Int32), .int (1 : Int32), .ref (ad 1), .ref (ad 2), .ref (ad 3), .ref (ad 4), .ref (ad 5), .int (0 : Int32), .ref (ad 6), .ref (ad 7), .ref (ad 8), .int (0 : Int32), .ref (ad 9), .ref (ad 10), .ref (ad 11), .ref (ad 12), .int (0 : Int32), .ref (ad 13), .ref (ad 14), .ref (ad 15), .ref (ad 16), .ref (ad 17), .ref (ad 18), .ref (ad 19), .ref (ad 20), .ref (ad 21), .ref (ad 22), .ref (ad 23), .ref (ad 24), .ref (ad 25), .ref (ad 26), .ref (ad 27), .ref (ad 28), .ref (ad 29), .ref (ad 30), .ref (ad 31), .ref (ad 32), .ref (ad 33), .ref (ad 34), .int (0 : Int32), .int (0 : Int32), .int (0 : Int32), .ref (G.2.2 (100 + 10)), .ref (ad 35), .ref (ad 36), .ref (ad 37), .int (0 : Int32), .ref (ad 38), .ref (ad 39), .ref (ad 40), .ref (ad 41), .ref (ad 42), .ref (ad 43), .ref (ad 44), .ref (ad 45), .ref (ad 46), .ref (ad 47), .ref (ad 48), .ref (ad 49), .ref (ad 50), .ref (ad 51), .ref (ad 52), .ref (ad 53), .ref (ad 54), .ref (ad 55), .ref (ad 56), .ref (ad 57), .ref (ad 58), .ref (ad 59), .int (0 : Int32), .ref (ad 60), .int (0 : Int32), .ref (ad 61), .ref (ad 62), .int (0 : Int32), .ref (ad 63), .ref (ad 64), .ref (ad 65), .ref (ad 66), .ref (ad 67), .ref (ad 68), .int (0 : Int32), .ref (ad 69), .ref (ad 70), .ref (ad 71), .ref (ad 72), .ref (ad 73), .int (0 : Int32), .int (0 : Int32), .int (0 : Int32), .ref (ad 74), .ref (ad 75), .ref (ad 76), .ref (ad 77), .ref (ad 78), .ref (ad 79)]) ∧ w1 58 = .inl (G.2.1 0, 4, .inl (upd (upd (upd (upd (fun _ => 0) 0 (0 : Int32)) 1 (0 : Int32)) 2 (0 : Int32)) 3 (0 : Int32))) ∧ ∀ k, k ≠ 0 → k ≠ 58 → w1 k = w k)) sz) 0 0 (tw_A 80 ad sz) := by
  refine tw_met (by decide) (Nat.le_of_ble_eq_true rfl) ?_
  intro p e s m args below meth c F hret hlk hin hargs hsz hH ls hl
  have hx := F.1.1
  have hb := F.1.2.1
  have hown := F.1.2.2.2.1
  have hts := F.1.2.2.2.2
  have hl : lv_has ls 3 [(0, .ref (ad 0))] := hl
  generalize hH0 : s.heap = H at hH ⊢
  refine lv_aload_n hx hb dX12_starts_0 rfl (lv_at hl 0 rfl) ?_
  refine lv_iconst (v := 0) hx hb dX12_starts_1 (by decide) ?_
  refine tw_put (r := 0) F hH kf_RX12_312 kp_X12_70 rfl (by decide) hw_0 (Nat.le_of_ble_eq_true rfl) rfl rfl dX12_starts_2 (fun H locs w1 hw2 hne3 hH => ?_)
  have hw2 : w1 0 = .inr (12, [.int (0 : Int32), .int (2 : Int32), .int (1 : Int32), .ref (ad 1), .ref (ad 2), .ref (ad 3), .ref (ad 4), .ref (ad 5), .int (0 : Int32), .ref (ad 6), .ref (ad 7), .ref (ad 8), .int (0 : Int32), .ref (ad 9), .ref (ad 10), .ref (ad 11), .ref (ad 12), .int (0 : Int32), .ref (ad 13), .ref (ad 14), .ref (ad 15), .ref (ad 16), .ref (ad 17), .ref (ad 18), .ref (ad 19), .ref (ad 20), .ref (ad 21), .ref (ad 22), .ref (ad 23), .ref (ad 24), .ref (ad 25), .ref (ad 26), .ref (ad 27), .ref (ad 28), .ref (ad 29), .ref (ad 30), .ref (ad 31), .ref (ad 32), .ref (ad 33), .ref (ad 34), .int (0 : Int32), .int (0 : Int32), .int (0 : Int32), .ref (G.2.2 (100 + 10)), .ref (ad 35), .ref (ad 36), .ref (ad 37), .int (0 : Int32), .ref (ad 38), .ref (ad 39), .ref (ad 40), .ref (ad 41), .ref (ad 42), .ref (ad 43), .ref (ad 44), .ref (ad 45), .ref (ad 46), .ref (ad 47), .ref (ad 48), .ref (ad 49), .ref (ad 50), .ref (ad 51), .ref (ad 52), .ref (ad 53), .ref (ad 54), .ref (ad 55), .ref (ad 56), .ref (ad 57), .ref (ad 58), .ref (ad 59), .int (0 : Int32), .ref (ad 60), .int (0 : Int32), .ref (ad 61), .ref (ad 62), .int (0 : Int32), .ref (ad 63), .ref (ad 64), .ref (ad 65), .ref (ad 66), .ref (ad 67), .ref (ad 68), .int (0 : Int32), .ref (ad 69), .ref (ad 70), .ref (ad 71), .ref (ad 72), .ref (ad 73), .int (0 : Int32), .int (0 : Int32), .int (0 : Int32), .ref (ad 74), .ref (ad 75), .ref (ad 76), .ref (ad 77), .ref (ad 78), .ref (ad 79)]) := hw2
  refine lv_iconst (v := 0) hx hb dX12_starts_5 (by decide) ?_
  refine lv_istore_n (lv' := [(1, .int (0 : Int32)), (0, .ref (ad 0))]) hx hb dX12_starts_6 rfl hl (by decide) rfl (fun ls hl => ?_)
  refine lv_iload_n hx hb dX12_starts_7 rfl (lv_at hl 0 rfl) ?_
  refine lv_aload_n hx hb dX12_starts_8 rfl (lv_at hl 1 rfl) ?_
  refine tw_get (r := 0) F hH kf_RX12_315 rfl (by decide) hw2 rfl dX12_starts_9 ?_
  have hw4 : w1 58 = .inl (G.2.1 0, 4, .inl (fun _ => 0)) := (hne3 58 (by decide)).trans (hw_58)
  refine tw_alen (r := 58) (t := 0) (v := 4) F hH rfl rfl (by decide) hw4 (by decide) dX12_starts_12 ?_
  refine lv_icmp_ge (tgt := 29) hx hb dX12_starts_13 (by decide) (fun c => absurd c (by decide)) (fun _ => ?_)
  refine lv_aload_n hx hb dX12_starts_16 rfl (lv_at hl 1 rfl) ?_
  refine tw_get (r := 0) F hH kf_RX12_315 rfl (by decide) hw2 rfl dX12_starts_17 ?_
  refine lv_iload_n hx hb dX12_starts_20 rfl (lv_at hl 0 rfl) ?_
  refine lv_iconst (v := 0) hx hb dX12_starts_21 (by decide) ?_
  refine tw_iast (r := 58) (j := 0) F hH rfl (by decide) hw4 (by decide) (by decide) dX12_starts_22 (fun H locs w6 hw7 hne8 hH => ?_)
  refine lv_iinc (v := (1 : Int32)) (lv' := [(1, .int (1 : Int32)), (0, .ref (ad 0))]) hx hb dX12_starts_23 hl (k := 0) rfl (by decide) (by decide) rfl (fun ls hl => ?_)
  refine lv_goto (tgt := 7) hx hb dX12_starts_26 (by decide) ?_
  refine lv_iload_n hx hb dX12_starts_7 rfl (lv_at hl 0 rfl) ?_
  refine lv_aload_n hx hb dX12_starts_8 rfl (lv_at hl 1 rfl) ?_
  have hw9 : w6 0 = .inr (12, [.int (0 : Int32), .int (2 : Int32), .int (1 : Int32), .ref (ad 1), .ref (ad 2), .ref (ad 3), .ref (ad 4), .ref (ad 5), .int (0 : Int32), .ref (ad 6), .ref (ad 7), .ref (ad 8), .int (0 : Int32), .ref (ad 9), .ref (ad 10), .ref (ad 11), .ref (ad 12), .int (0 : Int32), .ref (ad 13), .ref (ad 14), .ref (ad 15), .ref (ad 16), .ref (ad 17), .ref (ad 18), .ref (ad 19), .ref (ad 20), .ref (ad 21), .ref (ad 22), .ref (ad 23), .ref (ad 24), .ref (ad 25), .ref (ad 26), .ref (ad 27), .ref (ad 28), .ref (ad 29), .ref (ad 30), .ref (ad 31), .ref (ad 32), .ref (ad 33), .ref (ad 34), .int (0 : Int32), .int (0 : Int32), .int (0 : Int32), .ref (G.2.2 (100 + 10)), .ref (ad 35), .ref (ad 36), .ref (ad 37), .int (0 : Int32), .ref (ad 38), .ref (ad 39), .ref (ad 40), .ref (ad 41), .ref (ad 42), .ref (ad 43), .ref (ad 44), .ref (ad 45), .ref (ad 46), .ref (ad 47), .ref (ad 48), .ref (ad 49), .ref (ad 50), .ref (ad 51), .ref (ad 52), .ref (ad 53), .ref (ad 54), .ref (ad 55), .ref (ad 56), .ref (ad 57), .ref (ad 58), .ref (ad 59), .int (0 : Int32), .ref (ad 60), .int (0 : Int32), .ref (ad 61), .ref (ad 62), .int (0 : Int32), .ref (ad 63), .ref (ad 64), .ref (ad 65), .ref (ad 66), .ref (ad 67), .ref (ad 68), .int (0 : Int32), .ref (ad 69), .ref (ad 70), .ref (ad 71), .ref (ad 72), .ref (ad 73), .int (0 : Int32), .int (0 : Int32), .int (0 : Int32), .ref (ad 74), .ref (ad 75), .ref (ad 76), .ref (ad 77), .ref (ad 78), .ref (ad 79)]) := (hne8 0 (by decide)).trans (hw2)
  refine tw_get (r := 0) F hH kf_RX12_315 rfl (by decide) hw9 rfl dX12_starts_9 ?_
  refine tw_alen (r := 58) (t := 0) (v := 4) F hH rfl rfl (by decide) hw7 (by decide) dX12_starts_12 ?_
  refine lv_icmp_ge (tgt := 29) hx hb dX12_starts_13 (by decide) (fun c => absurd c (by decide)) (fun _ => ?_)
  refine lv_aload_n hx hb dX12_starts_16 rfl (lv_at hl 1 rfl) ?_
  refine tw_get (r := 0) F hH kf_RX12_315 rfl (by decide) hw9 rfl dX12_starts_17 ?_
  refine lv_iload_n hx hb dX12_starts_20 rfl (lv_at hl 0 rfl) ?_
  refine lv_iconst (v := 0) hx hb dX12_starts_21 (by decide) ?_
  refine tw_iast (r := 58) (j := 1) F hH rfl (by decide) hw7 (by decide) (by decide) dX12_starts_22 (fun H locs w11 hw12 hne13 hH => ?_)
  refine lv_iinc (v := (2 : Int32)) (lv' := [(1, .int (2 : Int32)), (0, .ref (ad 0))]) hx hb dX12_starts_23 hl (k := 0) rfl (by decide) (by decide) rfl (fun ls hl => ?_)
  refine lv_goto (tgt := 7) hx hb dX12_starts_26 (by decide) ?_
  refine lv_iload_n hx hb dX12_starts_7 rfl (lv_at hl 0 rfl) ?_
  refine lv_aload_n hx hb dX12_starts_8 rfl (lv_at hl 1 rfl) ?_
  have hw14 : w11 0 = .inr (12, [.int (0 : Int32), .int (2 : Int32), .int (1 : Int32), .ref (ad 1), .ref (ad 2), .ref (ad 3), .ref (ad 4), .ref (ad 5), .int (0 : Int32), .ref (ad 6), .ref (ad 7), .ref (ad 8), .int (0 : Int32), .ref (ad 9), .ref (ad 10), .ref (ad 11), .ref (ad 12), .int (0 : Int32), .ref (ad 13), .ref (ad 14), .ref (ad 15), .ref (ad 16), .ref (ad 17), .ref (ad 18), .ref (ad 19), .ref (ad 20), .ref (ad 21), .ref (ad 22), .ref (ad 23), .ref (ad 24), .ref (ad 25), .ref (ad 26), .ref (ad 27), .ref (ad 28), .ref (ad 29), .ref (ad 30), .ref (ad 31), .ref (ad 32), .ref (ad 33), .ref (ad 34), .int (0 : Int32), .int (0 : Int32), .int (0 : Int32), .ref (G.2.2 (100 + 10)), .ref (ad 35), .ref (ad 36), .ref (ad 37), .int (0 : Int32), .ref (ad 38), .ref (ad 39), .ref (ad 40), .ref (ad 41), .ref (ad 42), .ref (ad 43), .ref (ad 44), .ref (ad 45), .ref (ad 46), .ref (ad 47), .ref (ad 48), .ref (ad 49), .ref (ad 50), .ref (ad 51), .ref (ad 52), .ref (ad 53), .ref (ad 54), .ref (ad 55), .ref (ad 56), .ref (ad 57), .ref (ad 58), .ref (ad 59), .int (0 : Int32), .ref (ad 60), .int (0 : Int32), .ref (ad 61), .ref (ad 62), .int (0 : Int32), .ref (ad 63), .ref (ad 64), .ref (ad 65), .ref (ad 66), .ref (ad 67), .ref (ad 68), .int (0 : Int32), .ref (ad 69), .ref (ad 70), .ref (ad 71), .ref (ad 72), .ref (ad 73), .int (0 : Int32), .int (0 : Int32), .int (0 : Int32), .ref (ad 74), .ref (ad 75), .ref (ad 76), .ref (ad 77), .ref (ad 78), .ref (ad 79)]) := (hne13 0 (by decide)).trans (hw9)
  refine tw_get (r := 0) F hH kf_RX12_315 rfl (by decide) hw14 rfl dX12_starts_9 ?_
  refine tw_alen (r := 58) (t := 0) (v := 4) F hH rfl rfl (by decide) hw12 (by decide) dX12_starts_12 ?_
  refine lv_icmp_ge (tgt := 29) hx hb dX12_starts_13 (by decide) (fun c => absurd c (by decide)) (fun _ => ?_)
  refine lv_aload_n hx hb dX12_starts_16 rfl (lv_at hl 1 rfl) ?_
  refine tw_get (r := 0) F hH kf_RX12_315 rfl (by decide) hw14 rfl dX12_starts_17 ?_
  refine lv_iload_n hx hb dX12_starts_20 rfl (lv_at hl 0 rfl) ?_
  refine lv_iconst (v := 0) hx hb dX12_starts_21 (by decide) ?_
  refine tw_iast (r := 58) (j := 2) F hH rfl (by decide) hw12 (by decide) (by decide) dX12_starts_22 (fun H locs w16 hw17 hne18 hH => ?_)
  refine lv_iinc (v := (3 : Int32)) (lv' := [(1, .int (3 : Int32)), (0, .ref (ad 0))]) hx hb dX12_starts_23 hl (k := 0) rfl (by decide) (by decide) rfl (fun ls hl => ?_)
  refine lv_goto (tgt := 7) hx hb dX12_starts_26 (by decide) ?_
  refine lv_iload_n hx hb dX12_starts_7 rfl (lv_at hl 0 rfl) ?_
  refine lv_aload_n hx hb dX12_starts_8 rfl (lv_at hl 1 rfl) ?_
  have hw19 : w16 0 = .inr (12, [.int (0 : Int32), .int (2 : Int32), .int (1 : Int32), .ref (ad 1), .ref (ad 2), .ref (ad 3), .ref (ad 4), .ref (ad 5), .int (0 : Int32), .ref (ad 6), .ref (ad 7), .ref (ad 8), .int (0 : Int32), .ref (ad 9), .ref (ad 10), .ref (ad 11), .ref (ad 12), .int (0 : Int32), .ref (ad 13), .ref (ad 14), .ref (ad 15), .ref (ad 16), .ref (ad 17), .ref (ad 18), .ref (ad 19), .ref (ad 20), .ref (ad 21), .ref (ad 22), .ref (ad 23), .ref (ad 24), .ref (ad 25), .ref (ad 26), .ref (ad 27), .ref (ad 28), .ref (ad 29), .ref (ad 30), .ref (ad 31), .ref (ad 32), .ref (ad 33), .ref (ad 34), .int (0 : Int32), .int (0 : Int32), .int (0 : Int32), .ref (G.2.2 (100 + 10)), .ref (ad 35), .ref (ad 36), .ref (ad 37), .int (0 : Int32), .ref (ad 38), .ref (ad 39), .ref (ad 40), .ref (ad 41), .ref (ad 42), .ref (ad 43), .ref (ad 44), .ref (ad 45), .ref (ad 46), .ref (ad 47), .ref (ad 48), .ref (ad 49), .ref (ad 50), .ref (ad 51), .ref (ad 52), .ref (ad 53), .ref (ad 54), .ref (ad 55), .ref (ad 56), .ref (ad 57), .ref (ad 58), .ref (ad 59), .int (0 : Int32), .ref (ad 60), .int (0 : Int32), .ref (ad 61), .ref (ad 62), .int (0 : Int32), .ref (ad 63), .ref (ad 64), .ref (ad 65), .ref (ad 66), .ref (ad 67), .ref (ad 68), .int (0 : Int32), .ref (ad 69), .ref (ad 70), .ref (ad 71), .ref (ad 72), .ref (ad 73), .int (0 : Int32), .int (0 : Int32), .int (0 : Int32), .ref (ad 74), .ref (ad 75), .ref (ad 76), .ref (ad 77), .ref (ad 78), .ref (ad 79)]) := (hne18 0 (by decide)).trans (hw14)
  refine tw_get (r := 0) F hH kf_RX12_315 rfl (by decide) hw19 rfl dX12_starts_9 ?_
  refine tw_alen (r := 58) (t := 0) (v := 4) F hH rfl rfl (by decide) hw17 (by decide) dX12_starts_12 ?_
  refine lv_icmp_ge (tgt := 29) hx hb dX12_starts_13 (by decide) (fun c => absurd c (by decide)) (fun _ => ?_)
  refine lv_aload_n hx hb dX12_starts_16 rfl (lv_at hl 1 rfl) ?_
  refine tw_get (r := 0) F hH kf_RX12_315 rfl (by decide) hw19 rfl dX12_starts_17 ?_
  refine lv_iload_n hx hb dX12_starts_20 rfl (lv_at hl 0 rfl) ?_
  refine lv_iconst (v := 0) hx hb dX12_starts_21 (by decide) ?_
  refine tw_iast (r := 58) (j := 3) F hH rfl (by decide) hw17 (by decide) (by decide) dX12_starts_22 (fun H locs w21 hw22 hne23 hH => ?_)
  refine lv_iinc (v := (4 : Int32)) (lv' := [(1, .int (4 : Int32)), (0, .ref (ad 0))]) hx hb dX12_starts_23 hl (k := 0) rfl (by decide) (by decide) rfl (fun ls hl => ?_)
  refine lv_goto (tgt := 7) hx hb dX12_starts_26 (by decide) ?_
  refine lv_iload_n hx hb dX12_starts_7 rfl (lv_at hl 0 rfl) ?_
  refine lv_aload_n hx hb dX12_starts_8 rfl (lv_at hl 1 rfl) ?_
  have hw24 : w21 0 = .inr (12, [.int (0 : Int32), .int (2 : Int32), .int (1 : Int32), .ref (ad 1), .ref (ad 2), .ref (ad 3), .ref (ad 4), .ref (ad 5), .int (0 : Int32), .ref (ad 6), .ref (ad 7), .ref (ad 8), .int (0 : Int32), .ref (ad 9), .ref (ad 10), .ref (ad 11), .ref (ad 12), .int (0 : Int32), .ref (ad 13), .ref (ad 14), .ref (ad 15), .ref (ad 16), .ref (ad 17), .ref (ad 18), .ref (ad 19), .ref (ad 20), .ref (ad 21), .ref (ad 22), .ref (ad 23), .ref (ad 24), .ref (ad 25), .ref (ad 26), .ref (ad 27), .ref (ad 28), .ref (ad 29), .ref (ad 30), .ref (ad 31), .ref (ad 32), .ref (ad 33), .ref (ad 34), .int (0 : Int32), .int (0 : Int32), .int (0 : Int32), .ref (G.2.2 (100 + 10)), .ref (ad 35), .ref (ad 36), .ref (ad 37), .int (0 : Int32), .ref (ad 38), .ref (ad 39), .ref (ad 40), .ref (ad 41), .ref (ad 42), .ref (ad 43), .ref (ad 44), .ref (ad 45), .ref (ad 46), .ref (ad 47), .ref (ad 48), .ref (ad 49), .ref (ad 50), .ref (ad 51), .ref (ad 52), .ref (ad 53), .ref (ad 54), .ref (ad 55), .ref (ad 56), .ref (ad 57), .ref (ad 58), .ref (ad 59), .int (0 : Int32), .ref (ad 60), .int (0 : Int32), .ref (ad 61), .ref (ad 62), .int (0 : Int32), .ref (ad 63), .ref (ad 64), .ref (ad 65), .ref (ad 66), .ref (ad 67), .ref (ad 68), .int (0 : Int32), .ref (ad 69), .ref (ad 70), .ref (ad 71), .ref (ad 72), .ref (ad 73), .int (0 : Int32), .int (0 : Int32), .int (0 : Int32), .ref (ad 74), .ref (ad 75), .ref (ad 76), .ref (ad 77), .ref (ad 78), .ref (ad 79)]) := (hne23 0 (by decide)).trans (hw19)
  refine tw_get (r := 0) F hH kf_RX12_315 rfl (by decide) hw24 rfl dX12_starts_9 ?_
  refine tw_alen (r := 58) (t := 0) (v := 4) F hH rfl rfl (by decide) hw22 (by decide) dX12_starts_12 ?_
  refine lv_icmp_ge (tgt := 29) hx hb dX12_starts_13 (by decide) (fun _ => ?_) (fun c => absurd c (by decide))
  refine lv_iconst (v := 0) hx hb dX12_starts_29 (by decide) ?_
  refine lv_istore_n (lv' := [(1, .int (0 : Int32)), (0, .ref (ad 0))]) hx hb dX12_starts_30 rfl hl (by decide) rfl (fun ls hl => ?_)
  refine lv_iload_n hx hb dX12_starts_31 rfl (lv_at hl 0 rfl) ?_
  refine lv_aload_n hx hb dX12_starts_32 rfl (lv_at hl 1 rfl) ?_
  refine tw_get (r := 0) F hH kf_RX12_30 rfl (by decide) hw24 rfl dX12_starts_33 ?_
  refine lv_icmp_ge (tgt := 303) hx hb dX12_starts_36 (by decide) (fun _ => ?_) (fun c => absurd c (by decide))
  exact tw_vret F hH hret hlk (Nat.le_of_ble_eq_true rfl) (Nat.le_of_ble_eq_true rfl) dX12_starts_303 (⟨trivial, hw24, hw22, fun k h0 h1 => ((hne23 k (by omega)).trans ((hne18 k (by omega)).trans ((hne13 k (by omega)).trans ((hne8 k (by omega)).trans (hne3 k (by omega))))))⟩)
set_option maxHeartbeats 4000000 in
set_option maxRecDepth 100000 in
theorem c_X12_next (l : Launch) (G : tw_G) (ad : Nat → Nat) (w : Nat → va_E) (sz : Nat) (hw_0 : w 0 = .inr (12, [.int (0 : Int32), .int (2 : Int32), .int (1 : Int32), .ref (ad 1), .ref (ad 2), .ref (ad 3), .ref (ad 4), .ref (ad 5), .int (0 : Int32), .ref (ad 6), .ref (ad 7), .ref (ad 8), .int (0 : Int32), .ref (ad 9), .ref (ad 10), .ref (ad 11), .ref (ad 12), .int (0 : Int32), .ref (ad 13), .ref (ad 14), .ref (ad 15), .ref (ad 16), .ref (ad 17), .ref (ad 18), .ref (ad 19), .ref (ad 20), .ref (ad 21), .ref (ad 22), .ref (ad 23), .ref (ad 24), .ref (ad 25), .ref (ad 26), .ref (ad 27), .ref (ad 28), .ref (ad 29), .ref (ad 30), .ref (ad 31), .ref (ad 32), .ref (ad 33), .ref (ad 34), .int (0 : Int32), .int (0 : Int32), .int (0 : Int32), .ref (G.2.2 (100 + 10)), .ref (ad 35), .ref (ad 36), .ref (ad 37), .int (0 : Int32), .ref (ad 38), .ref (ad 39), .ref (ad 40), .ref (ad 41), .ref (ad 42), .ref (ad 43), .ref (ad 44), .ref (ad 45), .ref (ad 46), .ref (ad 47), .ref (ad 48), .ref (ad 49), .ref (ad 50), .ref (ad 51), .ref (ad 52), .ref (ad 53), .ref (ad 54), .ref (ad 55), .ref (ad 56), .ref (ad 57), .ref (ad 58), .ref (ad 59), .int (0 : Int32), .ref (ad 60), .int (0 : Int32), .ref (ad 61), .ref (ad 62), .int (0 : Int32), .ref (ad 63), .ref (ad 64), .ref (ad 65), .ref (ad 66), .ref (ad 67), .ref (ad 68), .int (0 : Int32), .ref (ad 69), .ref (ad 70), .ref (ad 71), .ref (ad 72), .ref (ad 73), .int (0 : Int32), .int (0 : Int32), .int (0 : Int32), .ref (ad 74), .ref (ad 75), .ref (ad 76), .ref (ad 77), .ref (ad 78), .ref (ad 79)])) : Met l yX12_next (tw_ws yX12_next cX12_next 3 (some .int)) ({ frames := 0, cells := 0, slots := 0, locals := 0 }) (tw_Pre G 80 ad w sz [.ref (ad 0)]) (tw_Qi G 80 ad (fun r w1 => ((-1 : Int32) = r ∧ True ∧ w = w1)) sz) 0 0 (tw_A 80 ad sz) := by
  refine tw_met (by decide) (Nat.le_of_ble_eq_true rfl) ?_
  intro p e s m args below meth c F hret hlk hin hargs hsz hH ls hl
  have hx := F.1.1
  have hb := F.1.2.1
  have hown := F.1.2.2.2.1
  have hts := F.1.2.2.2.2
  have hl : lv_has ls 3 [(0, .ref (ad 0))] := hl
  generalize hH0 : s.heap = H at hH ⊢
  refine lv_iconst (v := -1) hx hb dX12_next_0 (by decide) ?_
  refine lv_istore_n (lv' := [(1, .int (-1 : Int32)), (0, .ref (ad 0))]) hx hb dX12_next_1 rfl hl (by decide) rfl (fun ls hl => ?_)
  refine lv_iconst (v := 0) hx hb dX12_next_2 (by decide) ?_
  refine lv_istore_n (lv' := [(2, .int (0 : Int32)), (1, .int (-1 : Int32)), (0, .ref (ad 0))]) hx hb dX12_next_3 rfl hl (by decide) rfl (fun ls hl => ?_)
  refine lv_iload_n hx hb dX12_next_4 rfl (lv_at hl 0 rfl) ?_
  refine lv_aload_n hx hb dX12_next_5 rfl (lv_at hl 2 rfl) ?_
  refine tw_get (r := 0) F hH kf_RX12_30 rfl (by decide) hw_0 rfl dX12_next_6 ?_
  refine lv_icmp_ge (tgt := 77) hx hb dX12_next_9 (by decide) (fun _ => ?_) (fun c => absurd c (by decide))
  refine lv_iload_n hx hb dX12_next_77 rfl (lv_at hl 1 rfl) ?_
  exact tw_iret F hH hret hlk rfl (Nat.le_of_ble_eq_true rfl) (Nat.le_of_ble_eq_true rfl) dX12_next_78 (⟨rfl, trivial, rfl⟩)
set_option maxHeartbeats 4000000 in
set_option maxRecDepth 100000 in
theorem c_X12_runs (l : Launch) (G : tw_G) (ad : Nat → Nat) (w : Nat → va_E) (sz : Nat) (hw_0 : w 0 = .inr (12, [.int (0 : Int32), .int (2 : Int32), .int (1 : Int32), .ref (ad 1), .ref (ad 2), .ref (ad 3), .ref (ad 4), .ref (ad 5), .int (0 : Int32), .ref (ad 6), .ref (ad 7), .ref (ad 8), .int (0 : Int32), .ref (ad 9), .ref (ad 10), .ref (ad 11), .ref (ad 12), .int (0 : Int32), .ref (ad 13), .ref (ad 14), .ref (ad 15), .ref (ad 16), .ref (ad 17), .ref (ad 18), .ref (ad 19), .ref (ad 20), .ref (ad 21), .ref (ad 22), .ref (ad 23), .ref (ad 24), .ref (ad 25), .ref (ad 26), .ref (ad 27), .ref (ad 28), .ref (ad 29), .ref (ad 30), .ref (ad 31), .ref (ad 32), .ref (ad 33), .ref (ad 34), .int (0 : Int32), .int (0 : Int32), .int (0 : Int32), .ref (G.2.2 (100 + 10)), .ref (ad 35), .ref (ad 36), .ref (ad 37), .int (0 : Int32), .ref (ad 38), .ref (ad 39), .ref (ad 40), .ref (ad 41), .ref (ad 42), .ref (ad 43), .ref (ad 44), .ref (ad 45), .ref (ad 46), .ref (ad 47), .ref (ad 48), .ref (ad 49), .ref (ad 50), .ref (ad 51), .ref (ad 52), .ref (ad 53), .ref (ad 54), .ref (ad 55), .ref (ad 56), .ref (ad 57), .ref (ad 58), .ref (ad 59), .int (0 : Int32), .ref (ad 60), .int (0 : Int32), .ref (ad 61), .ref (ad 62), .int (0 : Int32), .ref (ad 63), .ref (ad 64), .ref (ad 65), .ref (ad 66), .ref (ad 67), .ref (ad 68), .int (0 : Int32), .ref (ad 69), .ref (ad 70), .ref (ad 71), .ref (ad 72), .ref (ad 73), .int (0 : Int32), .int (0 : Int32), .int (0 : Int32), .ref (ad 74), .ref (ad 75), .ref (ad 76), .ref (ad 77), .ref (ad 78), .ref (ad 79)])) (hw_58 : w 58 = .inl (G.2.1 0, 4, .inl (fun _ => 0))) : Met l yX12_runs (tw_ws yX12_runs cX12_runs 2 none) ({ frames := 1, cells := 0, slots := 0, locals := 22 }) (tw_Pre G 80 ad w sz [.ref (ad 0)]) (tw_Qv G 80 ad (fun w1 => (True ∧ w1 0 = .inr (12, [.int (0 : Int32), .int (2 : Int32), .int (1 : Int32), .ref (ad 1), .ref (ad 2), .ref (ad 3), .ref (ad 4), .ref (ad 5), .int (0 : Int32), .ref (ad 6), .ref (ad 7), .ref (ad 8), .int (0 : Int32), .ref (ad 9), .ref (ad 10), .ref (ad 11), .ref (ad 12), .int (0 : Int32), .ref (ad 13), .ref (ad 14), .ref (ad 15), .ref (ad 16), .ref (ad 17), .ref (ad 18), .ref (ad 19), .ref (ad 20), .ref (ad 21), .ref (ad 22), .ref (ad 23), .ref (ad 24), .ref (ad 25), .ref (ad 26), .ref (ad 27), .ref (ad 28), .ref (ad 29), .ref (ad 30), .ref (ad 31), .ref (ad 32), .ref (ad 33), .ref (ad 34), .int (0 : Int32), .int (0 : Int32), .int (0 : Int32), .ref (G.2.2 (100 + 10)), .ref (ad 35), .ref (ad 36), .ref (ad 37), .int (0 : Int32), .ref (ad 38), .ref (ad 39), .ref (ad 40), .ref (ad 41), .ref (ad 42), .ref (ad 43), .ref (ad 44), .ref (ad 45), .ref (ad 46), .ref (ad 47), .ref (ad 48), .ref (ad 49), .ref (ad 50), .ref (ad 51), .ref (ad 52), .ref (ad 53), .ref (ad 54), .ref (ad 55), .ref (ad 56), .ref (ad 57), .ref (ad 58), .ref (ad 59), .int (0 : Int32), .ref (ad 60), .int (0 : Int32), .ref (ad 61), .ref (ad 62), .int (0 : Int32), .ref (ad 63), .ref (ad 64), .ref (ad 65), .ref (ad 66), .ref (ad 67), .ref (ad 68), .int (0 : Int32), .ref (ad 69), .ref (ad 70), .ref (ad 71), .ref (ad 72), .ref (ad 73), .int (0 : Int32), .int (0 : Int32), .int (0 : Int32), .ref (ad 74), .ref (ad 75), .ref (ad 76), .ref (ad 77), .ref (ad 78), .ref (ad 79)]) ∧ w1 58 = .inl (G.2.1 0, 4, .inl (upd (upd (upd (upd (fun _ => 0) 0 (0 : Int32)) 1 (0 : Int32)) 2 (0 : Int32)) 3 (0 : Int32))) ∧ ∀ k, k ≠ 0 → k ≠ 58 → w1 k = w k)) sz) 0 0 (tw_A 80 ad sz) := by
  refine tw_met (by decide) (Nat.le_of_ble_eq_true rfl) ?_
  intro p e s m args below meth c F hret hlk hin hargs hsz hH ls hl
  have hx := F.1.1
  have hb := F.1.2.1
  have hown := F.1.2.2.2.1
  have hts := F.1.2.2.2.2
  have hl : lv_has ls 2 [(0, .ref (ad 0))] := hl
  generalize hH0 : s.heap = H at hH ⊢
  refine lv_aload_n hx hb dX12_runs_0 rfl (lv_at hl 0 rfl) ?_
  refine tw_callv F hH (tw_runV (r := 0) (As := []) (rest := []) F hH (c_X12_starts l G ad w H.size hw_0 hw_58) (tw_gl kw_1546 rfl) km_X12_starts kv_X12_starts rfl rfl ⟨(Nat.le_of_ble_eq_true rfl), (Nat.le_of_ble_eq_true rfl)⟩ (by decide) hw_0 rfl rfl hl.1 rfl (Nat.le_of_ble_eq_true rfl) dX12_runs_1 ⟨(Nat.le_of_ble_eq_true rfl), (Nat.le_of_ble_eq_true rfl)⟩) (fun w1 H locs hp2 _ hH => ?_)
  obtain ⟨-, hw4, hw5, hfr6⟩ := hp2
  refine lv_aload_n hx hb dX12_runs_4 rfl (lv_at hl 0 rfl) ?_
  refine tw_calli F hH (tw_runV (r := 0) (As := []) (rest := []) F hH (c_X12_next l G ad w1 H.size hw4) (tw_gl kw_1550 rfl) km_X12_next kv_X12_next rfl rfl ⟨(Nat.le_of_ble_eq_true rfl), (Nat.le_of_ble_eq_true rfl)⟩ (by decide) hw4 rfl rfl hl.1 rfl (Nat.le_of_ble_eq_true rfl) dX12_runs_5 ⟨(Nat.le_of_ble_eq_true rfl), (Nat.le_of_ble_eq_true rfl)⟩) (fun r9 w7 H locs hp8 _ hH => ?_)
  obtain ⟨rfl, -, rfl⟩ := hp8
  refine lv_istore_n (lv' := [(1, .int (-1 : Int32)), (0, .ref (ad 0))]) hx hb dX12_runs_8 rfl hl (by decide) rfl (fun ls hl => ?_)
  refine lv_iload_n hx hb dX12_runs_9 rfl (lv_at hl 0 rfl) ?_
  refine lv_if_lt (tgt := 32) hx hb dX12_runs_10 (by decide) (fun _ => ?_) (fun c => absurd c (by decide))
  exact tw_vret F hH hret hlk (Nat.le_of_ble_eq_true rfl) (Nat.le_of_ble_eq_true rfl) dX12_runs_32 (⟨trivial, hw4, hw5, fun k h0 h1 => (hfr6 k (by omega) (by omega))⟩)
set_option maxHeartbeats 4000000 in
set_option maxRecDepth 100000 in
theorem c_X12_ledBy (l : Launch) (G : tw_G) (ad : Nat → Nat) (w : Nat → va_E) (sz : Nat) (x1 : Int32) (z1 : Int) (e1 : x1.toInt = z1) (x2 : Int32) (z2 : Int) (e2 : x2.toInt = z2) (hw_0 : w 0 = .inr (12, [.int (0 : Int32), .int (2 : Int32), .int (1 : Int32), .ref (ad 1), .ref (ad 2), .ref (ad 3), .ref (ad 4), .ref (ad 5), .int (0 : Int32), .ref (ad 6), .ref (ad 7), .ref (ad 8), .int (0 : Int32), .ref (ad 9), .ref (ad 10), .ref (ad 11), .ref (ad 12), .int (0 : Int32), .ref (ad 13), .ref (ad 14), .ref (ad 15), .ref (ad 16), .ref (ad 17), .ref (ad 18), .ref (ad 19), .ref (ad 20), .ref (ad 21), .ref (ad 22), .ref (ad 23), .ref (ad 24), .ref (ad 25), .ref (ad 26), .ref (ad 27), .ref (ad 28), .ref (ad 29), .ref (ad 30), .ref (ad 31), .ref (ad 32), .ref (ad 33), .ref (ad 34), .int (0 : Int32), .int (0 : Int32), .int (0 : Int32), .ref (G.2.2 (100 + 10)), .ref (ad 35), .ref (ad 36), .ref (ad 37), .int (0 : Int32), .ref (ad 38), .ref (ad 39), .ref (ad 40), .ref (ad 41), .ref (ad 42), .ref (ad 43), .ref (ad 44), .ref (ad 45), .ref (ad 46), .ref (ad 47), .ref (ad 48), .ref (ad 49), .ref (ad 50), .ref (ad 51), .ref (ad 52), .ref (ad 53), .ref (ad 54), .ref (ad 55), .ref (ad 56), .ref (ad 57), .ref (ad 58), .ref (ad 59), .int (0 : Int32), .ref (ad 60), .int (0 : Int32), .ref (ad 61), .ref (ad 62), .int (0 : Int32), .ref (ad 63), .ref (ad 64), .ref (ad 65), .ref (ad 66), .ref (ad 67), .ref (ad 68), .int (0 : Int32), .ref (ad 69), .ref (ad 70), .ref (ad 71), .ref (ad 72), .ref (ad 73), .int (0 : Int32), .int (0 : Int32), .int (0 : Int32), .ref (ad 74), .ref (ad 75), .ref (ad 76), .ref (ad 77), .ref (ad 78), .ref (ad 79)])) : Met l yX12_ledBy (tw_ws yX12_ledBy cX12_ledBy 9 (some .int)) ({ frames := 0, cells := 0, slots := 0, locals := 0 }) (tw_Pre G 80 ad w sz [.ref (ad 0), .int x1, .int x2]) (tw_Qi G 80 ad (fun r w1 => ((-1 : Int32) = r ∧ True ∧ w = w1)) sz) 0 0 (tw_A 80 ad sz) := by
  refine tw_met (by decide) (Nat.le_of_ble_eq_true rfl) ?_
  intro p e s m args below meth c F hret hlk hin hargs hsz hH ls hl
  have hx := F.1.1
  have hb := F.1.2.1
  have hown := F.1.2.2.2.1
  have hts := F.1.2.2.2.2
  have hl : lv_has ls 9 [(0, .ref (ad 0)), (1, .int x1), (2, .int x2)] := hl
  generalize hH0 : s.heap = H at hH ⊢
  refine lv_aload_n hx hb dX12_ledBy_0 rfl (lv_at hl 0 rfl) ?_
  refine tw_get (r := 0) F hH kf_RX12_7 rfl (by decide) hw_0 rfl dX12_ledBy_1 ?_
  refine lv_iload_n hx hb dX12_ledBy_4 rfl (lv_at hl 1 rfl) ?_
  refine lv_iconst (v := 1) hx hb dX12_ledBy_5 (by decide) ?_
  refine lv_iadd hx hb dX12_ledBy_6 ?_
  refine lv_topi (fun f1 ef1 => ?_)
  refine lv_imul hx hb dX12_ledBy_7 ?_
  refine lv_topi (fun f2 ef2 => ?_)
  refine lv_iconst (v := 1) hx hb dX12_ledBy_8 (by decide) ?_
  refine lv_isub hx hb dX12_ledBy_9 ?_
  refine lv_topi (fun f3 ef3 => ?_)
  refine lv_istore_n (lv' := [(3, .int f3), (0, .ref (ad 0)), (1, .int x1), (2, .int x2)]) hx hb dX12_ledBy_10 rfl hl (by decide) rfl (fun ls hl => ?_)
  refine lv_iconst (v := 0) hx hb dX12_ledBy_11 (by decide) ?_
  refine lv_istore (lv' := [(4, .int (0 : Int32)), (3, .int f3), (0, .ref (ad 0)), (1, .int x1), (2, .int x2)]) hx hb dX12_ledBy_12 hl (by decide) rfl (fun ls hl => ?_)
  refine lv_iload hx hb dX12_ledBy_14 (lv_at hl 0 rfl) ?_
  refine lv_aload_n hx hb dX12_ledBy_16 rfl (lv_at hl 2 rfl) ?_
  refine tw_get (r := 0) F hH kf_RX12_30 rfl (by decide) hw_0 rfl dX12_ledBy_17 ?_
  refine lv_icmp_ge (tgt := 128) hx hb dX12_ledBy_20 (by decide) (fun _ => ?_) (fun c => absurd c (by decide))
  refine lv_iconst (v := -1) hx hb dX12_ledBy_128 (by decide) ?_
  exact tw_iret F hH hret hlk rfl (Nat.le_of_ble_eq_true rfl) (Nat.le_of_ble_eq_true rfl) dX12_ledBy_129 (⟨rfl, trivial, rfl⟩)
set_option maxHeartbeats 4000000 in
set_option maxRecDepth 100000 in
theorem c_X12_led (l : Launch) (G : tw_G) (ad : Nat → Nat) (w : Nat → va_E) (sz : Nat) (x1 : Int32) (z1 : Int) (e1 : x1.toInt = z1) (x2 : Int32) (z2 : Int) (e2 : x2.toInt = z2) (hw_0 : w 0 = .inr (12, [.int (0 : Int32), .int (2 : Int32), .int (1 : Int32), .ref (ad 1), .ref (ad 2), .ref (ad 3), .ref (ad 4), .ref (ad 5), .int (0 : Int32), .ref (ad 6), .ref (ad 7), .ref (ad 8), .int (0 : Int32), .ref (ad 9), .ref (ad 10), .ref (ad 11), .ref (ad 12), .int (0 : Int32), .ref (ad 13), .ref (ad 14), .ref (ad 15), .ref (ad 16), .ref (ad 17), .ref (ad 18), .ref (ad 19), .ref (ad 20), .ref (ad 21), .ref (ad 22), .ref (ad 23), .ref (ad 24), .ref (ad 25), .ref (ad 26), .ref (ad 27), .ref (ad 28), .ref (ad 29), .ref (ad 30), .ref (ad 31), .ref (ad 32), .ref (ad 33), .ref (ad 34), .int (0 : Int32), .int (0 : Int32), .int (0 : Int32), .ref (G.2.2 (100 + 10)), .ref (ad 35), .ref (ad 36), .ref (ad 37), .int (0 : Int32), .ref (ad 38), .ref (ad 39), .ref (ad 40), .ref (ad 41), .ref (ad 42), .ref (ad 43), .ref (ad 44), .ref (ad 45), .ref (ad 46), .ref (ad 47), .ref (ad 48), .ref (ad 49), .ref (ad 50), .ref (ad 51), .ref (ad 52), .ref (ad 53), .ref (ad 54), .ref (ad 55), .ref (ad 56), .ref (ad 57), .ref (ad 58), .ref (ad 59), .int (0 : Int32), .ref (ad 60), .int (0 : Int32), .ref (ad 61), .ref (ad 62), .int (0 : Int32), .ref (ad 63), .ref (ad 64), .ref (ad 65), .ref (ad 66), .ref (ad 67), .ref (ad 68), .int (0 : Int32), .ref (ad 69), .ref (ad 70), .ref (ad 71), .ref (ad 72), .ref (ad 73), .int (0 : Int32), .int (0 : Int32), .int (0 : Int32), .ref (ad 74), .ref (ad 75), .ref (ad 76), .ref (ad 77), .ref (ad 78), .ref (ad 79)])) (hw_58 : w 58 = .inl (G.2.1 0, 4, .inl (fun _ => 0))) : Met l yX12_led (tw_ws yX12_led cX12_led 3 (some .int)) ({ frames := 2, cells := 0, slots := 0, locals := 46 }) (tw_Pre G 80 ad w sz [.ref (ad 0), .int x1, .int x2]) (tw_Qi G 80 ad (fun r w1 => ((-1 : Int32) = r ∧ ((((((z1 < 0)) ∨ ((¬ (z1 < 0)) ∧ (0 < z1))))) ∨ ((((¬ (z1 < 0)) ∧ (¬ (0 < z1)))) ∧ (0 ≤ z2)) ∨ ((((¬ (z1 < 0)) ∧ (¬ (0 < z1)))) ∧ (¬ (0 ≤ z2)))))) sz) 0 0 (tw_A 80 ad sz) := by
  refine tw_met (by decide) (Nat.le_of_ble_eq_true rfl) ?_
  intro p e s m args below meth c F hret hlk hin hargs hsz hH ls hl
  have hx := F.1.1
  have hb := F.1.2.1
  have hown := F.1.2.2.2.1
  have hts := F.1.2.2.2.2
  have hl : lv_has ls 3 [(0, .ref (ad 0)), (1, .int x1), (2, .int x2)] := hl
  generalize hH0 : s.heap = H at hH ⊢
  refine lv_aload_n hx hb dX12_led_0 rfl (lv_at hl 0 rfl) ?_
  refine lv_iconst (v := 0) hx hb dX12_led_1 (by decide) ?_
  refine tw_put (r := 0) F hH kf_RX12_3 kp_X12_0 rfl (by decide) hw_0 (Nat.le_of_ble_eq_true rfl) rfl rfl dX12_led_2 (fun H locs w1 hw2 hne3 hH => ?_)
  have hw2 : w1 0 = .inr (12, [.int (0 : Int32), .int (2 : Int32), .int (1 : Int32), .ref (ad 1), .ref (ad 2), .ref (ad 3), .ref (ad 4), .ref (ad 5), .int (0 : Int32), .ref (ad 6), .ref (ad 7), .ref (ad 8), .int (0 : Int32), .ref (ad 9), .ref (ad 10), .ref (ad 11), .ref (ad 12), .int (0 : Int32), .ref (ad 13), .ref (ad 14), .ref (ad 15), .ref (ad 16), .ref (ad 17), .ref (ad 18), .ref (ad 19), .ref (ad 20), .ref (ad 21), .ref (ad 22), .ref (ad 23), .ref (ad 24), .ref (ad 25), .ref (ad 26), .ref (ad 27), .ref (ad 28), .ref (ad 29), .ref (ad 30), .ref (ad 31), .ref (ad 32), .ref (ad 33), .ref (ad 34), .int (0 : Int32), .int (0 : Int32), .int (0 : Int32), .ref (G.2.2 (100 + 10)), .ref (ad 35), .ref (ad 36), .ref (ad 37), .int (0 : Int32), .ref (ad 38), .ref (ad 39), .ref (ad 40), .ref (ad 41), .ref (ad 42), .ref (ad 43), .ref (ad 44), .ref (ad 45), .ref (ad 46), .ref (ad 47), .ref (ad 48), .ref (ad 49), .ref (ad 50), .ref (ad 51), .ref (ad 52), .ref (ad 53), .ref (ad 54), .ref (ad 55), .ref (ad 56), .ref (ad 57), .ref (ad 58), .ref (ad 59), .int (0 : Int32), .ref (ad 60), .int (0 : Int32), .ref (ad 61), .ref (ad 62), .int (0 : Int32), .ref (ad 63), .ref (ad 64), .ref (ad 65), .ref (ad 66), .ref (ad 67), .ref (ad 68), .int (0 : Int32), .ref (ad 69), .ref (ad 70), .ref (ad 71), .ref (ad 72), .ref (ad 73), .int (0 : Int32), .int (0 : Int32), .int (0 : Int32), .ref (ad 74), .ref (ad 75), .ref (ad 76), .ref (ad 77), .ref (ad 78), .ref (ad 79)]) := hw2
  refine lv_aload_n hx hb dX12_led_5 rfl (lv_at hl 0 rfl) ?_
  refine lv_iload_n hx hb dX12_led_6 rfl (lv_at hl 1 rfl) ?_
  refine tw_calli F hH (tw_runV (r := 0) (As := [.int x1]) (rest := []) F hH (c_X12_isLap l G ad w1 H.size x1 (z1) e1 hw2) (tw_gl kw_1417 rfl) km_X12_isLap kv_X12_isLap rfl rfl ⟨(Nat.le_of_ble_eq_true rfl), (Nat.le_of_ble_eq_true rfl)⟩ (by decide) hw2 rfl rfl hl.1 rfl (Nat.le_of_ble_eq_true rfl) dX12_led_7 ⟨(Nat.le_of_ble_eq_true rfl), (Nat.le_of_ble_eq_true rfl)⟩) (fun r6 w4 H locs hp5 _ hH => ?_)
  rcases hp5 with ⟨rfl, hc7, rfl⟩ | ⟨rfl, hc8, rfl⟩
  · skip
    refine lv_if_eq (tgt := 17) hx hb dX12_led_10 (by decide) (fun _ => ?_) (fun c => absurd c (by decide))
    refine lv_iconst (v := -1) hx hb dX12_led_17 (by decide) ?_
    exact tw_iret F hH hret hlk rfl (Nat.le_of_ble_eq_true rfl) (Nat.le_of_ble_eq_true rfl) dX12_led_18 (⟨rfl, (Or.inl (by omega))⟩)
  · skip
    refine lv_if_eq (tgt := 17) hx hb dX12_led_10 (by decide) (fun c => absurd c (by decide)) (fun _ => ?_)
    refine lv_iload_n hx hb dX12_led_13 rfl (lv_at hl 2 rfl) ?_
    refine lv_if_ge (tgt := 19) hx hb dX12_led_14 (by decide) (fun c11 => ?_) (fun c11 => ?_)
    · have c11 := (tw_le (by decide : (0 : Int32).toInt = 0) e2).mp c11
      refine lv_aload_n hx hb dX12_led_19 rfl (lv_at hl 0 rfl) ?_
      have hw12 : w1 58 = .inl (G.2.1 0, 4, .inl (fun _ => 0)) := (hne3 58 (by decide)).trans (hw_58)
      refine tw_callv F hH (tw_runV (r := 0) (As := []) (rest := []) F hH (c_X12_runs l G ad w1 H.size hw2 hw12) (tw_gl kw_1542 rfl) km_X12_runs kv_X12_runs rfl rfl ⟨(Nat.le_of_ble_eq_true rfl), (Nat.le_of_ble_eq_true rfl)⟩ (by decide) hw2 rfl rfl hl.1 rfl (Nat.le_of_ble_eq_true rfl) dX12_led_20 ⟨(Nat.le_of_ble_eq_true rfl), (Nat.le_of_ble_eq_true rfl)⟩) (fun w13 H locs hp14 _ hH => ?_)
      obtain ⟨-, hw16, hw17, hfr18⟩ := hp14
      refine lv_aload_n hx hb dX12_led_23 rfl (lv_at hl 0 rfl) ?_
      refine lv_iload_n hx hb dX12_led_24 rfl (lv_at hl 1 rfl) ?_
      refine lv_iload_n hx hb dX12_led_25 rfl (lv_at hl 2 rfl) ?_
      refine tw_calli F hH (tw_runV (r := 0) (As := [.int x1, .int x2]) (rest := []) F hH (c_X12_ledBy l G ad w13 H.size x1 (z1) e1 x2 (z2) e2 hw16) (tw_gl kw_1635 rfl) km_X12_ledBy kv_X12_ledBy rfl rfl ⟨(Nat.le_of_ble_eq_true rfl), (Nat.le_of_ble_eq_true rfl)⟩ (by decide) hw16 rfl rfl hl.1 rfl (Nat.le_of_ble_eq_true rfl) dX12_led_26 ⟨(Nat.le_of_ble_eq_true rfl), (Nat.le_of_ble_eq_true rfl)⟩) (fun r21 w19 H locs hp20 _ hH => ?_)
      obtain ⟨rfl, -, rfl⟩ := hp20
      exact tw_iret F hH hret hlk rfl (Nat.le_of_ble_eq_true rfl) (Nat.le_of_ble_eq_true rfl) dX12_led_29 (⟨rfl, (Or.inr (Or.inl (by omega)))⟩)
    · have c11 := mt (tw_le (by decide : (0 : Int32).toInt = 0) e2).mpr c11
      refine lv_iconst (v := -1) hx hb dX12_led_17 (by decide) ?_
      exact tw_iret F hH hret hlk rfl (Nat.le_of_ble_eq_true rfl) (Nat.le_of_ble_eq_true rfl) dX12_led_18 (⟨rfl, (Or.inr (Or.inr (by omega)))⟩)
set_option maxHeartbeats 4000000 in
set_option maxRecDepth 100000 in
theorem c_X12_waited (l : Launch) (G : tw_G) (ad : Nat → Nat) (w : Nat → va_E) (sz : Nat) (x1 : Int32) (z1 : Int) (e1 : x1.toInt = z1) (hw_0 : w 0 = .inr (12, [.int (0 : Int32), .int (2 : Int32), .int (1 : Int32), .ref (ad 1), .ref (ad 2), .ref (ad 3), .ref (ad 4), .ref (ad 5), .int (0 : Int32), .ref (ad 6), .ref (ad 7), .ref (ad 8), .int (0 : Int32), .ref (ad 9), .ref (ad 10), .ref (ad 11), .ref (ad 12), .int (0 : Int32), .ref (ad 13), .ref (ad 14), .ref (ad 15), .ref (ad 16), .ref (ad 17), .ref (ad 18), .ref (ad 19), .ref (ad 20), .ref (ad 21), .ref (ad 22), .ref (ad 23), .ref (ad 24), .ref (ad 25), .ref (ad 26), .ref (ad 27), .ref (ad 28), .ref (ad 29), .ref (ad 30), .ref (ad 31), .ref (ad 32), .ref (ad 33), .ref (ad 34), .int (0 : Int32), .int (0 : Int32), .int (0 : Int32), .ref (G.2.2 (100 + 10)), .ref (ad 35), .ref (ad 36), .ref (ad 37), .int (0 : Int32), .ref (ad 38), .ref (ad 39), .ref (ad 40), .ref (ad 41), .ref (ad 42), .ref (ad 43), .ref (ad 44), .ref (ad 45), .ref (ad 46), .ref (ad 47), .ref (ad 48), .ref (ad 49), .ref (ad 50), .ref (ad 51), .ref (ad 52), .ref (ad 53), .ref (ad 54), .ref (ad 55), .ref (ad 56), .ref (ad 57), .ref (ad 58), .ref (ad 59), .int (0 : Int32), .ref (ad 60), .int (0 : Int32), .ref (ad 61), .ref (ad 62), .int (0 : Int32), .ref (ad 63), .ref (ad 64), .ref (ad 65), .ref (ad 66), .ref (ad 67), .ref (ad 68), .int (0 : Int32), .ref (ad 69), .ref (ad 70), .ref (ad 71), .ref (ad 72), .ref (ad 73), .int (0 : Int32), .int (0 : Int32), .int (0 : Int32), .ref (ad 74), .ref (ad 75), .ref (ad 76), .ref (ad 77), .ref (ad 78), .ref (ad 79)])) : Met l yX12_waited (tw_ws yX12_waited cX12_waited 2 (some .int)) ({ frames := 2, cells := 0, slots := 0, locals := 46 }) (tw_Pre G 80 ad w sz [.ref (ad 0), .int x1]) (tw_Qi G 80 ad (fun r w1 => ((-1 : Int32) = r ∧ ((((z1 < 0)) ∨ ((¬ (z1 < 0)) ∧ ((-1) < z1)))))) sz) 0 0 (tw_A 80 ad sz) := by
  refine tw_met (by decide) (Nat.le_of_ble_eq_true rfl) ?_
  intro p e s m args below meth c F hret hlk hin hargs hsz hH ls hl
  have hx := F.1.1
  have hb := F.1.2.1
  have hown := F.1.2.2.2.1
  have hts := F.1.2.2.2.2
  have hl : lv_has ls 2 [(0, .ref (ad 0)), (1, .int x1)] := hl
  generalize hH0 : s.heap = H at hH ⊢
  refine lv_aload_n hx hb dX12_waited_0 rfl (lv_at hl 0 rfl) ?_
  refine lv_iconst (v := 0) hx hb dX12_waited_1 (by decide) ?_
  refine tw_put (r := 0) F hH kf_RX12_3 kp_X12_0 rfl (by decide) hw_0 (Nat.le_of_ble_eq_true rfl) rfl rfl dX12_waited_2 (fun H locs w1 hw2 hne3 hH => ?_)
  have hw2 : w1 0 = .inr (12, [.int (0 : Int32), .int (2 : Int32), .int (1 : Int32), .ref (ad 1), .ref (ad 2), .ref (ad 3), .ref (ad 4), .ref (ad 5), .int (0 : Int32), .ref (ad 6), .ref (ad 7), .ref (ad 8), .int (0 : Int32), .ref (ad 9), .ref (ad 10), .ref (ad 11), .ref (ad 12), .int (0 : Int32), .ref (ad 13), .ref (ad 14), .ref (ad 15), .ref (ad 16), .ref (ad 17), .ref (ad 18), .ref (ad 19), .ref (ad 20), .ref (ad 21), .ref (ad 22), .ref (ad 23), .ref (ad 24), .ref (ad 25), .ref (ad 26), .ref (ad 27), .ref (ad 28), .ref (ad 29), .ref (ad 30), .ref (ad 31), .ref (ad 32), .ref (ad 33), .ref (ad 34), .int (0 : Int32), .int (0 : Int32), .int (0 : Int32), .ref (G.2.2 (100 + 10)), .ref (ad 35), .ref (ad 36), .ref (ad 37), .int (0 : Int32), .ref (ad 38), .ref (ad 39), .ref (ad 40), .ref (ad 41), .ref (ad 42), .ref (ad 43), .ref (ad 44), .ref (ad 45), .ref (ad 46), .ref (ad 47), .ref (ad 48), .ref (ad 49), .ref (ad 50), .ref (ad 51), .ref (ad 52), .ref (ad 53), .ref (ad 54), .ref (ad 55), .ref (ad 56), .ref (ad 57), .ref (ad 58), .ref (ad 59), .int (0 : Int32), .ref (ad 60), .int (0 : Int32), .ref (ad 61), .ref (ad 62), .int (0 : Int32), .ref (ad 63), .ref (ad 64), .ref (ad 65), .ref (ad 66), .ref (ad 67), .ref (ad 68), .int (0 : Int32), .ref (ad 69), .ref (ad 70), .ref (ad 71), .ref (ad 72), .ref (ad 73), .int (0 : Int32), .int (0 : Int32), .int (0 : Int32), .ref (ad 74), .ref (ad 75), .ref (ad 76), .ref (ad 77), .ref (ad 78), .ref (ad 79)]) := hw2
  refine lv_aload_n hx hb dX12_waited_5 rfl (lv_at hl 0 rfl) ?_
  refine lv_iload_n hx hb dX12_waited_6 rfl (lv_at hl 1 rfl) ?_
  refine tw_calli F hH (tw_runV (r := 0) (As := [.int x1]) (rest := []) F hH (c_X12_isCar l G ad w1 H.size x1 (z1) e1 hw2) (tw_gl kw_1409 rfl) km_X12_isCar kv_X12_isCar rfl rfl ⟨(Nat.le_of_ble_eq_true rfl), (Nat.le_of_ble_eq_true rfl)⟩ (by decide) hw2 rfl rfl hl.1 rfl (Nat.le_of_ble_eq_true rfl) dX12_waited_7 ⟨(Nat.le_of_ble_eq_true rfl), (Nat.le_of_ble_eq_true rfl)⟩) (fun r6 w4 H locs hp5 _ hH => ?_)
  obtain ⟨rfl, hc7, rfl⟩ := hp5
  refine lv_if_ne (tgt := 15) hx hb dX12_waited_10 (by decide) (fun c => absurd c (by decide)) (fun _ => ?_)
  refine lv_iconst (v := -1) hx hb dX12_waited_13 (by decide) ?_
  exact tw_iret F hH hret hlk rfl (Nat.le_of_ble_eq_true rfl) (Nat.le_of_ble_eq_true rfl) dX12_waited_14 (⟨rfl, (by omega)⟩)
set_option maxHeartbeats 4000000 in
set_option maxRecDepth 100000 in
theorem c_X12_leads (l : Launch) (G : tw_G) (ad : Nat → Nat) (w : Nat → va_E) (sz : Nat) (hw_0 : w 0 = .inr (12, [.int (0 : Int32), .int (2 : Int32), .int (1 : Int32), .ref (ad 1), .ref (ad 2), .ref (ad 3), .ref (ad 4), .ref (ad 5), .int (0 : Int32), .ref (ad 6), .ref (ad 7), .ref (ad 8), .int (0 : Int32), .ref (ad 9), .ref (ad 10), .ref (ad 11), .ref (ad 12), .int (0 : Int32), .ref (ad 13), .ref (ad 14), .ref (ad 15), .ref (ad 16), .ref (ad 17), .ref (ad 18), .ref (ad 19), .ref (ad 20), .ref (ad 21), .ref (ad 22), .ref (ad 23), .ref (ad 24), .ref (ad 25), .ref (ad 26), .ref (ad 27), .ref (ad 28), .ref (ad 29), .ref (ad 30), .ref (ad 31), .ref (ad 32), .ref (ad 33), .ref (ad 34), .int (0 : Int32), .int (0 : Int32), .int (0 : Int32), .ref (G.2.2 (100 + 10)), .ref (ad 35), .ref (ad 36), .ref (ad 37), .int (0 : Int32), .ref (ad 38), .ref (ad 39), .ref (ad 40), .ref (ad 41), .ref (ad 42), .ref (ad 43), .ref (ad 44), .ref (ad 45), .ref (ad 46), .ref (ad 47), .ref (ad 48), .ref (ad 49), .ref (ad 50), .ref (ad 51), .ref (ad 52), .ref (ad 53), .ref (ad 54), .ref (ad 55), .ref (ad 56), .ref (ad 57), .ref (ad 58), .ref (ad 59), .int (0 : Int32), .ref (ad 60), .int (0 : Int32), .ref (ad 61), .ref (ad 62), .int (0 : Int32), .ref (ad 63), .ref (ad 64), .ref (ad 65), .ref (ad 66), .ref (ad 67), .ref (ad 68), .int (0 : Int32), .ref (ad 69), .ref (ad 70), .ref (ad 71), .ref (ad 72), .ref (ad 73), .int (0 : Int32), .int (0 : Int32), .int (0 : Int32), .ref (ad 74), .ref (ad 75), .ref (ad 76), .ref (ad 77), .ref (ad 78), .ref (ad 79)])) (hw_58 : w 58 = .inl (G.2.1 0, 4, .inl (fun _ => 0))) : Met l yX12_leads (tw_ws yX12_leads cX12_leads 3 (some .int)) ({ frames := 2, cells := 0, slots := 0, locals := 43 }) (tw_Pre G 80 ad w sz [.ref (ad 0)]) (tw_Qi G 80 ad (fun r w1 => ((0 : Int32) = r ∧ True)) sz) 0 0 (tw_A 80 ad sz) := by
  refine tw_met (by decide) (Nat.le_of_ble_eq_true rfl) ?_
  intro p e s m args below meth c F hret hlk hin hargs hsz hH ls hl
  have hx := F.1.1
  have hb := F.1.2.1
  have hown := F.1.2.2.2.1
  have hts := F.1.2.2.2.2
  have hl : lv_has ls 3 [(0, .ref (ad 0))] := hl
  generalize hH0 : s.heap = H at hH ⊢
  refine lv_aload_n hx hb dX12_leads_0 rfl (lv_at hl 0 rfl) ?_
  refine lv_iconst (v := 0) hx hb dX12_leads_1 (by decide) ?_
  refine tw_put (r := 0) F hH kf_RX12_3 kp_X12_0 rfl (by decide) hw_0 (Nat.le_of_ble_eq_true rfl) rfl rfl dX12_leads_2 (fun H locs w1 hw2 hne3 hH => ?_)
  have hw2 : w1 0 = .inr (12, [.int (0 : Int32), .int (2 : Int32), .int (1 : Int32), .ref (ad 1), .ref (ad 2), .ref (ad 3), .ref (ad 4), .ref (ad 5), .int (0 : Int32), .ref (ad 6), .ref (ad 7), .ref (ad 8), .int (0 : Int32), .ref (ad 9), .ref (ad 10), .ref (ad 11), .ref (ad 12), .int (0 : Int32), .ref (ad 13), .ref (ad 14), .ref (ad 15), .ref (ad 16), .ref (ad 17), .ref (ad 18), .ref (ad 19), .ref (ad 20), .ref (ad 21), .ref (ad 22), .ref (ad 23), .ref (ad 24), .ref (ad 25), .ref (ad 26), .ref (ad 27), .ref (ad 28), .ref (ad 29), .ref (ad 30), .ref (ad 31), .ref (ad 32), .ref (ad 33), .ref (ad 34), .int (0 : Int32), .int (0 : Int32), .int (0 : Int32), .ref (G.2.2 (100 + 10)), .ref (ad 35), .ref (ad 36), .ref (ad 37), .int (0 : Int32), .ref (ad 38), .ref (ad 39), .ref (ad 40), .ref (ad 41), .ref (ad 42), .ref (ad 43), .ref (ad 44), .ref (ad 45), .ref (ad 46), .ref (ad 47), .ref (ad 48), .ref (ad 49), .ref (ad 50), .ref (ad 51), .ref (ad 52), .ref (ad 53), .ref (ad 54), .ref (ad 55), .ref (ad 56), .ref (ad 57), .ref (ad 58), .ref (ad 59), .int (0 : Int32), .ref (ad 60), .int (0 : Int32), .ref (ad 61), .ref (ad 62), .int (0 : Int32), .ref (ad 63), .ref (ad 64), .ref (ad 65), .ref (ad 66), .ref (ad 67), .ref (ad 68), .int (0 : Int32), .ref (ad 69), .ref (ad 70), .ref (ad 71), .ref (ad 72), .ref (ad 73), .int (0 : Int32), .int (0 : Int32), .int (0 : Int32), .ref (ad 74), .ref (ad 75), .ref (ad 76), .ref (ad 77), .ref (ad 78), .ref (ad 79)]) := hw2
  refine lv_aload_n hx hb dX12_leads_5 rfl (lv_at hl 0 rfl) ?_
  have hw4 : w1 58 = .inl (G.2.1 0, 4, .inl (fun _ => 0)) := (hne3 58 (by decide)).trans (hw_58)
  refine tw_callv F hH (tw_runV (r := 0) (As := []) (rest := []) F hH (c_X12_runs l G ad w1 H.size hw2 hw4) (tw_gl kw_1542 rfl) km_X12_runs kv_X12_runs rfl rfl ⟨(Nat.le_of_ble_eq_true rfl), (Nat.le_of_ble_eq_true rfl)⟩ (by decide) hw2 rfl rfl hl.1 rfl (Nat.le_of_ble_eq_true rfl) dX12_leads_6 ⟨(Nat.le_of_ble_eq_true rfl), (Nat.le_of_ble_eq_true rfl)⟩) (fun w5 H locs hp6 _ hH => ?_)
  obtain ⟨-, hw8, hw9, hfr10⟩ := hp6
  refine lv_iconst (v := 0) hx hb dX12_leads_9 (by decide) ?_
  refine lv_istore_n (lv' := [(1, .int (0 : Int32)), (0, .ref (ad 0))]) hx hb dX12_leads_10 rfl hl (by decide) rfl (fun ls hl => ?_)
  refine lv_iconst (v := 1) hx hb dX12_leads_11 (by decide) ?_
  refine lv_istore_n (lv' := [(2, .int (1 : Int32)), (1, .int (0 : Int32)), (0, .ref (ad 0))]) hx hb dX12_leads_12 rfl hl (by decide) rfl (fun ls hl => ?_)
  refine lv_iload_n hx hb dX12_leads_13 rfl (lv_at hl 0 rfl) ?_
  refine lv_aload_n hx hb dX12_leads_14 rfl (lv_at hl 2 rfl) ?_
  refine tw_get (r := 0) F hH kf_RX12_10 rfl (by decide) hw8 rfl dX12_leads_15 ?_
  refine lv_icmp_ge (tgt := 61) hx hb dX12_leads_18 (by decide) (fun _ => ?_) (fun c => absurd c (by decide))
  refine lv_iload_n hx hb dX12_leads_61 rfl (lv_at hl 1 rfl) ?_
  exact tw_iret F hH hret hlk rfl (Nat.le_of_ble_eq_true rfl) (Nat.le_of_ble_eq_true rfl) dX12_leads_62 (⟨rfl, trivial⟩)
set_option maxHeartbeats 4000000 in
set_option maxRecDepth 100000 in
theorem c_X12_sign (l : Launch) (G : tw_G) (ad : Nat → Nat) (w : Nat → va_E) (sz : Nat) (x1 : Int32) (z1 : Int) (e1 : x1.toInt = z1) (hw_0 : w 0 = .inr (12, [.int (0 : Int32), .int (2 : Int32), .int (1 : Int32), .ref (ad 1), .ref (ad 2), .ref (ad 3), .ref (ad 4), .ref (ad 5), .int (0 : Int32), .ref (ad 6), .ref (ad 7), .ref (ad 8), .int (0 : Int32), .ref (ad 9), .ref (ad 10), .ref (ad 11), .ref (ad 12), .int (0 : Int32), .ref (ad 13), .ref (ad 14), .ref (ad 15), .ref (ad 16), .ref (ad 17), .ref (ad 18), .ref (ad 19), .ref (ad 20), .ref (ad 21), .ref (ad 22), .ref (ad 23), .ref (ad 24), .ref (ad 25), .ref (ad 26), .ref (ad 27), .ref (ad 28), .ref (ad 29), .ref (ad 30), .ref (ad 31), .ref (ad 32), .ref (ad 33), .ref (ad 34), .int (0 : Int32), .int (0 : Int32), .int (0 : Int32), .ref (G.2.2 (100 + 10)), .ref (ad 35), .ref (ad 36), .ref (ad 37), .int (0 : Int32), .ref (ad 38), .ref (ad 39), .ref (ad 40), .ref (ad 41), .ref (ad 42), .ref (ad 43), .ref (ad 44), .ref (ad 45), .ref (ad 46), .ref (ad 47), .ref (ad 48), .ref (ad 49), .ref (ad 50), .ref (ad 51), .ref (ad 52), .ref (ad 53), .ref (ad 54), .ref (ad 55), .ref (ad 56), .ref (ad 57), .ref (ad 58), .ref (ad 59), .int (0 : Int32), .ref (ad 60), .int (0 : Int32), .ref (ad 61), .ref (ad 62), .int (0 : Int32), .ref (ad 63), .ref (ad 64), .ref (ad 65), .ref (ad 66), .ref (ad 67), .ref (ad 68), .int (0 : Int32), .ref (ad 69), .ref (ad 70), .ref (ad 71), .ref (ad 72), .ref (ad 73), .int (0 : Int32), .int (0 : Int32), .int (0 : Int32), .ref (ad 74), .ref (ad 75), .ref (ad 76), .ref (ad 77), .ref (ad 78), .ref (ad 79)])) (hw_34 : w 34 = .inl (G.2.1 0, 100, .inl (fun _ => 0))) : Met l yX12_sign (tw_ws yX12_sign cX12_sign 3 (some .int)) ({ frames := 0, cells := 0, slots := 0, locals := 0 }) (tw_Pre G 80 ad w sz [.ref (ad 0), .int x1]) (tw_Qi G 80 ad (fun r w1 => ((4 : Int32) = r ∧ True)) sz) 0 0 (tw_A 80 ad sz) := by
  refine tw_met (by decide) (Nat.le_of_ble_eq_true rfl) ?_
  intro p e s m args below meth c F hret hlk hin hargs hsz hH ls hl
  have hx := F.1.1
  have hb := F.1.2.1
  have hown := F.1.2.2.2.1
  have hts := F.1.2.2.2.2
  have hl : lv_has ls 3 [(0, .ref (ad 0)), (1, .int x1)] := hl
  generalize hH0 : s.heap = H at hH ⊢
  refine lv_aload_n hx hb dX12_sign_0 rfl (lv_at hl 0 rfl) ?_
  refine lv_iconst (v := 0) hx hb dX12_sign_1 (by decide) ?_
  refine tw_put (r := 0) F hH kf_RX12_3 kp_X12_0 rfl (by decide) hw_0 (Nat.le_of_ble_eq_true rfl) rfl rfl dX12_sign_2 (fun H locs w1 hw2 hne3 hH => ?_)
  have hw2 : w1 0 = .inr (12, [.int (0 : Int32), .int (2 : Int32), .int (1 : Int32), .ref (ad 1), .ref (ad 2), .ref (ad 3), .ref (ad 4), .ref (ad 5), .int (0 : Int32), .ref (ad 6), .ref (ad 7), .ref (ad 8), .int (0 : Int32), .ref (ad 9), .ref (ad 10), .ref (ad 11), .ref (ad 12), .int (0 : Int32), .ref (ad 13), .ref (ad 14), .ref (ad 15), .ref (ad 16), .ref (ad 17), .ref (ad 18), .ref (ad 19), .ref (ad 20), .ref (ad 21), .ref (ad 22), .ref (ad 23), .ref (ad 24), .ref (ad 25), .ref (ad 26), .ref (ad 27), .ref (ad 28), .ref (ad 29), .ref (ad 30), .ref (ad 31), .ref (ad 32), .ref (ad 33), .ref (ad 34), .int (0 : Int32), .int (0 : Int32), .int (0 : Int32), .ref (G.2.2 (100 + 10)), .ref (ad 35), .ref (ad 36), .ref (ad 37), .int (0 : Int32), .ref (ad 38), .ref (ad 39), .ref (ad 40), .ref (ad 41), .ref (ad 42), .ref (ad 43), .ref (ad 44), .ref (ad 45), .ref (ad 46), .ref (ad 47), .ref (ad 48), .ref (ad 49), .ref (ad 50), .ref (ad 51), .ref (ad 52), .ref (ad 53), .ref (ad 54), .ref (ad 55), .ref (ad 56), .ref (ad 57), .ref (ad 58), .ref (ad 59), .int (0 : Int32), .ref (ad 60), .int (0 : Int32), .ref (ad 61), .ref (ad 62), .int (0 : Int32), .ref (ad 63), .ref (ad 64), .ref (ad 65), .ref (ad 66), .ref (ad 67), .ref (ad 68), .int (0 : Int32), .ref (ad 69), .ref (ad 70), .ref (ad 71), .ref (ad 72), .ref (ad 73), .int (0 : Int32), .int (0 : Int32), .int (0 : Int32), .ref (ad 74), .ref (ad 75), .ref (ad 76), .ref (ad 77), .ref (ad 78), .ref (ad 79)]) := hw2
  refine lv_aload_n hx hb dX12_sign_5 rfl (lv_at hl 0 rfl) ?_
  refine tw_get (r := 0) F hH kf_RX12_188 rfl (by decide) hw2 rfl dX12_sign_6 ?_
  refine lv_bipush (v := 96) hx hb dX12_sign_9 (by decide) ?_
  refine lv_icmp_le (tgt := 16) hx hb dX12_sign_11 (by decide) (fun _ => ?_) (fun c => absurd c (by decide))
  refine lv_iconst (v := 0) hx hb dX12_sign_16 (by decide) ?_
  refine lv_istore_n (lv' := [(2, .int (0 : Int32)), (0, .ref (ad 0)), (1, .int x1)]) hx hb dX12_sign_17 rfl hl (by decide) rfl (fun ls hl => ?_)
  refine lv_iload_n hx hb dX12_sign_18 rfl (lv_at hl 0 rfl) ?_
  refine lv_iconst (v := 4) hx hb dX12_sign_19 (by decide) ?_
  refine lv_icmp_ge (tgt := 53) hx hb dX12_sign_20 (by decide) (fun c => absurd c (by decide)) (fun _ => ?_)
  refine lv_aload_n hx hb dX12_sign_23 rfl (lv_at hl 1 rfl) ?_
  refine tw_get (r := 0) F hH kf_RX12_191 rfl (by decide) hw2 rfl dX12_sign_24 ?_
  refine lv_aload_n hx hb dX12_sign_27 rfl (lv_at hl 1 rfl) ?_
  refine tw_get (r := 0) F hH kf_RX12_188 rfl (by decide) hw2 rfl dX12_sign_28 ?_
  refine lv_iload_n hx hb dX12_sign_31 rfl (lv_at hl 0 rfl) ?_
  refine lv_iadd hx hb dX12_sign_32 ?_
  refine tw_cv (v := (0 : Int32)) (by decide) ?_
  refine lv_iload_n hx hb dX12_sign_33 rfl (lv_at hl 2 rfl) ?_
  refine lv_bipush (v := 24) hx hb dX12_sign_34 (by decide) ?_
  refine lv_bipush (v := 8) hx hb dX12_sign_36 (by decide) ?_
  refine lv_iload_n hx hb dX12_sign_38 rfl (lv_at hl 0 rfl) ?_
  refine lv_imul hx hb dX12_sign_39 ?_
  refine tw_cv (v := (0 : Int32)) (by decide) ?_
  refine lv_isub hx hb dX12_sign_40 ?_
  refine tw_cv (v := (24 : Int32)) (by decide) ?_
  refine lv_ishr hx hb dX12_sign_41 ?_
  refine lv_topi (fun f6 ef6 => ?_)
  refine lv_sipush (v := 255) hx hb dX12_sign_42 (by decide) ?_
  refine lv_iand hx hb dX12_sign_45 ?_
  refine lv_topi (fun f7 ef7 => ?_)
  have hw8 : w1 34 = .inl (G.2.1 0, 100, .inl (fun _ => 0)) := (hne3 34 (by decide)).trans (hw_34)
  refine tw_iast (r := 34) (j := 0) F hH rfl (by decide) hw8 (by decide) (by decide) dX12_sign_46 (fun H locs w9 hw10 hne11 hH => ?_)
  refine lv_iinc (v := (1 : Int32)) (lv' := [(2, .int (1 : Int32)), (0, .ref (ad 0)), (1, .int x1)]) hx hb dX12_sign_47 hl (k := 0) rfl (by decide) (by decide) rfl (fun ls hl => ?_)
  refine lv_goto (tgt := 18) hx hb dX12_sign_50 (by decide) ?_
  refine lv_iload_n hx hb dX12_sign_18 rfl (lv_at hl 0 rfl) ?_
  refine lv_iconst (v := 4) hx hb dX12_sign_19 (by decide) ?_
  refine lv_icmp_ge (tgt := 53) hx hb dX12_sign_20 (by decide) (fun c => absurd c (by decide)) (fun _ => ?_)
  refine lv_aload_n hx hb dX12_sign_23 rfl (lv_at hl 1 rfl) ?_
  have hw13 : w9 0 = .inr (12, [.int (0 : Int32), .int (2 : Int32), .int (1 : Int32), .ref (ad 1), .ref (ad 2), .ref (ad 3), .ref (ad 4), .ref (ad 5), .int (0 : Int32), .ref (ad 6), .ref (ad 7), .ref (ad 8), .int (0 : Int32), .ref (ad 9), .ref (ad 10), .ref (ad 11), .ref (ad 12), .int (0 : Int32), .ref (ad 13), .ref (ad 14), .ref (ad 15), .ref (ad 16), .ref (ad 17), .ref (ad 18), .ref (ad 19), .ref (ad 20), .ref (ad 21), .ref (ad 22), .ref (ad 23), .ref (ad 24), .ref (ad 25), .ref (ad 26), .ref (ad 27), .ref (ad 28), .ref (ad 29), .ref (ad 30), .ref (ad 31), .ref (ad 32), .ref (ad 33), .ref (ad 34), .int (0 : Int32), .int (0 : Int32), .int (0 : Int32), .ref (G.2.2 (100 + 10)), .ref (ad 35), .ref (ad 36), .ref (ad 37), .int (0 : Int32), .ref (ad 38), .ref (ad 39), .ref (ad 40), .ref (ad 41), .ref (ad 42), .ref (ad 43), .ref (ad 44), .ref (ad 45), .ref (ad 46), .ref (ad 47), .ref (ad 48), .ref (ad 49), .ref (ad 50), .ref (ad 51), .ref (ad 52), .ref (ad 53), .ref (ad 54), .ref (ad 55), .ref (ad 56), .ref (ad 57), .ref (ad 58), .ref (ad 59), .int (0 : Int32), .ref (ad 60), .int (0 : Int32), .ref (ad 61), .ref (ad 62), .int (0 : Int32), .ref (ad 63), .ref (ad 64), .ref (ad 65), .ref (ad 66), .ref (ad 67), .ref (ad 68), .int (0 : Int32), .ref (ad 69), .ref (ad 70), .ref (ad 71), .ref (ad 72), .ref (ad 73), .int (0 : Int32), .int (0 : Int32), .int (0 : Int32), .ref (ad 74), .ref (ad 75), .ref (ad 76), .ref (ad 77), .ref (ad 78), .ref (ad 79)]) := (hne11 0 (by decide)).trans (hw2)
  refine tw_get (r := 0) F hH kf_RX12_191 rfl (by decide) hw13 rfl dX12_sign_24 ?_
  refine lv_aload_n hx hb dX12_sign_27 rfl (lv_at hl 1 rfl) ?_
  refine tw_get (r := 0) F hH kf_RX12_188 rfl (by decide) hw13 rfl dX12_sign_28 ?_
  refine lv_iload_n hx hb dX12_sign_31 rfl (lv_at hl 0 rfl) ?_
  refine lv_iadd hx hb dX12_sign_32 ?_
  refine tw_cv (v := (1 : Int32)) (by decide) ?_
  refine lv_iload_n hx hb dX12_sign_33 rfl (lv_at hl 2 rfl) ?_
  refine lv_bipush (v := 24) hx hb dX12_sign_34 (by decide) ?_
  refine lv_bipush (v := 8) hx hb dX12_sign_36 (by decide) ?_
  refine lv_iload_n hx hb dX12_sign_38 rfl (lv_at hl 0 rfl) ?_
  refine lv_imul hx hb dX12_sign_39 ?_
  refine tw_cv (v := (8 : Int32)) (by decide) ?_
  refine lv_isub hx hb dX12_sign_40 ?_
  refine tw_cv (v := (16 : Int32)) (by decide) ?_
  refine lv_ishr hx hb dX12_sign_41 ?_
  refine lv_topi (fun f14 ef14 => ?_)
  refine lv_sipush (v := 255) hx hb dX12_sign_42 (by decide) ?_
  refine lv_iand hx hb dX12_sign_45 ?_
  refine lv_topi (fun f15 ef15 => ?_)
  refine tw_iast (r := 34) (j := 1) F hH rfl (by decide) hw10 (by decide) (by decide) dX12_sign_46 (fun H locs w16 hw17 hne18 hH => ?_)
  refine lv_iinc (v := (2 : Int32)) (lv' := [(2, .int (2 : Int32)), (0, .ref (ad 0)), (1, .int x1)]) hx hb dX12_sign_47 hl (k := 0) rfl (by decide) (by decide) rfl (fun ls hl => ?_)
  refine lv_goto (tgt := 18) hx hb dX12_sign_50 (by decide) ?_
  refine lv_iload_n hx hb dX12_sign_18 rfl (lv_at hl 0 rfl) ?_
  refine lv_iconst (v := 4) hx hb dX12_sign_19 (by decide) ?_
  refine lv_icmp_ge (tgt := 53) hx hb dX12_sign_20 (by decide) (fun c => absurd c (by decide)) (fun _ => ?_)
  refine lv_aload_n hx hb dX12_sign_23 rfl (lv_at hl 1 rfl) ?_
  have hw20 : w16 0 = .inr (12, [.int (0 : Int32), .int (2 : Int32), .int (1 : Int32), .ref (ad 1), .ref (ad 2), .ref (ad 3), .ref (ad 4), .ref (ad 5), .int (0 : Int32), .ref (ad 6), .ref (ad 7), .ref (ad 8), .int (0 : Int32), .ref (ad 9), .ref (ad 10), .ref (ad 11), .ref (ad 12), .int (0 : Int32), .ref (ad 13), .ref (ad 14), .ref (ad 15), .ref (ad 16), .ref (ad 17), .ref (ad 18), .ref (ad 19), .ref (ad 20), .ref (ad 21), .ref (ad 22), .ref (ad 23), .ref (ad 24), .ref (ad 25), .ref (ad 26), .ref (ad 27), .ref (ad 28), .ref (ad 29), .ref (ad 30), .ref (ad 31), .ref (ad 32), .ref (ad 33), .ref (ad 34), .int (0 : Int32), .int (0 : Int32), .int (0 : Int32), .ref (G.2.2 (100 + 10)), .ref (ad 35), .ref (ad 36), .ref (ad 37), .int (0 : Int32), .ref (ad 38), .ref (ad 39), .ref (ad 40), .ref (ad 41), .ref (ad 42), .ref (ad 43), .ref (ad 44), .ref (ad 45), .ref (ad 46), .ref (ad 47), .ref (ad 48), .ref (ad 49), .ref (ad 50), .ref (ad 51), .ref (ad 52), .ref (ad 53), .ref (ad 54), .ref (ad 55), .ref (ad 56), .ref (ad 57), .ref (ad 58), .ref (ad 59), .int (0 : Int32), .ref (ad 60), .int (0 : Int32), .ref (ad 61), .ref (ad 62), .int (0 : Int32), .ref (ad 63), .ref (ad 64), .ref (ad 65), .ref (ad 66), .ref (ad 67), .ref (ad 68), .int (0 : Int32), .ref (ad 69), .ref (ad 70), .ref (ad 71), .ref (ad 72), .ref (ad 73), .int (0 : Int32), .int (0 : Int32), .int (0 : Int32), .ref (ad 74), .ref (ad 75), .ref (ad 76), .ref (ad 77), .ref (ad 78), .ref (ad 79)]) := (hne18 0 (by decide)).trans (hw13)
  refine tw_get (r := 0) F hH kf_RX12_191 rfl (by decide) hw20 rfl dX12_sign_24 ?_
  refine lv_aload_n hx hb dX12_sign_27 rfl (lv_at hl 1 rfl) ?_
  refine tw_get (r := 0) F hH kf_RX12_188 rfl (by decide) hw20 rfl dX12_sign_28 ?_
  refine lv_iload_n hx hb dX12_sign_31 rfl (lv_at hl 0 rfl) ?_
  refine lv_iadd hx hb dX12_sign_32 ?_
  refine tw_cv (v := (2 : Int32)) (by decide) ?_
  refine lv_iload_n hx hb dX12_sign_33 rfl (lv_at hl 2 rfl) ?_
  refine lv_bipush (v := 24) hx hb dX12_sign_34 (by decide) ?_
  refine lv_bipush (v := 8) hx hb dX12_sign_36 (by decide) ?_
  refine lv_iload_n hx hb dX12_sign_38 rfl (lv_at hl 0 rfl) ?_
  refine lv_imul hx hb dX12_sign_39 ?_
  refine tw_cv (v := (16 : Int32)) (by decide) ?_
  refine lv_isub hx hb dX12_sign_40 ?_
  refine tw_cv (v := (8 : Int32)) (by decide) ?_
  refine lv_ishr hx hb dX12_sign_41 ?_
  refine lv_topi (fun f21 ef21 => ?_)
  refine lv_sipush (v := 255) hx hb dX12_sign_42 (by decide) ?_
  refine lv_iand hx hb dX12_sign_45 ?_
  refine lv_topi (fun f22 ef22 => ?_)
  refine tw_iast (r := 34) (j := 2) F hH rfl (by decide) hw17 (by decide) (by decide) dX12_sign_46 (fun H locs w23 hw24 hne25 hH => ?_)
  refine lv_iinc (v := (3 : Int32)) (lv' := [(2, .int (3 : Int32)), (0, .ref (ad 0)), (1, .int x1)]) hx hb dX12_sign_47 hl (k := 0) rfl (by decide) (by decide) rfl (fun ls hl => ?_)
  refine lv_goto (tgt := 18) hx hb dX12_sign_50 (by decide) ?_
  refine lv_iload_n hx hb dX12_sign_18 rfl (lv_at hl 0 rfl) ?_
  refine lv_iconst (v := 4) hx hb dX12_sign_19 (by decide) ?_
  refine lv_icmp_ge (tgt := 53) hx hb dX12_sign_20 (by decide) (fun c => absurd c (by decide)) (fun _ => ?_)
  refine lv_aload_n hx hb dX12_sign_23 rfl (lv_at hl 1 rfl) ?_
  have hw27 : w23 0 = .inr (12, [.int (0 : Int32), .int (2 : Int32), .int (1 : Int32), .ref (ad 1), .ref (ad 2), .ref (ad 3), .ref (ad 4), .ref (ad 5), .int (0 : Int32), .ref (ad 6), .ref (ad 7), .ref (ad 8), .int (0 : Int32), .ref (ad 9), .ref (ad 10), .ref (ad 11), .ref (ad 12), .int (0 : Int32), .ref (ad 13), .ref (ad 14), .ref (ad 15), .ref (ad 16), .ref (ad 17), .ref (ad 18), .ref (ad 19), .ref (ad 20), .ref (ad 21), .ref (ad 22), .ref (ad 23), .ref (ad 24), .ref (ad 25), .ref (ad 26), .ref (ad 27), .ref (ad 28), .ref (ad 29), .ref (ad 30), .ref (ad 31), .ref (ad 32), .ref (ad 33), .ref (ad 34), .int (0 : Int32), .int (0 : Int32), .int (0 : Int32), .ref (G.2.2 (100 + 10)), .ref (ad 35), .ref (ad 36), .ref (ad 37), .int (0 : Int32), .ref (ad 38), .ref (ad 39), .ref (ad 40), .ref (ad 41), .ref (ad 42), .ref (ad 43), .ref (ad 44), .ref (ad 45), .ref (ad 46), .ref (ad 47), .ref (ad 48), .ref (ad 49), .ref (ad 50), .ref (ad 51), .ref (ad 52), .ref (ad 53), .ref (ad 54), .ref (ad 55), .ref (ad 56), .ref (ad 57), .ref (ad 58), .ref (ad 59), .int (0 : Int32), .ref (ad 60), .int (0 : Int32), .ref (ad 61), .ref (ad 62), .int (0 : Int32), .ref (ad 63), .ref (ad 64), .ref (ad 65), .ref (ad 66), .ref (ad 67), .ref (ad 68), .int (0 : Int32), .ref (ad 69), .ref (ad 70), .ref (ad 71), .ref (ad 72), .ref (ad 73), .int (0 : Int32), .int (0 : Int32), .int (0 : Int32), .ref (ad 74), .ref (ad 75), .ref (ad 76), .ref (ad 77), .ref (ad 78), .ref (ad 79)]) := (hne25 0 (by decide)).trans (hw20)
  refine tw_get (r := 0) F hH kf_RX12_191 rfl (by decide) hw27 rfl dX12_sign_24 ?_
  refine lv_aload_n hx hb dX12_sign_27 rfl (lv_at hl 1 rfl) ?_
  refine tw_get (r := 0) F hH kf_RX12_188 rfl (by decide) hw27 rfl dX12_sign_28 ?_
  refine lv_iload_n hx hb dX12_sign_31 rfl (lv_at hl 0 rfl) ?_
  refine lv_iadd hx hb dX12_sign_32 ?_
  refine tw_cv (v := (3 : Int32)) (by decide) ?_
  refine lv_iload_n hx hb dX12_sign_33 rfl (lv_at hl 2 rfl) ?_
  refine lv_bipush (v := 24) hx hb dX12_sign_34 (by decide) ?_
  refine lv_bipush (v := 8) hx hb dX12_sign_36 (by decide) ?_
  refine lv_iload_n hx hb dX12_sign_38 rfl (lv_at hl 0 rfl) ?_
  refine lv_imul hx hb dX12_sign_39 ?_
  refine tw_cv (v := (24 : Int32)) (by decide) ?_
  refine lv_isub hx hb dX12_sign_40 ?_
  refine tw_cv (v := (0 : Int32)) (by decide) ?_
  refine lv_ishr hx hb dX12_sign_41 ?_
  refine lv_topi (fun f28 ef28 => ?_)
  refine lv_sipush (v := 255) hx hb dX12_sign_42 (by decide) ?_
  refine lv_iand hx hb dX12_sign_45 ?_
  refine lv_topi (fun f29 ef29 => ?_)
  refine tw_iast (r := 34) (j := 3) F hH rfl (by decide) hw24 (by decide) (by decide) dX12_sign_46 (fun H locs w30 hw31 hne32 hH => ?_)
  refine lv_iinc (v := (4 : Int32)) (lv' := [(2, .int (4 : Int32)), (0, .ref (ad 0)), (1, .int x1)]) hx hb dX12_sign_47 hl (k := 0) rfl (by decide) (by decide) rfl (fun ls hl => ?_)
  refine lv_goto (tgt := 18) hx hb dX12_sign_50 (by decide) ?_
  refine lv_iload_n hx hb dX12_sign_18 rfl (lv_at hl 0 rfl) ?_
  refine lv_iconst (v := 4) hx hb dX12_sign_19 (by decide) ?_
  refine lv_icmp_ge (tgt := 53) hx hb dX12_sign_20 (by decide) (fun _ => ?_) (fun c => absurd c (by decide))
  refine lv_aload_n hx hb dX12_sign_53 rfl (lv_at hl 1 rfl) ?_
  refine lv_dup hx hb dX12_sign_54 rfl ?_
  have hw34 : w30 0 = .inr (12, [.int (0 : Int32), .int (2 : Int32), .int (1 : Int32), .ref (ad 1), .ref (ad 2), .ref (ad 3), .ref (ad 4), .ref (ad 5), .int (0 : Int32), .ref (ad 6), .ref (ad 7), .ref (ad 8), .int (0 : Int32), .ref (ad 9), .ref (ad 10), .ref (ad 11), .ref (ad 12), .int (0 : Int32), .ref (ad 13), .ref (ad 14), .ref (ad 15), .ref (ad 16), .ref (ad 17), .ref (ad 18), .ref (ad 19), .ref (ad 20), .ref (ad 21), .ref (ad 22), .ref (ad 23), .ref (ad 24), .ref (ad 25), .ref (ad 26), .ref (ad 27), .ref (ad 28), .ref (ad 29), .ref (ad 30), .ref (ad 31), .ref (ad 32), .ref (ad 33), .ref (ad 34), .int (0 : Int32), .int (0 : Int32), .int (0 : Int32), .ref (G.2.2 (100 + 10)), .ref (ad 35), .ref (ad 36), .ref (ad 37), .int (0 : Int32), .ref (ad 38), .ref (ad 39), .ref (ad 40), .ref (ad 41), .ref (ad 42), .ref (ad 43), .ref (ad 44), .ref (ad 45), .ref (ad 46), .ref (ad 47), .ref (ad 48), .ref (ad 49), .ref (ad 50), .ref (ad 51), .ref (ad 52), .ref (ad 53), .ref (ad 54), .ref (ad 55), .ref (ad 56), .ref (ad 57), .ref (ad 58), .ref (ad 59), .int (0 : Int32), .ref (ad 60), .int (0 : Int32), .ref (ad 61), .ref (ad 62), .int (0 : Int32), .ref (ad 63), .ref (ad 64), .ref (ad 65), .ref (ad 66), .ref (ad 67), .ref (ad 68), .int (0 : Int32), .ref (ad 69), .ref (ad 70), .ref (ad 71), .ref (ad 72), .ref (ad 73), .int (0 : Int32), .int (0 : Int32), .int (0 : Int32), .ref (ad 74), .ref (ad 75), .ref (ad 76), .ref (ad 77), .ref (ad 78), .ref (ad 79)]) := (hne32 0 (by decide)).trans (hw27)
  refine tw_get (r := 0) F hH kf_RX12_188 rfl (by decide) hw34 rfl dX12_sign_55 ?_
  refine lv_iconst (v := 4) hx hb dX12_sign_58 (by decide) ?_
  refine lv_iadd hx hb dX12_sign_59 ?_
  refine tw_cv (v := (4 : Int32)) (by decide) ?_
  refine tw_put (r := 0) F hH kf_RX12_188 kp_X12_40 rfl (by decide) hw34 (Nat.le_of_ble_eq_true rfl) rfl rfl dX12_sign_60 (fun H locs w35 hw36 hne37 hH => ?_)
  have hw36 : w35 0 = .inr (12, [.int (0 : Int32), .int (2 : Int32), .int (1 : Int32), .ref (ad 1), .ref (ad 2), .ref (ad 3), .ref (ad 4), .ref (ad 5), .int (0 : Int32), .ref (ad 6), .ref (ad 7), .ref (ad 8), .int (0 : Int32), .ref (ad 9), .ref (ad 10), .ref (ad 11), .ref (ad 12), .int (0 : Int32), .ref (ad 13), .ref (ad 14), .ref (ad 15), .ref (ad 16), .ref (ad 17), .ref (ad 18), .ref (ad 19), .ref (ad 20), .ref (ad 21), .ref (ad 22), .ref (ad 23), .ref (ad 24), .ref (ad 25), .ref (ad 26), .ref (ad 27), .ref (ad 28), .ref (ad 29), .ref (ad 30), .ref (ad 31), .ref (ad 32), .ref (ad 33), .ref (ad 34), .int (4 : Int32), .int (0 : Int32), .int (0 : Int32), .ref (G.2.2 (100 + 10)), .ref (ad 35), .ref (ad 36), .ref (ad 37), .int (0 : Int32), .ref (ad 38), .ref (ad 39), .ref (ad 40), .ref (ad 41), .ref (ad 42), .ref (ad 43), .ref (ad 44), .ref (ad 45), .ref (ad 46), .ref (ad 47), .ref (ad 48), .ref (ad 49), .ref (ad 50), .ref (ad 51), .ref (ad 52), .ref (ad 53), .ref (ad 54), .ref (ad 55), .ref (ad 56), .ref (ad 57), .ref (ad 58), .ref (ad 59), .int (0 : Int32), .ref (ad 60), .int (0 : Int32), .ref (ad 61), .ref (ad 62), .int (0 : Int32), .ref (ad 63), .ref (ad 64), .ref (ad 65), .ref (ad 66), .ref (ad 67), .ref (ad 68), .int (0 : Int32), .ref (ad 69), .ref (ad 70), .ref (ad 71), .ref (ad 72), .ref (ad 73), .int (0 : Int32), .int (0 : Int32), .int (0 : Int32), .ref (ad 74), .ref (ad 75), .ref (ad 76), .ref (ad 77), .ref (ad 78), .ref (ad 79)]) := hw36
  refine lv_aload_n hx hb dX12_sign_63 rfl (lv_at hl 1 rfl) ?_
  refine tw_get (r := 0) F hH kf_RX12_188 rfl (by decide) hw36 rfl dX12_sign_64 ?_
  exact tw_iret F hH hret hlk rfl (Nat.le_of_ble_eq_true rfl) (Nat.le_of_ble_eq_true rfl) dX12_sign_67 (⟨rfl, trivial⟩)
set_option maxHeartbeats 4000000 in
set_option maxRecDepth 100000 in
theorem c_X12_end (l : Launch) (G : tw_G) (ad : Nat → Nat) (w : Nat → va_E) (sz : Nat) (x1 : Int32) (z1 : Int) (e1 : x1.toInt = z1) (hw_0 : w 0 = .inr (12, [.int (0 : Int32), .int (2 : Int32), .int (1 : Int32), .ref (ad 1), .ref (ad 2), .ref (ad 3), .ref (ad 4), .ref (ad 5), .int (0 : Int32), .ref (ad 6), .ref (ad 7), .ref (ad 8), .int (0 : Int32), .ref (ad 9), .ref (ad 10), .ref (ad 11), .ref (ad 12), .int (0 : Int32), .ref (ad 13), .ref (ad 14), .ref (ad 15), .ref (ad 16), .ref (ad 17), .ref (ad 18), .ref (ad 19), .ref (ad 20), .ref (ad 21), .ref (ad 22), .ref (ad 23), .ref (ad 24), .ref (ad 25), .ref (ad 26), .ref (ad 27), .ref (ad 28), .ref (ad 29), .ref (ad 30), .ref (ad 31), .ref (ad 32), .ref (ad 33), .ref (ad 34), .int (0 : Int32), .int (0 : Int32), .int (0 : Int32), .ref (G.2.2 (100 + 10)), .ref (ad 35), .ref (ad 36), .ref (ad 37), .int (0 : Int32), .ref (ad 38), .ref (ad 39), .ref (ad 40), .ref (ad 41), .ref (ad 42), .ref (ad 43), .ref (ad 44), .ref (ad 45), .ref (ad 46), .ref (ad 47), .ref (ad 48), .ref (ad 49), .ref (ad 50), .ref (ad 51), .ref (ad 52), .ref (ad 53), .ref (ad 54), .ref (ad 55), .ref (ad 56), .ref (ad 57), .ref (ad 58), .ref (ad 59), .int (0 : Int32), .ref (ad 60), .int (0 : Int32), .ref (ad 61), .ref (ad 62), .int (0 : Int32), .ref (ad 63), .ref (ad 64), .ref (ad 65), .ref (ad 66), .ref (ad 67), .ref (ad 68), .int (0 : Int32), .ref (ad 69), .ref (ad 70), .ref (ad 71), .ref (ad 72), .ref (ad 73), .int (0 : Int32), .int (0 : Int32), .int (0 : Int32), .ref (ad 74), .ref (ad 75), .ref (ad 76), .ref (ad 77), .ref (ad 78), .ref (ad 79)])) : Met l yX12_end (tw_ws yX12_end cX12_end 2 (some .boolean)) ({ frames := 1, cells := 0, slots := 0, locals := 25 }) (tw_Pre G 80 ad w sz [.ref (ad 0), .int x1]) (tw_Qi G 80 ad (fun r w1 => ((0 : Int32) = r ∧ (((z1 < 0)) ∨ ((¬ (z1 < 0)) ∧ (0 < z1)))) ∨ ((1 : Int32) = r ∧ ((¬ (z1 < 0)) ∧ (¬ (0 < z1))))) sz) 0 0 (tw_A 80 ad sz) := by
  refine tw_met (by decide) (Nat.le_of_ble_eq_true rfl) ?_
  intro p e s m args below meth c F hret hlk hin hargs hsz hH ls hl
  have hx := F.1.1
  have hb := F.1.2.1
  have hown := F.1.2.2.2.1
  have hts := F.1.2.2.2.2
  have hl : lv_has ls 2 [(0, .ref (ad 0)), (1, .int x1)] := hl
  generalize hH0 : s.heap = H at hH ⊢
  refine lv_aload_n hx hb dX12_end_0 rfl (lv_at hl 0 rfl) ?_
  refine lv_iconst (v := 0) hx hb dX12_end_1 (by decide) ?_
  refine tw_put (r := 0) F hH kf_RX12_3 kp_X12_0 rfl (by decide) hw_0 (Nat.le_of_ble_eq_true rfl) rfl rfl dX12_end_2 (fun H locs w1 hw2 hne3 hH => ?_)
  have hw2 : w1 0 = .inr (12, [.int (0 : Int32), .int (2 : Int32), .int (1 : Int32), .ref (ad 1), .ref (ad 2), .ref (ad 3), .ref (ad 4), .ref (ad 5), .int (0 : Int32), .ref (ad 6), .ref (ad 7), .ref (ad 8), .int (0 : Int32), .ref (ad 9), .ref (ad 10), .ref (ad 11), .ref (ad 12), .int (0 : Int32), .ref (ad 13), .ref (ad 14), .ref (ad 15), .ref (ad 16), .ref (ad 17), .ref (ad 18), .ref (ad 19), .ref (ad 20), .ref (ad 21), .ref (ad 22), .ref (ad 23), .ref (ad 24), .ref (ad 25), .ref (ad 26), .ref (ad 27), .ref (ad 28), .ref (ad 29), .ref (ad 30), .ref (ad 31), .ref (ad 32), .ref (ad 33), .ref (ad 34), .int (0 : Int32), .int (0 : Int32), .int (0 : Int32), .ref (G.2.2 (100 + 10)), .ref (ad 35), .ref (ad 36), .ref (ad 37), .int (0 : Int32), .ref (ad 38), .ref (ad 39), .ref (ad 40), .ref (ad 41), .ref (ad 42), .ref (ad 43), .ref (ad 44), .ref (ad 45), .ref (ad 46), .ref (ad 47), .ref (ad 48), .ref (ad 49), .ref (ad 50), .ref (ad 51), .ref (ad 52), .ref (ad 53), .ref (ad 54), .ref (ad 55), .ref (ad 56), .ref (ad 57), .ref (ad 58), .ref (ad 59), .int (0 : Int32), .ref (ad 60), .int (0 : Int32), .ref (ad 61), .ref (ad 62), .int (0 : Int32), .ref (ad 63), .ref (ad 64), .ref (ad 65), .ref (ad 66), .ref (ad 67), .ref (ad 68), .int (0 : Int32), .ref (ad 69), .ref (ad 70), .ref (ad 71), .ref (ad 72), .ref (ad 73), .int (0 : Int32), .int (0 : Int32), .int (0 : Int32), .ref (ad 74), .ref (ad 75), .ref (ad 76), .ref (ad 77), .ref (ad 78), .ref (ad 79)]) := hw2
  refine lv_iload_n hx hb dX12_end_5 rfl (lv_at hl 1 rfl) ?_
  refine lv_i2l (v := x1.toInt64) hx hb dX12_end_6 rfl ?_
  refine lv_lconst (v := 0) hx hb dX12_end_7 rfl ?_
  refine lv_aload_n hx hb dX12_end_8 rfl (lv_at hl 0 rfl) ?_
  refine tw_get (r := 0) F hH kf_RX12_188 rfl (by decide) hw2 rfl dX12_end_9 ?_
  refine lv_i2l (v := (0 : Int32).toInt64) hx hb dX12_end_12 rfl ?_
  have el3 : ((0 : Int32)).toInt64.toInt = 0 := by decide
  refine tw_calli F hH (tw_runS (As := [.long x1.toInt64, .long (0 : Int64), .long ((0 : Int32).toInt64)]) (rest := []) F hH (c_X12_in l G 80 ad w1 H.size x1.toInt64 (z1) ((tw_wide _).trans e1) (0 : Int64) 0 (by decide : (0 : Int64).toInt = 0) ((0 : Int32).toInt64) 0 el3) (tw_gl kw_1351 rfl) km_X12_in (tw_gl kw_1352 rfl) rfl rfl ⟨(Nat.le_of_ble_eq_true rfl), (Nat.le_of_ble_eq_true rfl)⟩ rfl hl.1 rfl (Nat.le_of_ble_eq_true rfl) dX12_end_13 ⟨(Nat.le_of_ble_eq_true rfl), (Nat.le_of_ble_eq_true rfl)⟩) (fun r7 w5 H locs hp6 _ hH => ?_)
  rcases hp6 with ⟨rfl, hc8, rfl⟩ | ⟨rfl, hc9, rfl⟩
  · skip
    refine lv_if_ne (tgt := 21) hx hb dX12_end_16 (by decide) (fun c => absurd c (by decide)) (fun _ => ?_)
    refine lv_iconst (v := 0) hx hb dX12_end_19 (by decide) ?_
    exact tw_iret F hH hret hlk rfl (Nat.le_of_ble_eq_true rfl) (Nat.le_of_ble_eq_true rfl) dX12_end_20 (Or.inl (⟨rfl, (by omega)⟩))
  · skip
    refine lv_if_ne (tgt := 21) hx hb dX12_end_16 (by decide) (fun _ => ?_) (fun c => absurd c (by decide))
    refine lv_aload_n hx hb dX12_end_21 rfl (lv_at hl 0 rfl) ?_
    refine lv_iload_n hx hb dX12_end_22 rfl (lv_at hl 1 rfl) ?_
    refine tw_put (r := 0) F hH kf_RX12_188 kp_X12_40 rfl (by decide) hw2 (Nat.le_of_ble_eq_true rfl) rfl rfl dX12_end_23 (fun H locs w12 hw13 hne14 hH => ?_)
    have hw13 : w12 0 = .inr (12, [.int (0 : Int32), .int (2 : Int32), .int (1 : Int32), .ref (ad 1), .ref (ad 2), .ref (ad 3), .ref (ad 4), .ref (ad 5), .int (0 : Int32), .ref (ad 6), .ref (ad 7), .ref (ad 8), .int (0 : Int32), .ref (ad 9), .ref (ad 10), .ref (ad 11), .ref (ad 12), .int (0 : Int32), .ref (ad 13), .ref (ad 14), .ref (ad 15), .ref (ad 16), .ref (ad 17), .ref (ad 18), .ref (ad 19), .ref (ad 20), .ref (ad 21), .ref (ad 22), .ref (ad 23), .ref (ad 24), .ref (ad 25), .ref (ad 26), .ref (ad 27), .ref (ad 28), .ref (ad 29), .ref (ad 30), .ref (ad 31), .ref (ad 32), .ref (ad 33), .ref (ad 34), .int x1, .int (0 : Int32), .int (0 : Int32), .ref (G.2.2 (100 + 10)), .ref (ad 35), .ref (ad 36), .ref (ad 37), .int (0 : Int32), .ref (ad 38), .ref (ad 39), .ref (ad 40), .ref (ad 41), .ref (ad 42), .ref (ad 43), .ref (ad 44), .ref (ad 45), .ref (ad 46), .ref (ad 47), .ref (ad 48), .ref (ad 49), .ref (ad 50), .ref (ad 51), .ref (ad 52), .ref (ad 53), .ref (ad 54), .ref (ad 55), .ref (ad 56), .ref (ad 57), .ref (ad 58), .ref (ad 59), .int (0 : Int32), .ref (ad 60), .int (0 : Int32), .ref (ad 61), .ref (ad 62), .int (0 : Int32), .ref (ad 63), .ref (ad 64), .ref (ad 65), .ref (ad 66), .ref (ad 67), .ref (ad 68), .int (0 : Int32), .ref (ad 69), .ref (ad 70), .ref (ad 71), .ref (ad 72), .ref (ad 73), .int (0 : Int32), .int (0 : Int32), .int (0 : Int32), .ref (ad 74), .ref (ad 75), .ref (ad 76), .ref (ad 77), .ref (ad 78), .ref (ad 79)]) := hw13
    refine lv_iconst (v := 1) hx hb dX12_end_26 (by decide) ?_
    exact tw_iret F hH hret hlk rfl (Nat.le_of_ble_eq_true rfl) (Nat.le_of_ble_eq_true rfl) dX12_end_27 (Or.inr (⟨rfl, (by omega)⟩))
set_option maxHeartbeats 4000000 in
set_option maxRecDepth 100000 in
theorem c_X12_isDay (l : Launch) (G : tw_G) (N : Nat) (ad : Nat → Nat) (w : Nat → va_E) (sz : Nat) (x0 : Int32) (z0 : Int) (e0 : x0.toInt = z0) : Met l yX12_isDay (tw_ws yX12_isDay cX12_isDay 1 (some .boolean)) ({ frames := 1, cells := 0, slots := 0, locals := 25 }) (tw_Pre G N ad w sz [.int x0]) (tw_Qi G N ad (fun r w1 => ((0 : Int32) = r ∧ (((z0 < 0)) ∨ ((¬ (z0 < 0)) ∧ (99 < z0))) ∧ w = w1) ∨ ((1 : Int32) = r ∧ ((¬ (z0 < 0)) ∧ (¬ (99 < z0))) ∧ w = w1)) sz) 0 0 (tw_A N ad sz) := by
  refine tw_met (by decide) (Nat.le_of_ble_eq_true rfl) ?_
  intro p e s m args below meth c F hret hlk hin hargs hsz hH ls hl
  have hx := F.1.1
  have hb := F.1.2.1
  have hown := F.1.2.2.2.1
  have hts := F.1.2.2.2.2
  have hl : lv_has ls 1 [(0, .int x0)] := hl
  generalize hH0 : s.heap = H at hH ⊢
  refine lv_iload_n hx hb dX12_isDay_0 rfl (lv_at hl 0 rfl) ?_
  refine lv_i2l (v := x0.toInt64) hx hb dX12_isDay_1 rfl ?_
  refine lv_lconst (v := 0) hx hb dX12_isDay_2 rfl ?_
  refine lv_ldc2 (v := 99) hx hb hown (hts _ (tw_gl kw_1654 rfl)) dX12_isDay_3 ?_
  refine tw_calli F hH (tw_runS (As := [.long x0.toInt64, .long (0 : Int64), .long (99 : Int64)]) (rest := []) F hH (c_X12_in l G N ad w H.size x0.toInt64 (z0) ((tw_wide _).trans e0) (0 : Int64) 0 (by decide : (0 : Int64).toInt = 0) (99 : Int64) 99 (by decide : (99 : Int64).toInt = 99)) (tw_gl kw_1351 rfl) km_X12_in (tw_gl kw_1352 rfl) rfl rfl ⟨(Nat.le_of_ble_eq_true rfl), (Nat.le_of_ble_eq_true rfl)⟩ rfl hl.1 rfl (Nat.le_of_ble_eq_true rfl) dX12_isDay_6 ⟨(Nat.le_of_ble_eq_true rfl), (Nat.le_of_ble_eq_true rfl)⟩) (fun r3 w1 H locs hp2 _ hH => ?_)
  rcases hp2 with ⟨rfl, hc4, rfl⟩ | ⟨rfl, hc5, rfl⟩
  · skip
    exact tw_iret F hH hret hlk rfl (Nat.le_of_ble_eq_true rfl) (Nat.le_of_ble_eq_true rfl) dX12_isDay_9 (Or.inl (⟨rfl, (by omega), rfl⟩))
  · skip
    exact tw_iret F hH hret hlk rfl (Nat.le_of_ble_eq_true rfl) (Nat.le_of_ble_eq_true rfl) dX12_isDay_9 (Or.inr (⟨rfl, (by omega), rfl⟩))
set_option maxHeartbeats 4000000 in
set_option maxRecDepth 100000 in
theorem c_X12_isOf (l : Launch) (G : tw_G) (ad : Nat → Nat) (w : Nat → va_E) (sz : Nat) (a2 : Nat) (hw_0 : w 0 = .inr (12, [.int (0 : Int32), .int (2 : Int32), .int (1 : Int32), .ref (ad 1), .ref (ad 2), .ref (ad 3), .ref (ad 4), .ref (ad 5), .int (0 : Int32), .ref (ad 6), .ref (ad 7), .ref (ad 8), .int (0 : Int32), .ref (ad 9), .ref (ad 10), .ref (ad 11), .ref (ad 12), .int (0 : Int32), .ref (ad 13), .ref (ad 14), .ref (ad 15), .ref (ad 16), .ref (ad 17), .ref (ad 18), .ref (ad 19), .ref (ad 20), .ref (ad 21), .ref (ad 22), .ref (ad 23), .ref (ad 24), .ref (ad 25), .ref (ad 26), .ref (ad 27), .ref (ad 28), .ref (ad 29), .ref (ad 30), .ref (ad 31), .ref (ad 32), .ref (ad 33), .ref (ad 34), .int (0 : Int32), .int (0 : Int32), .int (6 : Int32), .ref (G.2.2 (100 + 3)), .ref (ad 35), .ref (ad 36), .ref (ad 37), .int (0 : Int32), .ref (ad 38), .ref (ad 39), .ref (ad 40), .ref (ad 41), .ref (ad 42), .ref (ad 43), .ref (ad 44), .ref (ad 45), .ref (ad 46), .ref (ad 47), .ref (ad 48), .ref (ad 49), .ref (ad 50), .ref (ad 51), .ref (ad 52), .ref (ad 53), .ref (ad 54), .ref (ad 55), .ref (ad 56), .ref (ad 57), .ref (ad 58), .ref (ad 59), .int (0 : Int32), .ref (ad 60), .int (0 : Int32), .ref (ad 61), .ref (ad 62), .int (0 : Int32), .ref (ad 63), .ref (ad 64), .ref (ad 65), .ref (ad 66), .ref (ad 67), .ref (ad 68), .int (0 : Int32), .ref (ad 69), .ref (ad 70), .ref (ad 71), .ref (ad 72), .ref (ad 73), .int (0 : Int32), .int (0 : Int32), .int (0 : Int32), .ref (ad 74), .ref (ad 75), .ref (ad 76), .ref (ad 77), .ref (ad 78), .ref (ad 79)])) : Met l yX12_isOf (tw_ws yX12_isOf cX12_isOf 3 (some .boolean)) ({ frames := 0, cells := 0, slots := 0, locals := 0 }) (tw_Pre G 80 ad w sz [.ref (ad 0), .int (0 : Int32), .ref a2]) (tw_Qi G 80 ad (fun r w1 => ((0 : Int32) = r ∧ True ∧ w = w1)) sz) 0 0 (tw_A 80 ad sz) := by
  refine tw_met (by decide) (Nat.le_of_ble_eq_true rfl) ?_
  intro p e s m args below meth c F hret hlk hin hargs hsz hH ls hl
  have hx := F.1.1
  have hb := F.1.2.1
  have hown := F.1.2.2.2.1
  have hts := F.1.2.2.2.2
  have hl : lv_has ls 3 [(0, .ref (ad 0)), (1, .int (0 : Int32)), (2, .ref a2)] := hl
  generalize hH0 : s.heap = H at hH ⊢
  refine lv_aload_n hx hb dX12_isOf_0 rfl (lv_at hl 0 rfl) ?_
  refine tw_get (r := 0) F hH kf_RX12_194 rfl (by decide) hw_0 rfl dX12_isOf_1 ?_
  refine lv_iload_n hx hb dX12_isOf_4 rfl (lv_at hl 1 rfl) ?_
  refine lv_icmp_ge (tgt := 40) hx hb dX12_isOf_5 (by decide) (fun _ => ?_) (fun c => absurd c (by decide))
  refine lv_iconst (v := 0) hx hb dX12_isOf_40 (by decide) ?_
  exact tw_iret F hH hret hlk rfl (Nat.le_of_ble_eq_true rfl) (Nat.le_of_ble_eq_true rfl) dX12_isOf_41 (⟨rfl, trivial, rfl⟩)
set_option maxHeartbeats 4000000 in
set_option maxRecDepth 100000 in
theorem c_X12_isSign (l : Launch) (G : tw_G) (ad : Nat → Nat) (w : Nat → va_E) (sz : Nat) (hw_0 : w 0 = .inr (12, [.int (0 : Int32), .int (2 : Int32), .int (1 : Int32), .ref (ad 1), .ref (ad 2), .ref (ad 3), .ref (ad 4), .ref (ad 5), .int (0 : Int32), .ref (ad 6), .ref (ad 7), .ref (ad 8), .int (0 : Int32), .ref (ad 9), .ref (ad 10), .ref (ad 11), .ref (ad 12), .int (0 : Int32), .ref (ad 13), .ref (ad 14), .ref (ad 15), .ref (ad 16), .ref (ad 17), .ref (ad 18), .ref (ad 19), .ref (ad 20), .ref (ad 21), .ref (ad 22), .ref (ad 23), .ref (ad 24), .ref (ad 25), .ref (ad 26), .ref (ad 27), .ref (ad 28), .ref (ad 29), .ref (ad 30), .ref (ad 31), .ref (ad 32), .ref (ad 33), .ref (ad 34), .int (0 : Int32), .int (0 : Int32), .int (6 : Int32), .ref (G.2.2 (100 + 3)), .ref (ad 35), .ref (ad 36), .ref (ad 37), .int (0 : Int32), .ref (ad 38), .ref (ad 39), .ref (ad 40), .ref (ad 41), .ref (ad 42), .ref (ad 43), .ref (ad 44), .ref (ad 45), .ref (ad 46), .ref (ad 47), .ref (ad 48), .ref (ad 49), .ref (ad 50), .ref (ad 51), .ref (ad 52), .ref (ad 53), .ref (ad 54), .ref (ad 55), .ref (ad 56), .ref (ad 57), .ref (ad 58), .ref (ad 59), .int (0 : Int32), .ref (ad 60), .int (0 : Int32), .ref (ad 61), .ref (ad 62), .int (0 : Int32), .ref (ad 63), .ref (ad 64), .ref (ad 65), .ref (ad 66), .ref (ad 67), .ref (ad 68), .int (0 : Int32), .ref (ad 69), .ref (ad 70), .ref (ad 71), .ref (ad 72), .ref (ad 73), .int (0 : Int32), .int (0 : Int32), .int (0 : Int32), .ref (ad 74), .ref (ad 75), .ref (ad 76), .ref (ad 77), .ref (ad 78), .ref (ad 79)])) : Met l yX12_isSign (tw_ws yX12_isSign cX12_isSign 3 (some .boolean)) ({ frames := 0, cells := 0, slots := 0, locals := 0 }) (tw_Pre G 80 ad w sz [.ref (ad 0), .int (0 : Int32), .int (40 : Int32)]) (tw_Qi G 80 ad (fun r w1 => ((0 : Int32) = r ∧ True ∧ w = w1)) sz) 0 0 (tw_A 80 ad sz) := by
  refine tw_met (by decide) (Nat.le_of_ble_eq_true rfl) ?_
  intro p e s m args below meth c F hret hlk hin hargs hsz hH ls hl
  have hx := F.1.1
  have hb := F.1.2.1
  have hown := F.1.2.2.2.1
  have hts := F.1.2.2.2.2
  have hl : lv_has ls 3 [(0, .ref (ad 0)), (1, .int (0 : Int32)), (2, .int (40 : Int32))] := hl
  generalize hH0 : s.heap = H at hH ⊢
  refine lv_aload_n hx hb dX12_isSign_0 rfl (lv_at hl 0 rfl) ?_
  refine tw_get (r := 0) F hH kf_RX12_194 rfl (by decide) hw_0 rfl dX12_isSign_1 ?_
  refine lv_iload_n hx hb dX12_isSign_4 rfl (lv_at hl 1 rfl) ?_
  refine lv_icmp_ge (tgt := 25) hx hb dX12_isSign_5 (by decide) (fun _ => ?_) (fun c => absurd c (by decide))
  refine lv_iconst (v := 0) hx hb dX12_isSign_25 (by decide) ?_
  exact tw_iret F hH hret hlk rfl (Nat.le_of_ble_eq_true rfl) (Nat.le_of_ble_eq_true rfl) dX12_isSign_26 (⟨rfl, trivial, rfl⟩)
set_option maxHeartbeats 4000000 in
set_option maxRecDepth 100000 in
theorem c_X12_thing (l : Launch) (G : tw_G) (ad : Nat → Nat) (w : Nat → va_E) (sz : Nat) (hw_0 : w 0 = .inr (12, [.int (0 : Int32), .int (2 : Int32), .int (1 : Int32), .ref (ad 1), .ref (ad 2), .ref (ad 3), .ref (ad 4), .ref (ad 5), .int (0 : Int32), .ref (ad 6), .ref (ad 7), .ref (ad 8), .int (0 : Int32), .ref (ad 9), .ref (ad 10), .ref (ad 11), .ref (ad 12), .int (0 : Int32), .ref (ad 13), .ref (ad 14), .ref (ad 15), .ref (ad 16), .ref (ad 17), .ref (ad 18), .ref (ad 19), .ref (ad 20), .ref (ad 21), .ref (ad 22), .ref (ad 23), .ref (ad 24), .ref (ad 25), .ref (ad 26), .ref (ad 27), .ref (ad 28), .ref (ad 29), .ref (ad 30), .ref (ad 31), .ref (ad 32), .ref (ad 33), .ref (ad 34), .int (0 : Int32), .int (0 : Int32), .int (6 : Int32), .ref (G.2.2 (100 + 3)), .ref (ad 35), .ref (ad 36), .ref (ad 37), .int (0 : Int32), .ref (ad 38), .ref (ad 39), .ref (ad 40), .ref (ad 41), .ref (ad 42), .ref (ad 43), .ref (ad 44), .ref (ad 45), .ref (ad 46), .ref (ad 47), .ref (ad 48), .ref (ad 49), .ref (ad 50), .ref (ad 51), .ref (ad 52), .ref (ad 53), .ref (ad 54), .ref (ad 55), .ref (ad 56), .ref (ad 57), .ref (ad 58), .ref (ad 59), .int (0 : Int32), .ref (ad 60), .int (0 : Int32), .ref (ad 61), .ref (ad 62), .int (0 : Int32), .ref (ad 63), .ref (ad 64), .ref (ad 65), .ref (ad 66), .ref (ad 67), .ref (ad 68), .int (0 : Int32), .ref (ad 69), .ref (ad 70), .ref (ad 71), .ref (ad 72), .ref (ad 73), .int (0 : Int32), .int (0 : Int32), .int (0 : Int32), .ref (ad 74), .ref (ad 75), .ref (ad 76), .ref (ad 77), .ref (ad 78), .ref (ad 79)])) : Met l yX12_thing (tw_ws yX12_thing cX12_thing 2 (some .boolean)) ({ frames := 1, cells := 0, slots := 0, locals := 22 }) (tw_Pre G 80 ad w sz [.ref (ad 0), .int (0 : Int32)]) (tw_Qi G 80 ad (fun r w1 => ((0 : Int32) = r ∧ True ∧ w = w1)) sz) 0 0 (tw_A 80 ad sz) := by
  refine tw_met (by decide) (Nat.le_of_ble_eq_true rfl) ?_
  intro p e s m args below meth c F hret hlk hin hargs hsz hH ls hl
  have hx := F.1.1
  have hb := F.1.2.1
  have hown := F.1.2.2.2.1
  have hts := F.1.2.2.2.2
  have hl : lv_has ls 2 [(0, .ref (ad 0)), (1, .int (0 : Int32))] := hl
  generalize hH0 : s.heap = H at hH ⊢
  refine lv_aload_n hx hb dX12_thing_0 rfl (lv_at hl 0 rfl) ?_
  refine lv_iload_n hx hb dX12_thing_1 rfl (lv_at hl 1 rfl) ?_
  refine lv_aload_n hx hb dX12_thing_2 rfl (lv_at hl 0 rfl) ?_
  refine tw_get (r := 0) F hH kf_RX12_221 rfl (by decide) hw_0 rfl dX12_thing_3 ?_
  refine tw_calli F hH (tw_runV (r := 0) (As := [.int (0 : Int32), .ref (G.2.2 (100 + 3))]) (rest := []) F hH (c_X12_isOf l G ad w H.size (G.2.2 (100 + 3)) hw_0) (tw_gl kw_1508 rfl) km_X12_isOf kv_X12_isOf rfl rfl ⟨(Nat.le_of_ble_eq_true rfl), (Nat.le_of_ble_eq_true rfl)⟩ (by decide) hw_0 rfl rfl hl.1 rfl (Nat.le_of_ble_eq_true rfl) dX12_thing_6 ⟨(Nat.le_of_ble_eq_true rfl), (Nat.le_of_ble_eq_true rfl)⟩) (fun r3 w1 H locs hp2 _ hH => ?_)
  obtain ⟨rfl, -, rfl⟩ := hp2
  refine lv_if_eq (tgt := 46) hx hb dX12_thing_9 (by decide) (fun _ => ?_) (fun c => absurd c (by decide))
  refine lv_aload_n hx hb dX12_thing_46 rfl (lv_at hl 0 rfl) ?_
  refine lv_iload_n hx hb dX12_thing_47 rfl (lv_at hl 1 rfl) ?_
  refine lv_bipush (v := 40) hx hb dX12_thing_48 (by decide) ?_
  refine tw_calli F hH (tw_runV (r := 0) (As := [.int (0 : Int32), .int (40 : Int32)]) (rest := []) F hH (c_X12_isSign l G ad w H.size hw_0) (tw_gl kw_1475 rfl) km_X12_isSign kv_X12_isSign rfl rfl ⟨(Nat.le_of_ble_eq_true rfl), (Nat.le_of_ble_eq_true rfl)⟩ (by decide) hw_0 rfl rfl hl.1 rfl (Nat.le_of_ble_eq_true rfl) dX12_thing_50 ⟨(Nat.le_of_ble_eq_true rfl), (Nat.le_of_ble_eq_true rfl)⟩) (fun r8 w6 H locs hp7 _ hH => ?_)
  obtain ⟨rfl, -, rfl⟩ := hp7
  refine lv_if_ne (tgt := 80) hx hb dX12_thing_53 (by decide) (fun c => absurd c (by decide)) (fun _ => ?_)
  refine lv_aload_n hx hb dX12_thing_56 rfl (lv_at hl 0 rfl) ?_
  refine lv_iload_n hx hb dX12_thing_57 rfl (lv_at hl 1 rfl) ?_
  refine tw_ldcS F 5 (by decide) rfl rfl dX12_thing_58 ?_
  refine tw_calli F hH (tw_runV (r := 0) (As := [.int (0 : Int32), .ref (G.2.2 (100 + 5))]) (rest := []) F hH (c_X12_isOf l G ad w H.size (G.2.2 (100 + 5)) hw_0) (tw_gl kw_1508 rfl) km_X12_isOf kv_X12_isOf rfl rfl ⟨(Nat.le_of_ble_eq_true rfl), (Nat.le_of_ble_eq_true rfl)⟩ (by decide) hw_0 rfl rfl hl.1 rfl (Nat.le_of_ble_eq_true rfl) dX12_thing_60 ⟨(Nat.le_of_ble_eq_true rfl), (Nat.le_of_ble_eq_true rfl)⟩) (fun r13 w11 H locs hp12 _ hH => ?_)
  obtain ⟨rfl, -, rfl⟩ := hp12
  refine lv_if_eq (tgt := 78) hx hb dX12_thing_63 (by decide) (fun _ => ?_) (fun c => absurd c (by decide))
  refine lv_iconst (v := 0) hx hb dX12_thing_78 (by decide) ?_
  exact tw_iret F hH hret hlk rfl (Nat.le_of_ble_eq_true rfl) (Nat.le_of_ble_eq_true rfl) dX12_thing_79 (⟨rfl, trivial, rfl⟩)
set_option maxHeartbeats 4000000 in
set_option maxRecDepth 100000 in
theorem c_X12_unary (l : Launch) (G : tw_G) (ad : Nat → Nat) (w : Nat → va_E) (sz : Nat) (hw_0 : w 0 = .inr (12, [.int (0 : Int32), .int (2 : Int32), .int (1 : Int32), .ref (ad 1), .ref (ad 2), .ref (ad 3), .ref (ad 4), .ref (ad 5), .int (0 : Int32), .ref (ad 6), .ref (ad 7), .ref (ad 8), .int (0 : Int32), .ref (ad 9), .ref (ad 10), .ref (ad 11), .ref (ad 12), .int (0 : Int32), .ref (ad 13), .ref (ad 14), .ref (ad 15), .ref (ad 16), .ref (ad 17), .ref (ad 18), .ref (ad 19), .ref (ad 20), .ref (ad 21), .ref (ad 22), .ref (ad 23), .ref (ad 24), .ref (ad 25), .ref (ad 26), .ref (ad 27), .ref (ad 28), .ref (ad 29), .ref (ad 30), .ref (ad 31), .ref (ad 32), .ref (ad 33), .ref (ad 34), .int (0 : Int32), .int (0 : Int32), .int (6 : Int32), .ref (G.2.2 (100 + 3)), .ref (ad 35), .ref (ad 36), .ref (ad 37), .int (0 : Int32), .ref (ad 38), .ref (ad 39), .ref (ad 40), .ref (ad 41), .ref (ad 42), .ref (ad 43), .ref (ad 44), .ref (ad 45), .ref (ad 46), .ref (ad 47), .ref (ad 48), .ref (ad 49), .ref (ad 50), .ref (ad 51), .ref (ad 52), .ref (ad 53), .ref (ad 54), .ref (ad 55), .ref (ad 56), .ref (ad 57), .ref (ad 58), .ref (ad 59), .int (0 : Int32), .ref (ad 60), .int (0 : Int32), .ref (ad 61), .ref (ad 62), .int (0 : Int32), .ref (ad 63), .ref (ad 64), .ref (ad 65), .ref (ad 66), .ref (ad 67), .ref (ad 68), .int (0 : Int32), .ref (ad 69), .ref (ad 70), .ref (ad 71), .ref (ad 72), .ref (ad 73), .int (0 : Int32), .int (0 : Int32), .int (0 : Int32), .ref (ad 74), .ref (ad 75), .ref (ad 76), .ref (ad 77), .ref (ad 78), .ref (ad 79)])) : Met l yX12_unary (tw_ws yX12_unary cX12_unary 3 (some .boolean)) ({ frames := 2, cells := 0, slots := 0, locals := 43 }) (tw_Pre G 80 ad w sz [.ref (ad 0), .int (0 : Int32)]) (tw_Qi G 80 ad (fun r w1 => ((0 : Int32) = r ∧ True ∧ w = w1)) sz) 0 0 (tw_A 80 ad sz) := by
  refine tw_met (by decide) (Nat.le_of_ble_eq_true rfl) ?_
  intro p e s m args below meth c F hret hlk hin hargs hsz hH ls hl
  have hx := F.1.1
  have hb := F.1.2.1
  have hown := F.1.2.2.2.1
  have hts := F.1.2.2.2.2
  have hl : lv_has ls 3 [(0, .ref (ad 0)), (1, .int (0 : Int32))] := hl
  generalize hH0 : s.heap = H at hH ⊢
  refine lv_aload_n hx hb dX12_unary_0 rfl (lv_at hl 0 rfl) ?_
  refine lv_iload_n hx hb dX12_unary_1 rfl (lv_at hl 1 rfl) ?_
  refine tw_ldcS F 4 (by decide) rfl rfl dX12_unary_2 ?_
  refine tw_calli F hH (tw_runV (r := 0) (As := [.int (0 : Int32), .ref (G.2.2 (100 + 4))]) (rest := []) F hH (c_X12_isOf l G ad w H.size (G.2.2 (100 + 4)) hw_0) (tw_gl kw_1508 rfl) km_X12_isOf kv_X12_isOf rfl rfl ⟨(Nat.le_of_ble_eq_true rfl), (Nat.le_of_ble_eq_true rfl)⟩ (by decide) hw_0 rfl rfl hl.1 rfl (Nat.le_of_ble_eq_true rfl) dX12_unary_4 ⟨(Nat.le_of_ble_eq_true rfl), (Nat.le_of_ble_eq_true rfl)⟩) (fun r3 w1 H locs hp2 _ hH => ?_)
  obtain ⟨rfl, -, rfl⟩ := hp2
  refine lv_if_ne (tgt := 16) hx hb dX12_unary_7 (by decide) (fun c => absurd c (by decide)) (fun _ => ?_)
  refine lv_aload_n hx hb dX12_unary_10 rfl (lv_at hl 0 rfl) ?_
  refine lv_iload_n hx hb dX12_unary_11 rfl (lv_at hl 1 rfl) ?_
  refine tw_calli F hH (tw_runV (r := 0) (As := [.int (0 : Int32)]) (rest := []) F hH (c_X12_thing l G ad w H.size hw_0) (tw_gl kw_1513 rfl) km_X12_thing kv_X12_thing rfl rfl ⟨(Nat.le_of_ble_eq_true rfl), (Nat.le_of_ble_eq_true rfl)⟩ (by decide) hw_0 rfl rfl hl.1 rfl (Nat.le_of_ble_eq_true rfl) dX12_unary_12 ⟨(Nat.le_of_ble_eq_true rfl), (Nat.le_of_ble_eq_true rfl)⟩) (fun r8 w6 H locs hp7 _ hH => ?_)
  obtain ⟨rfl, -, rfl⟩ := hp7
  exact tw_iret F hH hret hlk rfl (Nat.le_of_ble_eq_true rfl) (Nat.le_of_ble_eq_true rfl) dX12_unary_15 (⟨rfl, trivial, rfl⟩)
set_option maxHeartbeats 4000000 in
set_option maxRecDepth 100000 in
theorem c_X12_product (l : Launch) (G : tw_G) (ad : Nat → Nat) (w : Nat → va_E) (sz : Nat) (hw_0 : w 0 = .inr (12, [.int (0 : Int32), .int (2 : Int32), .int (1 : Int32), .ref (ad 1), .ref (ad 2), .ref (ad 3), .ref (ad 4), .ref (ad 5), .int (0 : Int32), .ref (ad 6), .ref (ad 7), .ref (ad 8), .int (0 : Int32), .ref (ad 9), .ref (ad 10), .ref (ad 11), .ref (ad 12), .int (0 : Int32), .ref (ad 13), .ref (ad 14), .ref (ad 15), .ref (ad 16), .ref (ad 17), .ref (ad 18), .ref (ad 19), .ref (ad 20), .ref (ad 21), .ref (ad 22), .ref (ad 23), .ref (ad 24), .ref (ad 25), .ref (ad 26), .ref (ad 27), .ref (ad 28), .ref (ad 29), .ref (ad 30), .ref (ad 31), .ref (ad 32), .ref (ad 33), .ref (ad 34), .int (0 : Int32), .int (0 : Int32), .int (6 : Int32), .ref (G.2.2 (100 + 3)), .ref (ad 35), .ref (ad 36), .ref (ad 37), .int (0 : Int32), .ref (ad 38), .ref (ad 39), .ref (ad 40), .ref (ad 41), .ref (ad 42), .ref (ad 43), .ref (ad 44), .ref (ad 45), .ref (ad 46), .ref (ad 47), .ref (ad 48), .ref (ad 49), .ref (ad 50), .ref (ad 51), .ref (ad 52), .ref (ad 53), .ref (ad 54), .ref (ad 55), .ref (ad 56), .ref (ad 57), .ref (ad 58), .ref (ad 59), .int (0 : Int32), .ref (ad 60), .int (0 : Int32), .ref (ad 61), .ref (ad 62), .int (0 : Int32), .ref (ad 63), .ref (ad 64), .ref (ad 65), .ref (ad 66), .ref (ad 67), .ref (ad 68), .int (0 : Int32), .ref (ad 69), .ref (ad 70), .ref (ad 71), .ref (ad 72), .ref (ad 73), .int (0 : Int32), .int (0 : Int32), .int (0 : Int32), .ref (ad 74), .ref (ad 75), .ref (ad 76), .ref (ad 77), .ref (ad 78), .ref (ad 79)])) : Met l yX12_product (tw_ws yX12_product cX12_product 3 (some .boolean)) ({ frames := 3, cells := 0, slots := 0, locals := 65 }) (tw_Pre G 80 ad w sz [.ref (ad 0), .int (0 : Int32)]) (tw_Qi G 80 ad (fun r w1 => ((0 : Int32) = r ∧ True ∧ w = w1)) sz) 0 0 (tw_A 80 ad sz) := by
  refine tw_met (by decide) (Nat.le_of_ble_eq_true rfl) ?_
  intro p e s m args below meth c F hret hlk hin hargs hsz hH ls hl
  have hx := F.1.1
  have hb := F.1.2.1
  have hown := F.1.2.2.2.1
  have hts := F.1.2.2.2.2
  have hl : lv_has ls 3 [(0, .ref (ad 0)), (1, .int (0 : Int32))] := hl
  generalize hH0 : s.heap = H at hH ⊢
  refine lv_aload_n hx hb dX12_product_0 rfl (lv_at hl 0 rfl) ?_
  refine lv_iload_n hx hb dX12_product_1 rfl (lv_at hl 1 rfl) ?_
  refine tw_calli F hH (tw_runV (r := 0) (As := [.int (0 : Int32)]) (rest := []) F hH (c_X12_unary l G ad w H.size hw_0) (tw_gl kw_1503 rfl) km_X12_unary kv_X12_unary rfl rfl ⟨(Nat.le_of_ble_eq_true rfl), (Nat.le_of_ble_eq_true rfl)⟩ (by decide) hw_0 rfl rfl hl.1 rfl (Nat.le_of_ble_eq_true rfl) dX12_product_2 ⟨(Nat.le_of_ble_eq_true rfl), (Nat.le_of_ble_eq_true rfl)⟩) (fun r3 w1 H locs hp2 _ hH => ?_)
  obtain ⟨rfl, -, rfl⟩ := hp2
  refine lv_istore_n (lv' := [(2, .int (0 : Int32)), (0, .ref (ad 0)), (1, .int (0 : Int32))]) hx hb dX12_product_5 rfl hl (by decide) rfl (fun ls hl => ?_)
  refine lv_iload_n hx hb dX12_product_6 rfl (lv_at hl 0 rfl) ?_
  refine lv_if_eq (tgt := 52) hx hb dX12_product_7 (by decide) (fun _ => ?_) (fun c => absurd c (by decide))
  refine lv_iload_n hx hb dX12_product_52 rfl (lv_at hl 0 rfl) ?_
  exact tw_iret F hH hret hlk rfl (Nat.le_of_ble_eq_true rfl) (Nat.le_of_ble_eq_true rfl) dX12_product_53 (⟨rfl, trivial, rfl⟩)
set_option maxHeartbeats 4000000 in
set_option maxRecDepth 100000 in
theorem c_X12_total (l : Launch) (G : tw_G) (ad : Nat → Nat) (w : Nat → va_E) (sz : Nat) (hw_0 : w 0 = .inr (12, [.int (0 : Int32), .int (2 : Int32), .int (1 : Int32), .ref (ad 1), .ref (ad 2), .ref (ad 3), .ref (ad 4), .ref (ad 5), .int (0 : Int32), .ref (ad 6), .ref (ad 7), .ref (ad 8), .int (0 : Int32), .ref (ad 9), .ref (ad 10), .ref (ad 11), .ref (ad 12), .int (0 : Int32), .ref (ad 13), .ref (ad 14), .ref (ad 15), .ref (ad 16), .ref (ad 17), .ref (ad 18), .ref (ad 19), .ref (ad 20), .ref (ad 21), .ref (ad 22), .ref (ad 23), .ref (ad 24), .ref (ad 25), .ref (ad 26), .ref (ad 27), .ref (ad 28), .ref (ad 29), .ref (ad 30), .ref (ad 31), .ref (ad 32), .ref (ad 33), .ref (ad 34), .int (0 : Int32), .int (0 : Int32), .int (6 : Int32), .ref (G.2.2 (100 + 3)), .ref (ad 35), .ref (ad 36), .ref (ad 37), .int (0 : Int32), .ref (ad 38), .ref (ad 39), .ref (ad 40), .ref (ad 41), .ref (ad 42), .ref (ad 43), .ref (ad 44), .ref (ad 45), .ref (ad 46), .ref (ad 47), .ref (ad 48), .ref (ad 49), .ref (ad 50), .ref (ad 51), .ref (ad 52), .ref (ad 53), .ref (ad 54), .ref (ad 55), .ref (ad 56), .ref (ad 57), .ref (ad 58), .ref (ad 59), .int (0 : Int32), .ref (ad 60), .int (0 : Int32), .ref (ad 61), .ref (ad 62), .int (0 : Int32), .ref (ad 63), .ref (ad 64), .ref (ad 65), .ref (ad 66), .ref (ad 67), .ref (ad 68), .int (0 : Int32), .ref (ad 69), .ref (ad 70), .ref (ad 71), .ref (ad 72), .ref (ad 73), .int (0 : Int32), .int (0 : Int32), .int (0 : Int32), .ref (ad 74), .ref (ad 75), .ref (ad 76), .ref (ad 77), .ref (ad 78), .ref (ad 79)])) : Met l yX12_total (tw_ws yX12_total cX12_total 4 (some .boolean)) ({ frames := 4, cells := 0, slots := 0, locals := 87 }) (tw_Pre G 80 ad w sz [.ref (ad 0), .int (0 : Int32)]) (tw_Qi G 80 ad (fun r w1 => ((0 : Int32) = r ∧ True ∧ w = w1)) sz) 0 0 (tw_A 80 ad sz) := by
  refine tw_met (by decide) (Nat.le_of_ble_eq_true rfl) ?_
  intro p e s m args below meth c F hret hlk hin hargs hsz hH ls hl
  have hx := F.1.1
  have hb := F.1.2.1
  have hown := F.1.2.2.2.1
  have hts := F.1.2.2.2.2
  have hl : lv_has ls 4 [(0, .ref (ad 0)), (1, .int (0 : Int32))] := hl
  generalize hH0 : s.heap = H at hH ⊢
  refine lv_aload_n hx hb dX12_total_0 rfl (lv_at hl 0 rfl) ?_
  refine lv_iload_n hx hb dX12_total_1 rfl (lv_at hl 1 rfl) ?_
  refine tw_calli F hH (tw_runV (r := 0) (As := [.int (0 : Int32)]) (rest := []) F hH (c_X12_product l G ad w H.size hw_0) (tw_gl kw_1499 rfl) km_X12_product kv_X12_product rfl rfl ⟨(Nat.le_of_ble_eq_true rfl), (Nat.le_of_ble_eq_true rfl)⟩ (by decide) hw_0 rfl rfl hl.1 rfl (Nat.le_of_ble_eq_true rfl) dX12_total_2 ⟨(Nat.le_of_ble_eq_true rfl), (Nat.le_of_ble_eq_true rfl)⟩) (fun r3 w1 H locs hp2 _ hH => ?_)
  obtain ⟨rfl, -, rfl⟩ := hp2
  refine lv_istore_n (lv' := [(2, .int (0 : Int32)), (0, .ref (ad 0)), (1, .int (0 : Int32))]) hx hb dX12_total_5 rfl hl (by decide) rfl (fun ls hl => ?_)
  refine lv_iload_n hx hb dX12_total_6 rfl (lv_at hl 0 rfl) ?_
  refine lv_if_eq (tgt := 61) hx hb dX12_total_7 (by decide) (fun _ => ?_) (fun c => absurd c (by decide))
  refine lv_iload_n hx hb dX12_total_61 rfl (lv_at hl 0 rfl) ?_
  exact tw_iret F hH hret hlk rfl (Nat.le_of_ble_eq_true rfl) (Nat.le_of_ble_eq_true rfl) dX12_total_62 (⟨rfl, trivial, rfl⟩)
set_option maxHeartbeats 4000000 in
set_option maxRecDepth 100000 in
theorem c_X12_compared (l : Launch) (G : tw_G) (ad : Nat → Nat) (w : Nat → va_E) (sz : Nat) (hw_0 : w 0 = .inr (12, [.int (0 : Int32), .int (2 : Int32), .int (1 : Int32), .ref (ad 1), .ref (ad 2), .ref (ad 3), .ref (ad 4), .ref (ad 5), .int (0 : Int32), .ref (ad 6), .ref (ad 7), .ref (ad 8), .int (0 : Int32), .ref (ad 9), .ref (ad 10), .ref (ad 11), .ref (ad 12), .int (0 : Int32), .ref (ad 13), .ref (ad 14), .ref (ad 15), .ref (ad 16), .ref (ad 17), .ref (ad 18), .ref (ad 19), .ref (ad 20), .ref (ad 21), .ref (ad 22), .ref (ad 23), .ref (ad 24), .ref (ad 25), .ref (ad 26), .ref (ad 27), .ref (ad 28), .ref (ad 29), .ref (ad 30), .ref (ad 31), .ref (ad 32), .ref (ad 33), .ref (ad 34), .int (0 : Int32), .int (0 : Int32), .int (6 : Int32), .ref (G.2.2 (100 + 3)), .ref (ad 35), .ref (ad 36), .ref (ad 37), .int (0 : Int32), .ref (ad 38), .ref (ad 39), .ref (ad 40), .ref (ad 41), .ref (ad 42), .ref (ad 43), .ref (ad 44), .ref (ad 45), .ref (ad 46), .ref (ad 47), .ref (ad 48), .ref (ad 49), .ref (ad 50), .ref (ad 51), .ref (ad 52), .ref (ad 53), .ref (ad 54), .ref (ad 55), .ref (ad 56), .ref (ad 57), .ref (ad 58), .ref (ad 59), .int (0 : Int32), .ref (ad 60), .int (0 : Int32), .ref (ad 61), .ref (ad 62), .int (0 : Int32), .ref (ad 63), .ref (ad 64), .ref (ad 65), .ref (ad 66), .ref (ad 67), .ref (ad 68), .int (0 : Int32), .ref (ad 69), .ref (ad 70), .ref (ad 71), .ref (ad 72), .ref (ad 73), .int (0 : Int32), .int (0 : Int32), .int (0 : Int32), .ref (ad 74), .ref (ad 75), .ref (ad 76), .ref (ad 77), .ref (ad 78), .ref (ad 79)])) : Met l yX12_compared (tw_ws yX12_compared cX12_compared 4 (some .boolean)) ({ frames := 5, cells := 0, slots := 0, locals := 110 }) (tw_Pre G 80 ad w sz [.ref (ad 0), .int (0 : Int32)]) (tw_Qi G 80 ad (fun r w1 => ((0 : Int32) = r ∧ True ∧ w = w1)) sz) 0 0 (tw_A 80 ad sz) := by
  refine tw_met (by decide) (Nat.le_of_ble_eq_true rfl) ?_
  intro p e s m args below meth c F hret hlk hin hargs hsz hH ls hl
  have hx := F.1.1
  have hb := F.1.2.1
  have hown := F.1.2.2.2.1
  have hts := F.1.2.2.2.2
  have hl : lv_has ls 4 [(0, .ref (ad 0)), (1, .int (0 : Int32))] := hl
  generalize hH0 : s.heap = H at hH ⊢
  refine lv_aload_n hx hb dX12_compared_0 rfl (lv_at hl 0 rfl) ?_
  refine lv_iload_n hx hb dX12_compared_1 rfl (lv_at hl 1 rfl) ?_
  refine tw_calli F hH (tw_runV (r := 0) (As := [.int (0 : Int32)]) (rest := []) F hH (c_X12_total l G ad w H.size hw_0) (tw_gl kw_1495 rfl) km_X12_total kv_X12_total rfl rfl ⟨(Nat.le_of_ble_eq_true rfl), (Nat.le_of_ble_eq_true rfl)⟩ (by decide) hw_0 rfl rfl hl.1 rfl (Nat.le_of_ble_eq_true rfl) dX12_compared_2 ⟨(Nat.le_of_ble_eq_true rfl), (Nat.le_of_ble_eq_true rfl)⟩) (fun r3 w1 H locs hp2 _ hH => ?_)
  obtain ⟨rfl, -, rfl⟩ := hp2
  refine lv_istore_n (lv' := [(2, .int (0 : Int32)), (0, .ref (ad 0)), (1, .int (0 : Int32))]) hx hb dX12_compared_5 rfl hl (by decide) rfl (fun ls hl => ?_)
  refine lv_iload_n hx hb dX12_compared_6 rfl (lv_at hl 0 rfl) ?_
  refine lv_if_eq (tgt := 58) hx hb dX12_compared_7 (by decide) (fun _ => ?_) (fun c => absurd c (by decide))
  refine lv_iload_n hx hb dX12_compared_58 rfl (lv_at hl 0 rfl) ?_
  exact tw_iret F hH hret hlk rfl (Nat.le_of_ble_eq_true rfl) (Nat.le_of_ble_eq_true rfl) dX12_compared_59 (⟨rfl, trivial, rfl⟩)
set_option maxHeartbeats 4000000 in
set_option maxRecDepth 100000 in
theorem c_X12_every (l : Launch) (G : tw_G) (ad : Nat → Nat) (w : Nat → va_E) (sz : Nat) (hw_0 : w 0 = .inr (12, [.int (0 : Int32), .int (2 : Int32), .int (1 : Int32), .ref (ad 1), .ref (ad 2), .ref (ad 3), .ref (ad 4), .ref (ad 5), .int (0 : Int32), .ref (ad 6), .ref (ad 7), .ref (ad 8), .int (0 : Int32), .ref (ad 9), .ref (ad 10), .ref (ad 11), .ref (ad 12), .int (0 : Int32), .ref (ad 13), .ref (ad 14), .ref (ad 15), .ref (ad 16), .ref (ad 17), .ref (ad 18), .ref (ad 19), .ref (ad 20), .ref (ad 21), .ref (ad 22), .ref (ad 23), .ref (ad 24), .ref (ad 25), .ref (ad 26), .ref (ad 27), .ref (ad 28), .ref (ad 29), .ref (ad 30), .ref (ad 31), .ref (ad 32), .ref (ad 33), .ref (ad 34), .int (0 : Int32), .int (0 : Int32), .int (6 : Int32), .ref (G.2.2 (100 + 3)), .ref (ad 35), .ref (ad 36), .ref (ad 37), .int (0 : Int32), .ref (ad 38), .ref (ad 39), .ref (ad 40), .ref (ad 41), .ref (ad 42), .ref (ad 43), .ref (ad 44), .ref (ad 45), .ref (ad 46), .ref (ad 47), .ref (ad 48), .ref (ad 49), .ref (ad 50), .ref (ad 51), .ref (ad 52), .ref (ad 53), .ref (ad 54), .ref (ad 55), .ref (ad 56), .ref (ad 57), .ref (ad 58), .ref (ad 59), .int (0 : Int32), .ref (ad 60), .int (0 : Int32), .ref (ad 61), .ref (ad 62), .int (0 : Int32), .ref (ad 63), .ref (ad 64), .ref (ad 65), .ref (ad 66), .ref (ad 67), .ref (ad 68), .int (0 : Int32), .ref (ad 69), .ref (ad 70), .ref (ad 71), .ref (ad 72), .ref (ad 73), .int (0 : Int32), .int (0 : Int32), .int (0 : Int32), .ref (ad 74), .ref (ad 75), .ref (ad 76), .ref (ad 77), .ref (ad 78), .ref (ad 79)])) : Met l yX12_every (tw_ws yX12_every cX12_every 3 (some .boolean)) ({ frames := 6, cells := 0, slots := 0, locals := 133 }) (tw_Pre G 80 ad w sz [.ref (ad 0), .int (0 : Int32)]) (tw_Qi G 80 ad (fun r w1 => ((0 : Int32) = r ∧ True ∧ w = w1)) sz) 0 0 (tw_A 80 ad sz) := by
  refine tw_met (by decide) (Nat.le_of_ble_eq_true rfl) ?_
  intro p e s m args below meth c F hret hlk hin hargs hsz hH ls hl
  have hx := F.1.1
  have hb := F.1.2.1
  have hown := F.1.2.2.2.1
  have hts := F.1.2.2.2.2
  have hl : lv_has ls 3 [(0, .ref (ad 0)), (1, .int (0 : Int32))] := hl
  generalize hH0 : s.heap = H at hH ⊢
  refine lv_aload_n hx hb dX12_every_0 rfl (lv_at hl 0 rfl) ?_
  refine lv_iload_n hx hb dX12_every_1 rfl (lv_at hl 1 rfl) ?_
  refine tw_calli F hH (tw_runV (r := 0) (As := [.int (0 : Int32)]) (rest := []) F hH (c_X12_compared l G ad w H.size hw_0) (tw_gl kw_1491 rfl) km_X12_compared kv_X12_compared rfl rfl ⟨(Nat.le_of_ble_eq_true rfl), (Nat.le_of_ble_eq_true rfl)⟩ (by decide) hw_0 rfl rfl hl.1 rfl (Nat.le_of_ble_eq_true rfl) dX12_every_2 ⟨(Nat.le_of_ble_eq_true rfl), (Nat.le_of_ble_eq_true rfl)⟩) (fun r3 w1 H locs hp2 _ hH => ?_)
  obtain ⟨rfl, -, rfl⟩ := hp2
  refine lv_istore_n (lv' := [(2, .int (0 : Int32)), (0, .ref (ad 0)), (1, .int (0 : Int32))]) hx hb dX12_every_5 rfl hl (by decide) rfl (fun ls hl => ?_)
  refine lv_iload_n hx hb dX12_every_6 rfl (lv_at hl 0 rfl) ?_
  refine lv_if_eq (tgt := 52) hx hb dX12_every_7 (by decide) (fun _ => ?_) (fun c => absurd c (by decide))
  refine lv_iload_n hx hb dX12_every_52 rfl (lv_at hl 0 rfl) ?_
  exact tw_iret F hH hret hlk rfl (Nat.le_of_ble_eq_true rfl) (Nat.le_of_ble_eq_true rfl) dX12_every_53 (⟨rfl, trivial, rfl⟩)
set_option maxHeartbeats 4000000 in
set_option maxRecDepth 100000 in
theorem c_X12_some (l : Launch) (G : tw_G) (ad : Nat → Nat) (w : Nat → va_E) (sz : Nat) (hw_0 : w 0 = .inr (12, [.int (0 : Int32), .int (2 : Int32), .int (1 : Int32), .ref (ad 1), .ref (ad 2), .ref (ad 3), .ref (ad 4), .ref (ad 5), .int (0 : Int32), .ref (ad 6), .ref (ad 7), .ref (ad 8), .int (0 : Int32), .ref (ad 9), .ref (ad 10), .ref (ad 11), .ref (ad 12), .int (0 : Int32), .ref (ad 13), .ref (ad 14), .ref (ad 15), .ref (ad 16), .ref (ad 17), .ref (ad 18), .ref (ad 19), .ref (ad 20), .ref (ad 21), .ref (ad 22), .ref (ad 23), .ref (ad 24), .ref (ad 25), .ref (ad 26), .ref (ad 27), .ref (ad 28), .ref (ad 29), .ref (ad 30), .ref (ad 31), .ref (ad 32), .ref (ad 33), .ref (ad 34), .int (0 : Int32), .int (0 : Int32), .int (6 : Int32), .ref (G.2.2 (100 + 3)), .ref (ad 35), .ref (ad 36), .ref (ad 37), .int (0 : Int32), .ref (ad 38), .ref (ad 39), .ref (ad 40), .ref (ad 41), .ref (ad 42), .ref (ad 43), .ref (ad 44), .ref (ad 45), .ref (ad 46), .ref (ad 47), .ref (ad 48), .ref (ad 49), .ref (ad 50), .ref (ad 51), .ref (ad 52), .ref (ad 53), .ref (ad 54), .ref (ad 55), .ref (ad 56), .ref (ad 57), .ref (ad 58), .ref (ad 59), .int (0 : Int32), .ref (ad 60), .int (0 : Int32), .ref (ad 61), .ref (ad 62), .int (0 : Int32), .ref (ad 63), .ref (ad 64), .ref (ad 65), .ref (ad 66), .ref (ad 67), .ref (ad 68), .int (0 : Int32), .ref (ad 69), .ref (ad 70), .ref (ad 71), .ref (ad 72), .ref (ad 73), .int (0 : Int32), .int (0 : Int32), .int (0 : Int32), .ref (ad 74), .ref (ad 75), .ref (ad 76), .ref (ad 77), .ref (ad 78), .ref (ad 79)])) : Met l yX12_some (tw_ws yX12_some cX12_some 3 (some .boolean)) ({ frames := 7, cells := 0, slots := 0, locals := 155 }) (tw_Pre G 80 ad w sz [.ref (ad 0), .int (0 : Int32)]) (tw_Qi G 80 ad (fun r w1 => ((0 : Int32) = r ∧ True ∧ w = w1)) sz) 0 0 (tw_A 80 ad sz) := by
  refine tw_met (by decide) (Nat.le_of_ble_eq_true rfl) ?_
  intro p e s m args below meth c F hret hlk hin hargs hsz hH ls hl
  have hx := F.1.1
  have hb := F.1.2.1
  have hown := F.1.2.2.2.1
  have hts := F.1.2.2.2.2
  have hl : lv_has ls 3 [(0, .ref (ad 0)), (1, .int (0 : Int32))] := hl
  generalize hH0 : s.heap = H at hH ⊢
  refine lv_aload_n hx hb dX12_some_0 rfl (lv_at hl 0 rfl) ?_
  refine lv_iload_n hx hb dX12_some_1 rfl (lv_at hl 1 rfl) ?_
  refine tw_calli F hH (tw_runV (r := 0) (As := [.int (0 : Int32)]) (rest := []) F hH (c_X12_every l G ad w H.size hw_0) (tw_gl kw_1487 rfl) km_X12_every kv_X12_every rfl rfl ⟨(Nat.le_of_ble_eq_true rfl), (Nat.le_of_ble_eq_true rfl)⟩ (by decide) hw_0 rfl rfl hl.1 rfl (Nat.le_of_ble_eq_true rfl) dX12_some_2 ⟨(Nat.le_of_ble_eq_true rfl), (Nat.le_of_ble_eq_true rfl)⟩) (fun r3 w1 H locs hp2 _ hH => ?_)
  obtain ⟨rfl, -, rfl⟩ := hp2
  refine lv_istore_n (lv' := [(2, .int (0 : Int32)), (0, .ref (ad 0)), (1, .int (0 : Int32))]) hx hb dX12_some_5 rfl hl (by decide) rfl (fun ls hl => ?_)
  refine lv_iload_n hx hb dX12_some_6 rfl (lv_at hl 0 rfl) ?_
  refine lv_if_eq (tgt := 52) hx hb dX12_some_7 (by decide) (fun _ => ?_) (fun c => absurd c (by decide))
  refine lv_iload_n hx hb dX12_some_52 rfl (lv_at hl 0 rfl) ?_
  exact tw_iret F hH hret hlk rfl (Nat.le_of_ble_eq_true rfl) (Nat.le_of_ble_eq_true rfl) dX12_some_53 (⟨rfl, trivial, rfl⟩)
set_option maxHeartbeats 4000000 in
set_option maxRecDepth 100000 in
theorem c_X12_law (l : Launch) (G : tw_G) (ad : Nat → Nat) (w : Nat → va_E) (sz : Nat) (hw_0 : w 0 = .inr (12, [.int (0 : Int32), .int (2 : Int32), .int (1 : Int32), .ref (ad 1), .ref (ad 2), .ref (ad 3), .ref (ad 4), .ref (ad 5), .int (0 : Int32), .ref (ad 6), .ref (ad 7), .ref (ad 8), .int (0 : Int32), .ref (ad 9), .ref (ad 10), .ref (ad 11), .ref (ad 12), .int (0 : Int32), .ref (ad 13), .ref (ad 14), .ref (ad 15), .ref (ad 16), .ref (ad 17), .ref (ad 18), .ref (ad 19), .ref (ad 20), .ref (ad 21), .ref (ad 22), .ref (ad 23), .ref (ad 24), .ref (ad 25), .ref (ad 26), .ref (ad 27), .ref (ad 28), .ref (ad 29), .ref (ad 30), .ref (ad 31), .ref (ad 32), .ref (ad 33), .ref (ad 34), .int (0 : Int32), .int (0 : Int32), .int (6 : Int32), .ref (G.2.2 (100 + 3)), .ref (ad 35), .ref (ad 36), .ref (ad 37), .int (0 : Int32), .ref (ad 38), .ref (ad 39), .ref (ad 40), .ref (ad 41), .ref (ad 42), .ref (ad 43), .ref (ad 44), .ref (ad 45), .ref (ad 46), .ref (ad 47), .ref (ad 48), .ref (ad 49), .ref (ad 50), .ref (ad 51), .ref (ad 52), .ref (ad 53), .ref (ad 54), .ref (ad 55), .ref (ad 56), .ref (ad 57), .ref (ad 58), .ref (ad 59), .int (0 : Int32), .ref (ad 60), .int (0 : Int32), .ref (ad 61), .ref (ad 62), .int (0 : Int32), .ref (ad 63), .ref (ad 64), .ref (ad 65), .ref (ad 66), .ref (ad 67), .ref (ad 68), .int (0 : Int32), .ref (ad 69), .ref (ad 70), .ref (ad 71), .ref (ad 72), .ref (ad 73), .int (0 : Int32), .int (0 : Int32), .int (0 : Int32), .ref (ad 74), .ref (ad 75), .ref (ad 76), .ref (ad 77), .ref (ad 78), .ref (ad 79)])) : Met l yX12_law (tw_ws yX12_law cX12_law 4 (some .boolean)) ({ frames := 8, cells := 0, slots := 0, locals := 177 }) (tw_Pre G 80 ad w sz [.ref (ad 0), .int (0 : Int32)]) (tw_Qi G 80 ad (fun r w1 => ((0 : Int32) = r ∧ True ∧ w = w1)) sz) 0 0 (tw_A 80 ad sz) := by
  refine tw_met (by decide) (Nat.le_of_ble_eq_true rfl) ?_
  intro p e s m args below meth c F hret hlk hin hargs hsz hH ls hl
  have hx := F.1.1
  have hb := F.1.2.1
  have hown := F.1.2.2.2.1
  have hts := F.1.2.2.2.2
  have hl : lv_has ls 4 [(0, .ref (ad 0)), (1, .int (0 : Int32))] := hl
  generalize hH0 : s.heap = H at hH ⊢
  refine lv_aload_n hx hb dX12_law_0 rfl (lv_at hl 0 rfl) ?_
  refine lv_iload_n hx hb dX12_law_1 rfl (lv_at hl 1 rfl) ?_
  refine tw_calli F hH (tw_runV (r := 0) (As := [.int (0 : Int32)]) (rest := []) F hH (c_X12_some l G ad w H.size hw_0) (tw_gl kw_1483 rfl) km_X12_some kv_X12_some rfl rfl ⟨(Nat.le_of_ble_eq_true rfl), (Nat.le_of_ble_eq_true rfl)⟩ (by decide) hw_0 rfl rfl hl.1 rfl (Nat.le_of_ble_eq_true rfl) dX12_law_2 ⟨(Nat.le_of_ble_eq_true rfl), (Nat.le_of_ble_eq_true rfl)⟩) (fun r3 w1 H locs hp2 _ hH => ?_)
  obtain ⟨rfl, -, rfl⟩ := hp2
  refine lv_if_eq (tgt := 18) hx hb dX12_law_5 (by decide) (fun _ => ?_) (fun c => absurd c (by decide))
  refine lv_iconst (v := 0) hx hb dX12_law_18 (by decide) ?_
  exact tw_iret F hH hret hlk rfl (Nat.le_of_ble_eq_true rfl) (Nat.le_of_ble_eq_true rfl) dX12_law_19 (⟨rfl, trivial, rfl⟩)
set_option maxHeartbeats 4000000 in
set_option maxRecDepth 100000 in
theorem c_X12_reads (l : Launch) (G : tw_G) (ad : Nat → Nat) (w : Nat → va_E) (sz : Nat) (hw_0 : w 0 = .inr (12, [.int (0 : Int32), .int (2 : Int32), .int (1 : Int32), .ref (ad 1), .ref (ad 2), .ref (ad 3), .ref (ad 4), .ref (ad 5), .int (0 : Int32), .ref (ad 6), .ref (ad 7), .ref (ad 8), .int (0 : Int32), .ref (ad 9), .ref (ad 10), .ref (ad 11), .ref (ad 12), .int (0 : Int32), .ref (ad 13), .ref (ad 14), .ref (ad 15), .ref (ad 16), .ref (ad 17), .ref (ad 18), .ref (ad 19), .ref (ad 20), .ref (ad 21), .ref (ad 22), .ref (ad 23), .ref (ad 24), .ref (ad 25), .ref (ad 26), .ref (ad 27), .ref (ad 28), .ref (ad 29), .ref (ad 30), .ref (ad 31), .ref (ad 32), .ref (ad 33), .ref (ad 34), .int (0 : Int32), .int (0 : Int32), .int (0 : Int32), .ref (G.2.2 (100 + 10)), .ref (ad 35), .ref (ad 36), .ref (ad 37), .int (0 : Int32), .ref (ad 38), .ref (ad 39), .ref (ad 40), .ref (ad 41), .ref (ad 42), .ref (ad 43), .ref (ad 44), .ref (ad 45), .ref (ad 46), .ref (ad 47), .ref (ad 48), .ref (ad 49), .ref (ad 50), .ref (ad 51), .ref (ad 52), .ref (ad 53), .ref (ad 54), .ref (ad 55), .ref (ad 56), .ref (ad 57), .ref (ad 58), .ref (ad 59), .int (0 : Int32), .ref (ad 60), .int (0 : Int32), .ref (ad 61), .ref (ad 62), .int (0 : Int32), .ref (ad 63), .ref (ad 64), .ref (ad 65), .ref (ad 66), .ref (ad 67), .ref (ad 68), .int (0 : Int32), .ref (ad 69), .ref (ad 70), .ref (ad 71), .ref (ad 72), .ref (ad 73), .int (0 : Int32), .int (0 : Int32), .int (0 : Int32), .ref (ad 74), .ref (ad 75), .ref (ad 76), .ref (ad 77), .ref (ad 78), .ref (ad 79)])) (hw_36 : w 36 = .inl (G.2.1 0, 17, .inl (fun _ => 0))) : Met l yX12_reads (tw_ws yX12_reads cX12_reads 6 (some .int)) ({ frames := 9, cells := 0, slots := 0, locals := 200 }) (tw_Pre G 80 ad w sz [.ref (ad 0), .int (6 : Int32), .int (0 : Int32)]) (tw_Qi G 80 ad (fun r w1 => ((-1 : Int32) = r ∧ True ∧ w1 0 = .inr (12, [.int (0 : Int32), .int (2 : Int32), .int (1 : Int32), .ref (ad 1), .ref (ad 2), .ref (ad 3), .ref (ad 4), .ref (ad 5), .int (0 : Int32), .ref (ad 6), .ref (ad 7), .ref (ad 8), .int (0 : Int32), .ref (ad 9), .ref (ad 10), .ref (ad 11), .ref (ad 12), .int (0 : Int32), .ref (ad 13), .ref (ad 14), .ref (ad 15), .ref (ad 16), .ref (ad 17), .ref (ad 18), .ref (ad 19), .ref (ad 20), .ref (ad 21), .ref (ad 22), .ref (ad 23), .ref (ad 24), .ref (ad 25), .ref (ad 26), .ref (ad 27), .ref (ad 28), .ref (ad 29), .ref (ad 30), .ref (ad 31), .ref (ad 32), .ref (ad 33), .ref (ad 34), .int (0 : Int32), .int (0 : Int32), .int (6 : Int32), .ref (G.2.2 (100 + 3)), .ref (ad 35), .ref (ad 36), .ref (ad 37), .int (0 : Int32), .ref (ad 38), .ref (ad 39), .ref (ad 40), .ref (ad 41), .ref (ad 42), .ref (ad 43), .ref (ad 44), .ref (ad 45), .ref (ad 46), .ref (ad 47), .ref (ad 48), .ref (ad 49), .ref (ad 50), .ref (ad 51), .ref (ad 52), .ref (ad 53), .ref (ad 54), .ref (ad 55), .ref (ad 56), .ref (ad 57), .ref (ad 58), .ref (ad 59), .int (0 : Int32), .ref (ad 60), .int (0 : Int32), .ref (ad 61), .ref (ad 62), .int (0 : Int32), .ref (ad 63), .ref (ad 64), .ref (ad 65), .ref (ad 66), .ref (ad 67), .ref (ad 68), .int (0 : Int32), .ref (ad 69), .ref (ad 70), .ref (ad 71), .ref (ad 72), .ref (ad 73), .int (0 : Int32), .int (0 : Int32), .int (0 : Int32), .ref (ad 74), .ref (ad 75), .ref (ad 76), .ref (ad 77), .ref (ad 78), .ref (ad 79)]) ∧ w1 36 = .inl (G.2.1 0, 17, .inl (upd (fun _ => 0) 6 (0 : Int32))) ∧ ∀ k, k ≠ 0 → k ≠ 36 → w1 k = w k)) sz) 0 0 (tw_A 80 ad sz) := by
  refine tw_met (by decide) (Nat.le_of_ble_eq_true rfl) ?_
  intro p e s m args below meth c F hret hlk hin hargs hsz hH ls hl
  have hx := F.1.1
  have hb := F.1.2.1
  have hown := F.1.2.2.2.1
  have hts := F.1.2.2.2.2
  have hl : lv_has ls 6 [(0, .ref (ad 0)), (1, .int (6 : Int32)), (2, .int (0 : Int32))] := hl
  generalize hH0 : s.heap = H at hH ⊢
  refine lv_aload_n hx hb dX12_reads_0 rfl (lv_at hl 0 rfl) ?_
  refine tw_get (r := 0) F hH kf_RX12_188 rfl (by decide) hw_0 rfl dX12_reads_1 ?_
  refine lv_istore_n (lv' := [(3, .int (0 : Int32)), (0, .ref (ad 0)), (1, .int (6 : Int32)), (2, .int (0 : Int32))]) hx hb dX12_reads_4 rfl hl (by decide) rfl (fun ls hl => ?_)
  refine lv_aload_n hx hb dX12_reads_5 rfl (lv_at hl 1 rfl) ?_
  refine lv_iconst (v := 0) hx hb dX12_reads_6 (by decide) ?_
  refine tw_put (r := 0) F hH kf_RX12_188 kp_X12_40 rfl (by decide) hw_0 (Nat.le_of_ble_eq_true rfl) rfl rfl dX12_reads_7 (fun H locs w1 hw2 hne3 hH => ?_)
  have hw2 : w1 0 = .inr (12, [.int (0 : Int32), .int (2 : Int32), .int (1 : Int32), .ref (ad 1), .ref (ad 2), .ref (ad 3), .ref (ad 4), .ref (ad 5), .int (0 : Int32), .ref (ad 6), .ref (ad 7), .ref (ad 8), .int (0 : Int32), .ref (ad 9), .ref (ad 10), .ref (ad 11), .ref (ad 12), .int (0 : Int32), .ref (ad 13), .ref (ad 14), .ref (ad 15), .ref (ad 16), .ref (ad 17), .ref (ad 18), .ref (ad 19), .ref (ad 20), .ref (ad 21), .ref (ad 22), .ref (ad 23), .ref (ad 24), .ref (ad 25), .ref (ad 26), .ref (ad 27), .ref (ad 28), .ref (ad 29), .ref (ad 30), .ref (ad 31), .ref (ad 32), .ref (ad 33), .ref (ad 34), .int (0 : Int32), .int (0 : Int32), .int (0 : Int32), .ref (G.2.2 (100 + 10)), .ref (ad 35), .ref (ad 36), .ref (ad 37), .int (0 : Int32), .ref (ad 38), .ref (ad 39), .ref (ad 40), .ref (ad 41), .ref (ad 42), .ref (ad 43), .ref (ad 44), .ref (ad 45), .ref (ad 46), .ref (ad 47), .ref (ad 48), .ref (ad 49), .ref (ad 50), .ref (ad 51), .ref (ad 52), .ref (ad 53), .ref (ad 54), .ref (ad 55), .ref (ad 56), .ref (ad 57), .ref (ad 58), .ref (ad 59), .int (0 : Int32), .ref (ad 60), .int (0 : Int32), .ref (ad 61), .ref (ad 62), .int (0 : Int32), .ref (ad 63), .ref (ad 64), .ref (ad 65), .ref (ad 66), .ref (ad 67), .ref (ad 68), .int (0 : Int32), .ref (ad 69), .ref (ad 70), .ref (ad 71), .ref (ad 72), .ref (ad 73), .int (0 : Int32), .int (0 : Int32), .int (0 : Int32), .ref (ad 74), .ref (ad 75), .ref (ad 76), .ref (ad 77), .ref (ad 78), .ref (ad 79)]) := hw2
  refine lv_iload_n hx hb dX12_reads_10 rfl (lv_at hl 0 rfl) ?_
  refine lv_bipush (v := 60) hx hb dX12_reads_11 (by decide) ?_
  refine va_mmin hx hb (F.1.2.2.1.trans hl.1.symm) hown (hts _ (tw_gl kw_1464 rfl)) (hts _ (tw_gl kw_717 rfl)) (hts _ (tw_gl kw_5 rfl)) (hts _ (tw_gl kw_718 rfl)) (Nat.le_of_ble_eq_true rfl) (Nat.le_of_ble_eq_true rfl) (Nat.le_of_ble_eq_true rfl) (Nat.le_of_ble_eq_true rfl) dX12_reads_13 ?_
  refine tw_cv (v := (0 : Int32)) (by decide) ?_
  refine lv_istore (lv' := [(4, .int (0 : Int32)), (3, .int (0 : Int32)), (0, .ref (ad 0)), (1, .int (6 : Int32)), (2, .int (0 : Int32))]) hx hb dX12_reads_16 hl (by decide) rfl (fun ls hl => ?_)
  refine lv_aload_n hx hb dX12_reads_18 rfl (lv_at hl 2 rfl) ?_
  refine lv_iconst (v := 0) hx hb dX12_reads_19 (by decide) ?_
  refine tw_put (r := 0) F hH kf_RX12_194 kp_X12_41 rfl (by decide) hw2 (Nat.le_of_ble_eq_true rfl) rfl rfl dX12_reads_20 (fun H locs w4 hw5 hne6 hH => ?_)
  have hw5 : w4 0 = .inr (12, [.int (0 : Int32), .int (2 : Int32), .int (1 : Int32), .ref (ad 1), .ref (ad 2), .ref (ad 3), .ref (ad 4), .ref (ad 5), .int (0 : Int32), .ref (ad 6), .ref (ad 7), .ref (ad 8), .int (0 : Int32), .ref (ad 9), .ref (ad 10), .ref (ad 11), .ref (ad 12), .int (0 : Int32), .ref (ad 13), .ref (ad 14), .ref (ad 15), .ref (ad 16), .ref (ad 17), .ref (ad 18), .ref (ad 19), .ref (ad 20), .ref (ad 21), .ref (ad 22), .ref (ad 23), .ref (ad 24), .ref (ad 25), .ref (ad 26), .ref (ad 27), .ref (ad 28), .ref (ad 29), .ref (ad 30), .ref (ad 31), .ref (ad 32), .ref (ad 33), .ref (ad 34), .int (0 : Int32), .int (0 : Int32), .int (0 : Int32), .ref (G.2.2 (100 + 10)), .ref (ad 35), .ref (ad 36), .ref (ad 37), .int (0 : Int32), .ref (ad 38), .ref (ad 39), .ref (ad 40), .ref (ad 41), .ref (ad 42), .ref (ad 43), .ref (ad 44), .ref (ad 45), .ref (ad 46), .ref (ad 47), .ref (ad 48), .ref (ad 49), .ref (ad 50), .ref (ad 51), .ref (ad 52), .ref (ad 53), .ref (ad 54), .ref (ad 55), .ref (ad 56), .ref (ad 57), .ref (ad 58), .ref (ad 59), .int (0 : Int32), .ref (ad 60), .int (0 : Int32), .ref (ad 61), .ref (ad 62), .int (0 : Int32), .ref (ad 63), .ref (ad 64), .ref (ad 65), .ref (ad 66), .ref (ad 67), .ref (ad 68), .int (0 : Int32), .ref (ad 69), .ref (ad 70), .ref (ad 71), .ref (ad 72), .ref (ad 73), .int (0 : Int32), .int (0 : Int32), .int (0 : Int32), .ref (ad 74), .ref (ad 75), .ref (ad 76), .ref (ad 77), .ref (ad 78), .ref (ad 79)]) := hw5
  refine lv_aload_n hx hb dX12_reads_23 rfl (lv_at hl 2 rfl) ?_
  refine lv_iload_n hx hb dX12_reads_24 rfl (lv_at hl 3 rfl) ?_
  refine tw_put (r := 0) F hH kf_RX12_205 kp_X12_42 rfl (by decide) hw5 (Nat.le_of_ble_eq_true rfl) rfl rfl dX12_reads_25 (fun H locs w7 hw8 hne9 hH => ?_)
  have hw8 : w7 0 = .inr (12, [.int (0 : Int32), .int (2 : Int32), .int (1 : Int32), .ref (ad 1), .ref (ad 2), .ref (ad 3), .ref (ad 4), .ref (ad 5), .int (0 : Int32), .ref (ad 6), .ref (ad 7), .ref (ad 8), .int (0 : Int32), .ref (ad 9), .ref (ad 10), .ref (ad 11), .ref (ad 12), .int (0 : Int32), .ref (ad 13), .ref (ad 14), .ref (ad 15), .ref (ad 16), .ref (ad 17), .ref (ad 18), .ref (ad 19), .ref (ad 20), .ref (ad 21), .ref (ad 22), .ref (ad 23), .ref (ad 24), .ref (ad 25), .ref (ad 26), .ref (ad 27), .ref (ad 28), .ref (ad 29), .ref (ad 30), .ref (ad 31), .ref (ad 32), .ref (ad 33), .ref (ad 34), .int (0 : Int32), .int (0 : Int32), .int (6 : Int32), .ref (G.2.2 (100 + 10)), .ref (ad 35), .ref (ad 36), .ref (ad 37), .int (0 : Int32), .ref (ad 38), .ref (ad 39), .ref (ad 40), .ref (ad 41), .ref (ad 42), .ref (ad 43), .ref (ad 44), .ref (ad 45), .ref (ad 46), .ref (ad 47), .ref (ad 48), .ref (ad 49), .ref (ad 50), .ref (ad 51), .ref (ad 52), .ref (ad 53), .ref (ad 54), .ref (ad 55), .ref (ad 56), .ref (ad 57), .ref (ad 58), .ref (ad 59), .int (0 : Int32), .ref (ad 60), .int (0 : Int32), .ref (ad 61), .ref (ad 62), .int (0 : Int32), .ref (ad 63), .ref (ad 64), .ref (ad 65), .ref (ad 66), .ref (ad 67), .ref (ad 68), .int (0 : Int32), .ref (ad 69), .ref (ad 70), .ref (ad 71), .ref (ad 72), .ref (ad 73), .int (0 : Int32), .int (0 : Int32), .int (0 : Int32), .ref (ad 74), .ref (ad 75), .ref (ad 76), .ref (ad 77), .ref (ad 78), .ref (ad 79)]) := hw8
  refine lv_aload_n hx hb dX12_reads_28 rfl (lv_at hl 2 rfl) ?_
  refine tw_get (r := 0) F hH kf_RX12_208 rfl (by decide) hw8 rfl dX12_reads_29 ?_
  refine lv_iload_n hx hb dX12_reads_32 rfl (lv_at hl 3 rfl) ?_
  refine lv_iconst (v := 0) hx hb dX12_reads_33 (by decide) ?_
  have hw10 : w7 36 = .inl (G.2.1 0, 17, .inl (fun _ => 0)) := (hne9 36 (by decide)).trans ((hne6 36 (by decide)).trans ((hne3 36 (by decide)).trans (hw_36)))
  refine tw_iast (r := 36) (j := 6) F hH rfl (by decide) hw10 (by decide) (by decide) dX12_reads_34 (fun H locs w11 hw12 hne13 hH => ?_)
  refine lv_aload_n hx hb dX12_reads_35 rfl (lv_at hl 2 rfl) ?_
  refine lv_iload_n hx hb dX12_reads_36 rfl (lv_at hl 4 rfl) ?_
  refine lv_if_eq (tgt := 46) hx hb dX12_reads_37 (by decide) (fun _ => ?_) (fun c => absurd c (by decide))
  refine tw_ldcwS F 3 (by decide) rfl rfl dX12_reads_46 ?_
  have hw15 : w11 0 = .inr (12, [.int (0 : Int32), .int (2 : Int32), .int (1 : Int32), .ref (ad 1), .ref (ad 2), .ref (ad 3), .ref (ad 4), .ref (ad 5), .int (0 : Int32), .ref (ad 6), .ref (ad 7), .ref (ad 8), .int (0 : Int32), .ref (ad 9), .ref (ad 10), .ref (ad 11), .ref (ad 12), .int (0 : Int32), .ref (ad 13), .ref (ad 14), .ref (ad 15), .ref (ad 16), .ref (ad 17), .ref (ad 18), .ref (ad 19), .ref (ad 20), .ref (ad 21), .ref (ad 22), .ref (ad 23), .ref (ad 24), .ref (ad 25), .ref (ad 26), .ref (ad 27), .ref (ad 28), .ref (ad 29), .ref (ad 30), .ref (ad 31), .ref (ad 32), .ref (ad 33), .ref (ad 34), .int (0 : Int32), .int (0 : Int32), .int (6 : Int32), .ref (G.2.2 (100 + 10)), .ref (ad 35), .ref (ad 36), .ref (ad 37), .int (0 : Int32), .ref (ad 38), .ref (ad 39), .ref (ad 40), .ref (ad 41), .ref (ad 42), .ref (ad 43), .ref (ad 44), .ref (ad 45), .ref (ad 46), .ref (ad 47), .ref (ad 48), .ref (ad 49), .ref (ad 50), .ref (ad 51), .ref (ad 52), .ref (ad 53), .ref (ad 54), .ref (ad 55), .ref (ad 56), .ref (ad 57), .ref (ad 58), .ref (ad 59), .int (0 : Int32), .ref (ad 60), .int (0 : Int32), .ref (ad 61), .ref (ad 62), .int (0 : Int32), .ref (ad 63), .ref (ad 64), .ref (ad 65), .ref (ad 66), .ref (ad 67), .ref (ad 68), .int (0 : Int32), .ref (ad 69), .ref (ad 70), .ref (ad 71), .ref (ad 72), .ref (ad 73), .int (0 : Int32), .int (0 : Int32), .int (0 : Int32), .ref (ad 74), .ref (ad 75), .ref (ad 76), .ref (ad 77), .ref (ad 78), .ref (ad 79)]) := (hne13 0 (by decide)).trans (hw8)
  refine tw_put (r := 0) F hH kf_RX12_221 kp_X12_43 rfl (by decide) hw15 (Nat.le_of_ble_eq_true rfl) rfl rfl dX12_reads_49 (fun H locs w16 hw17 hne18 hH => ?_)
  have hw17 : w16 0 = .inr (12, [.int (0 : Int32), .int (2 : Int32), .int (1 : Int32), .ref (ad 1), .ref (ad 2), .ref (ad 3), .ref (ad 4), .ref (ad 5), .int (0 : Int32), .ref (ad 6), .ref (ad 7), .ref (ad 8), .int (0 : Int32), .ref (ad 9), .ref (ad 10), .ref (ad 11), .ref (ad 12), .int (0 : Int32), .ref (ad 13), .ref (ad 14), .ref (ad 15), .ref (ad 16), .ref (ad 17), .ref (ad 18), .ref (ad 19), .ref (ad 20), .ref (ad 21), .ref (ad 22), .ref (ad 23), .ref (ad 24), .ref (ad 25), .ref (ad 26), .ref (ad 27), .ref (ad 28), .ref (ad 29), .ref (ad 30), .ref (ad 31), .ref (ad 32), .ref (ad 33), .ref (ad 34), .int (0 : Int32), .int (0 : Int32), .int (6 : Int32), .ref (G.2.2 (100 + 3)), .ref (ad 35), .ref (ad 36), .ref (ad 37), .int (0 : Int32), .ref (ad 38), .ref (ad 39), .ref (ad 40), .ref (ad 41), .ref (ad 42), .ref (ad 43), .ref (ad 44), .ref (ad 45), .ref (ad 46), .ref (ad 47), .ref (ad 48), .ref (ad 49), .ref (ad 50), .ref (ad 51), .ref (ad 52), .ref (ad 53), .ref (ad 54), .ref (ad 55), .ref (ad 56), .ref (ad 57), .ref (ad 58), .ref (ad 59), .int (0 : Int32), .ref (ad 60), .int (0 : Int32), .ref (ad 61), .ref (ad 62), .int (0 : Int32), .ref (ad 63), .ref (ad 64), .ref (ad 65), .ref (ad 66), .ref (ad 67), .ref (ad 68), .int (0 : Int32), .ref (ad 69), .ref (ad 70), .ref (ad 71), .ref (ad 72), .ref (ad 73), .int (0 : Int32), .int (0 : Int32), .int (0 : Int32), .ref (ad 74), .ref (ad 75), .ref (ad 76), .ref (ad 77), .ref (ad 78), .ref (ad 79)]) := hw17
  refine lv_iload_n hx hb dX12_reads_52 rfl (lv_at hl 4 rfl) ?_
  refine lv_if_eq (tgt := 65) hx hb dX12_reads_53 (by decide) (fun _ => ?_) (fun c => absurd c (by decide))
  refine lv_aload_n hx hb dX12_reads_65 rfl (lv_at hl 2 rfl) ?_
  refine lv_iload hx hb dX12_reads_66 (lv_at hl 0 rfl) ?_
  refine tw_calli F hH (tw_runV (r := 0) (As := [.int (0 : Int32)]) (rest := []) F hH (c_X12_law l G ad w16 H.size hw17) (tw_gl kw_1529 rfl) km_X12_law kv_X12_law rfl rfl ⟨(Nat.le_of_ble_eq_true rfl), (Nat.le_of_ble_eq_true rfl)⟩ (by decide) hw17 rfl rfl hl.1 rfl (Nat.le_of_ble_eq_true rfl) dX12_reads_68 ⟨(Nat.le_of_ble_eq_true rfl), (Nat.le_of_ble_eq_true rfl)⟩) (fun r22 w20 H locs hp21 _ hH => ?_)
  obtain ⟨rfl, -, rfl⟩ := hp21
  refine lv_istore (lv' := [(5, .int (0 : Int32)), (4, .int (0 : Int32)), (3, .int (0 : Int32)), (0, .ref (ad 0)), (1, .int (6 : Int32)), (2, .int (0 : Int32))]) hx hb dX12_reads_71 hl (by decide) rfl (fun ls hl => ?_)
  refine lv_iload_n hx hb dX12_reads_73 rfl (lv_at hl 2 rfl) ?_
  refine lv_bipush (v := 60) hx hb dX12_reads_74 (by decide) ?_
  refine lv_icmp_le (tgt := 96) hx hb dX12_reads_76 (by decide) (fun _ => ?_) (fun c => absurd c (by decide))
  refine lv_iload hx hb dX12_reads_96 (lv_at hl 0 rfl) ?_
  refine lv_if_eq (tgt := 105) hx hb dX12_reads_98 (by decide) (fun _ => ?_) (fun c => absurd c (by decide))
  refine lv_iconst (v := -1) hx hb dX12_reads_105 (by decide) ?_
  refine lv_aload_n hx hb dX12_reads_106 rfl (lv_at hl 3 rfl) ?_
  refine tw_get (r := 0) F hH kf_RX12_194 rfl (by decide) hw17 rfl dX12_reads_107 ?_
  refine lv_isub hx hb dX12_reads_110 ?_
  refine tw_cv (v := (-1 : Int32)) (by decide) ?_
  have hw26 : w16 36 = .inl (G.2.1 0, 17, .inl (upd (fun _ => 0) 6 (0 : Int32))) := (hne18 36 (by decide)).trans (hw12)
  exact tw_iret F hH hret hlk rfl (Nat.le_of_ble_eq_true rfl) (Nat.le_of_ble_eq_true rfl) dX12_reads_111 (⟨rfl, trivial, hw17, hw26, fun k h0 h1 => ((hne18 k (by omega)).trans ((hne13 k (by omega)).trans ((hne9 k (by omega)).trans ((hne6 k (by omega)).trans (hne3 k (by omega))))))⟩)
set_option maxHeartbeats 4000000 in
set_option maxRecDepth 100000 in
theorem c_X12_rule (l : Launch) (G : tw_G) (ad : Nat → Nat) (w : Nat → va_E) (sz : Nat) (x1 : Int32) (z1 : Int) (e1 : x1.toInt = z1) (hw_0 : w 0 = .inr (12, [.int (0 : Int32), .int (2 : Int32), .int (1 : Int32), .ref (ad 1), .ref (ad 2), .ref (ad 3), .ref (ad 4), .ref (ad 5), .int (0 : Int32), .ref (ad 6), .ref (ad 7), .ref (ad 8), .int (0 : Int32), .ref (ad 9), .ref (ad 10), .ref (ad 11), .ref (ad 12), .int (0 : Int32), .ref (ad 13), .ref (ad 14), .ref (ad 15), .ref (ad 16), .ref (ad 17), .ref (ad 18), .ref (ad 19), .ref (ad 20), .ref (ad 21), .ref (ad 22), .ref (ad 23), .ref (ad 24), .ref (ad 25), .ref (ad 26), .ref (ad 27), .ref (ad 28), .ref (ad 29), .ref (ad 30), .ref (ad 31), .ref (ad 32), .ref (ad 33), .ref (ad 34), .int (0 : Int32), .int (0 : Int32), .int (0 : Int32), .ref (G.2.2 (100 + 10)), .ref (ad 35), .ref (ad 36), .ref (ad 37), .int (0 : Int32), .ref (ad 38), .ref (ad 39), .ref (ad 40), .ref (ad 41), .ref (ad 42), .ref (ad 43), .ref (ad 44), .ref (ad 45), .ref (ad 46), .ref (ad 47), .ref (ad 48), .ref (ad 49), .ref (ad 50), .ref (ad 51), .ref (ad 52), .ref (ad 53), .ref (ad 54), .ref (ad 55), .ref (ad 56), .ref (ad 57), .ref (ad 58), .ref (ad 59), .int (0 : Int32), .ref (ad 60), .int (0 : Int32), .ref (ad 61), .ref (ad 62), .int (0 : Int32), .ref (ad 63), .ref (ad 64), .ref (ad 65), .ref (ad 66), .ref (ad 67), .ref (ad 68), .int (0 : Int32), .ref (ad 69), .ref (ad 70), .ref (ad 71), .ref (ad 72), .ref (ad 73), .int (0 : Int32), .int (0 : Int32), .int (0 : Int32), .ref (ad 74), .ref (ad 75), .ref (ad 76), .ref (ad 77), .ref (ad 78), .ref (ad 79)])) (hw_36 : w 36 = .inl (G.2.1 0, 17, .inl (fun _ => 0))) : Met l yX12_rule (tw_ws yX12_rule cX12_rule 3 (some .int)) ({ frames := 10, cells := 0, slots := 0, locals := 225 }) (tw_Pre G 80 ad w sz [.ref (ad 0), .int x1]) (tw_Qi G 80 ad (fun r w1 => ((-100 : Int32) = r ∧ ((((z1 < 0)) ∨ ((¬ (z1 < 0)) ∧ (99 < z1))))) ∨ ((-1 : Int32) = r ∧ (((¬ (z1 < 0)) ∧ (¬ (99 < z1)))))) sz) 0 0 (tw_A 80 ad sz) := by
  refine tw_met (by decide) (Nat.le_of_ble_eq_true rfl) ?_
  intro p e s m args below meth c F hret hlk hin hargs hsz hH ls hl
  have hx := F.1.1
  have hb := F.1.2.1
  have hown := F.1.2.2.2.1
  have hts := F.1.2.2.2.2
  have hl : lv_has ls 3 [(0, .ref (ad 0)), (1, .int x1)] := hl
  generalize hH0 : s.heap = H at hH ⊢
  refine lv_aload_n hx hb dX12_rule_0 rfl (lv_at hl 0 rfl) ?_
  refine lv_iconst (v := 0) hx hb dX12_rule_1 (by decide) ?_
  refine tw_put (r := 0) F hH kf_RX12_3 kp_X12_0 rfl (by decide) hw_0 (Nat.le_of_ble_eq_true rfl) rfl rfl dX12_rule_2 (fun H locs w1 hw2 hne3 hH => ?_)
  have hw2 : w1 0 = .inr (12, [.int (0 : Int32), .int (2 : Int32), .int (1 : Int32), .ref (ad 1), .ref (ad 2), .ref (ad 3), .ref (ad 4), .ref (ad 5), .int (0 : Int32), .ref (ad 6), .ref (ad 7), .ref (ad 8), .int (0 : Int32), .ref (ad 9), .ref (ad 10), .ref (ad 11), .ref (ad 12), .int (0 : Int32), .ref (ad 13), .ref (ad 14), .ref (ad 15), .ref (ad 16), .ref (ad 17), .ref (ad 18), .ref (ad 19), .ref (ad 20), .ref (ad 21), .ref (ad 22), .ref (ad 23), .ref (ad 24), .ref (ad 25), .ref (ad 26), .ref (ad 27), .ref (ad 28), .ref (ad 29), .ref (ad 30), .ref (ad 31), .ref (ad 32), .ref (ad 33), .ref (ad 34), .int (0 : Int32), .int (0 : Int32), .int (0 : Int32), .ref (G.2.2 (100 + 10)), .ref (ad 35), .ref (ad 36), .ref (ad 37), .int (0 : Int32), .ref (ad 38), .ref (ad 39), .ref (ad 40), .ref (ad 41), .ref (ad 42), .ref (ad 43), .ref (ad 44), .ref (ad 45), .ref (ad 46), .ref (ad 47), .ref (ad 48), .ref (ad 49), .ref (ad 50), .ref (ad 51), .ref (ad 52), .ref (ad 53), .ref (ad 54), .ref (ad 55), .ref (ad 56), .ref (ad 57), .ref (ad 58), .ref (ad 59), .int (0 : Int32), .ref (ad 60), .int (0 : Int32), .ref (ad 61), .ref (ad 62), .int (0 : Int32), .ref (ad 63), .ref (ad 64), .ref (ad 65), .ref (ad 66), .ref (ad 67), .ref (ad 68), .int (0 : Int32), .ref (ad 69), .ref (ad 70), .ref (ad 71), .ref (ad 72), .ref (ad 73), .int (0 : Int32), .int (0 : Int32), .int (0 : Int32), .ref (ad 74), .ref (ad 75), .ref (ad 76), .ref (ad 77), .ref (ad 78), .ref (ad 79)]) := hw2
  refine lv_iload_n hx hb dX12_rule_5 rfl (lv_at hl 1 rfl) ?_
  refine tw_calli F hH (tw_runS (As := [.int x1]) (rest := []) F hH (c_X12_isDay l G 80 ad w1 H.size x1 (z1) e1) (tw_gl kw_1651 rfl) km_X12_isDay (tw_gl kw_1652 rfl) rfl rfl ⟨(Nat.le_of_ble_eq_true rfl), (Nat.le_of_ble_eq_true rfl)⟩ rfl hl.1 rfl (Nat.le_of_ble_eq_true rfl) dX12_rule_6 ⟨(Nat.le_of_ble_eq_true rfl), (Nat.le_of_ble_eq_true rfl)⟩) (fun r6 w4 H locs hp5 _ hH => ?_)
  rcases hp5 with ⟨rfl, hc7, rfl⟩ | ⟨rfl, hc8, rfl⟩
  · skip
    refine lv_if_eq (tgt := 21) hx hb dX12_rule_9 (by decide) (fun _ => ?_) (fun c => absurd c (by decide))
    refine lv_aload_n hx hb dX12_rule_21 rfl (lv_at hl 0 rfl) ?_
    refine lv_iconst (v := 0) hx hb dX12_rule_22 (by decide) ?_
    refine tw_put (r := 0) F hH kf_RX12_188 kp_X12_40 rfl (by decide) hw2 (Nat.le_of_ble_eq_true rfl) rfl rfl dX12_rule_23 (fun H locs w10 hw11 hne12 hH => ?_)
    have hw11 : w10 0 = .inr (12, [.int (0 : Int32), .int (2 : Int32), .int (1 : Int32), .ref (ad 1), .ref (ad 2), .ref (ad 3), .ref (ad 4), .ref (ad 5), .int (0 : Int32), .ref (ad 6), .ref (ad 7), .ref (ad 8), .int (0 : Int32), .ref (ad 9), .ref (ad 10), .ref (ad 11), .ref (ad 12), .int (0 : Int32), .ref (ad 13), .ref (ad 14), .ref (ad 15), .ref (ad 16), .ref (ad 17), .ref (ad 18), .ref (ad 19), .ref (ad 20), .ref (ad 21), .ref (ad 22), .ref (ad 23), .ref (ad 24), .ref (ad 25), .ref (ad 26), .ref (ad 27), .ref (ad 28), .ref (ad 29), .ref (ad 30), .ref (ad 31), .ref (ad 32), .ref (ad 33), .ref (ad 34), .int (0 : Int32), .int (0 : Int32), .int (0 : Int32), .ref (G.2.2 (100 + 10)), .ref (ad 35), .ref (ad 36), .ref (ad 37), .int (0 : Int32), .ref (ad 38), .ref (ad 39), .ref (ad 40), .ref (ad 41), .ref (ad 42), .ref (ad 43), .ref (ad 44), .ref (ad 45), .ref (ad 46), .ref (ad 47), .ref (ad 48), .ref (ad 49), .ref (ad 50), .ref (ad 51), .ref (ad 52), .ref (ad 53), .ref (ad 54), .ref (ad 55), .ref (ad 56), .ref (ad 57), .ref (ad 58), .ref (ad 59), .int (0 : Int32), .ref (ad 60), .int (0 : Int32), .ref (ad 61), .ref (ad 62), .int (0 : Int32), .ref (ad 63), .ref (ad 64), .ref (ad 65), .ref (ad 66), .ref (ad 67), .ref (ad 68), .int (0 : Int32), .ref (ad 69), .ref (ad 70), .ref (ad 71), .ref (ad 72), .ref (ad 73), .int (0 : Int32), .int (0 : Int32), .int (0 : Int32), .ref (ad 74), .ref (ad 75), .ref (ad 76), .ref (ad 77), .ref (ad 78), .ref (ad 79)]) := hw11
    refine lv_bipush (v := -100) hx hb dX12_rule_26 (by decide) ?_
    exact tw_iret F hH hret hlk rfl (Nat.le_of_ble_eq_true rfl) (Nat.le_of_ble_eq_true rfl) dX12_rule_28 (Or.inl (⟨rfl, (by omega)⟩))
  · skip
    refine lv_if_eq (tgt := 21) hx hb dX12_rule_9 (by decide) (fun c => absurd c (by decide)) (fun _ => ?_)
    refine lv_aload_n hx hb dX12_rule_12 rfl (lv_at hl 0 rfl) ?_
    refine tw_get (r := 0) F hH kf_RX12_33 rfl (by decide) hw2 rfl dX12_rule_13 ?_
    refine lv_bipush (v := 10) hx hb dX12_rule_16 (by decide) ?_
    refine lv_icmp_ne (tgt := 29) hx hb dX12_rule_18 (by decide) (fun _ => ?_) (fun c => absurd c (by decide))
    refine lv_aload_n hx hb dX12_rule_29 rfl (lv_at hl 0 rfl) ?_
    refine lv_bipush (v := 6) hx hb dX12_rule_30 (by decide) ?_
    refine lv_aload_n hx hb dX12_rule_32 rfl (lv_at hl 0 rfl) ?_
    refine tw_get (r := 0) F hH kf_RX12_33 rfl (by decide) hw2 rfl dX12_rule_33 ?_
    refine lv_iadd hx hb dX12_rule_36 ?_
    refine tw_cv (v := (6 : Int32)) (by decide) ?_
    refine lv_iconst (v := 0) hx hb dX12_rule_37 (by decide) ?_
    have hw15 : w1 36 = .inl (G.2.1 0, 17, .inl (fun _ => 0)) := (hne3 36 (by decide)).trans (hw_36)
    refine tw_calli F hH (tw_runV (r := 0) (As := [.int (6 : Int32), .int (0 : Int32)]) (rest := []) F hH (c_X12_reads l G ad w1 H.size hw2 hw15) (tw_gl kw_1460 rfl) km_X12_reads kv_X12_reads rfl rfl ⟨(Nat.le_of_ble_eq_true rfl), (Nat.le_of_ble_eq_true rfl)⟩ (by decide) hw2 rfl rfl hl.1 rfl (Nat.le_of_ble_eq_true rfl) dX12_rule_38 ⟨(Nat.le_of_ble_eq_true rfl), (Nat.le_of_ble_eq_true rfl)⟩) (fun r18 w16 H locs hp17 _ hH => ?_)
    obtain ⟨rfl, -, hw20, hw21, hfr22⟩ := hp17
    refine lv_istore_n (lv' := [(2, .int (-1 : Int32)), (0, .ref (ad 0)), (1, .int x1)]) hx hb dX12_rule_41 rfl hl (by decide) rfl (fun ls hl => ?_)
    refine lv_iload_n hx hb dX12_rule_42 rfl (lv_at hl 0 rfl) ?_
    refine lv_if_ge (tgt := 48) hx hb dX12_rule_43 (by decide) (fun c => absurd c (by decide)) (fun _ => ?_)
    refine lv_iload_n hx hb dX12_rule_46 rfl (lv_at hl 0 rfl) ?_
    exact tw_iret F hH hret hlk rfl (Nat.le_of_ble_eq_true rfl) (Nat.le_of_ble_eq_true rfl) dX12_rule_47 (Or.inr (⟨rfl, (by omega)⟩))
set_option maxHeartbeats 4000000 in
set_option maxRecDepth 100000 in
theorem c_X12_finding (l : Launch) (G : tw_G) (ad : Nat → Nat) (w : Nat → va_E) (sz : Nat) (x1 : Int32) (z1 : Int) (e1 : x1.toInt = z1) (x2 : Int32) (z2 : Int) (e2 : x2.toInt = z2) (x3 : Int32) (z3 : Int) (e3 : x3.toInt = z3) (x4 : Int32) (z4 : Int) (e4 : x4.toInt = z4) (hw_0 : w 0 = .inr (12, [.int (0 : Int32), .int (2 : Int32), .int (1 : Int32), .ref (ad 1), .ref (ad 2), .ref (ad 3), .ref (ad 4), .ref (ad 5), .int (0 : Int32), .ref (ad 6), .ref (ad 7), .ref (ad 8), .int (0 : Int32), .ref (ad 9), .ref (ad 10), .ref (ad 11), .ref (ad 12), .int (0 : Int32), .ref (ad 13), .ref (ad 14), .ref (ad 15), .ref (ad 16), .ref (ad 17), .ref (ad 18), .ref (ad 19), .ref (ad 20), .ref (ad 21), .ref (ad 22), .ref (ad 23), .ref (ad 24), .ref (ad 25), .ref (ad 26), .ref (ad 27), .ref (ad 28), .ref (ad 29), .ref (ad 30), .ref (ad 31), .ref (ad 32), .ref (ad 33), .ref (ad 34), .int (0 : Int32), .int (0 : Int32), .int (0 : Int32), .ref (G.2.2 (100 + 10)), .ref (ad 35), .ref (ad 36), .ref (ad 37), .int (0 : Int32), .ref (ad 38), .ref (ad 39), .ref (ad 40), .ref (ad 41), .ref (ad 42), .ref (ad 43), .ref (ad 44), .ref (ad 45), .ref (ad 46), .ref (ad 47), .ref (ad 48), .ref (ad 49), .ref (ad 50), .ref (ad 51), .ref (ad 52), .ref (ad 53), .ref (ad 54), .ref (ad 55), .ref (ad 56), .ref (ad 57), .ref (ad 58), .ref (ad 59), .int (0 : Int32), .ref (ad 60), .int (0 : Int32), .ref (ad 61), .ref (ad 62), .int (0 : Int32), .ref (ad 63), .ref (ad 64), .ref (ad 65), .ref (ad 66), .ref (ad 67), .ref (ad 68), .int (0 : Int32), .ref (ad 69), .ref (ad 70), .ref (ad 71), .ref (ad 72), .ref (ad 73), .int (0 : Int32), .int (0 : Int32), .int (0 : Int32), .ref (ad 74), .ref (ad 75), .ref (ad 76), .ref (ad 77), .ref (ad 78), .ref (ad 79)])) : Met l yX12_finding (tw_ws yX12_finding cX12_finding 6 (some .int)) ({ frames := 2, cells := 0, slots := 0, locals := 46 }) (tw_Pre G 80 ad w sz [.ref (ad 0), .int x1, .int x2, .int x3, .int x4]) (tw_Qi G 80 ad (fun r w1 => ((-1 : Int32) = r ∧ ((((((z1 < 0)) ∨ ((¬ (z1 < 0)) ∧ (99 < z1))))) ∨ ((((¬ (z1 < 0)) ∧ (¬ (99 < z1)))) ∧ ((((z2 < 0)) ∨ ((¬ (z2 < 0)) ∧ ((-1) < z2)))))))) sz) 0 0 (tw_A 80 ad sz) := by
  refine tw_met (by decide) (Nat.le_of_ble_eq_true rfl) ?_
  intro p e s m args below meth c F hret hlk hin hargs hsz hH ls hl
  have hx := F.1.1
  have hb := F.1.2.1
  have hown := F.1.2.2.2.1
  have hts := F.1.2.2.2.2
  have hl : lv_has ls 6 [(0, .ref (ad 0)), (1, .int x1), (2, .int x2), (3, .int x3), (4, .int x4)] := hl
  generalize hH0 : s.heap = H at hH ⊢
  refine lv_aload_n hx hb dX12_finding_0 rfl (lv_at hl 0 rfl) ?_
  refine lv_iconst (v := 0) hx hb dX12_finding_1 (by decide) ?_
  refine tw_put (r := 0) F hH kf_RX12_3 kp_X12_0 rfl (by decide) hw_0 (Nat.le_of_ble_eq_true rfl) rfl rfl dX12_finding_2 (fun H locs w1 hw2 hne3 hH => ?_)
  have hw2 : w1 0 = .inr (12, [.int (0 : Int32), .int (2 : Int32), .int (1 : Int32), .ref (ad 1), .ref (ad 2), .ref (ad 3), .ref (ad 4), .ref (ad 5), .int (0 : Int32), .ref (ad 6), .ref (ad 7), .ref (ad 8), .int (0 : Int32), .ref (ad 9), .ref (ad 10), .ref (ad 11), .ref (ad 12), .int (0 : Int32), .ref (ad 13), .ref (ad 14), .ref (ad 15), .ref (ad 16), .ref (ad 17), .ref (ad 18), .ref (ad 19), .ref (ad 20), .ref (ad 21), .ref (ad 22), .ref (ad 23), .ref (ad 24), .ref (ad 25), .ref (ad 26), .ref (ad 27), .ref (ad 28), .ref (ad 29), .ref (ad 30), .ref (ad 31), .ref (ad 32), .ref (ad 33), .ref (ad 34), .int (0 : Int32), .int (0 : Int32), .int (0 : Int32), .ref (G.2.2 (100 + 10)), .ref (ad 35), .ref (ad 36), .ref (ad 37), .int (0 : Int32), .ref (ad 38), .ref (ad 39), .ref (ad 40), .ref (ad 41), .ref (ad 42), .ref (ad 43), .ref (ad 44), .ref (ad 45), .ref (ad 46), .ref (ad 47), .ref (ad 48), .ref (ad 49), .ref (ad 50), .ref (ad 51), .ref (ad 52), .ref (ad 53), .ref (ad 54), .ref (ad 55), .ref (ad 56), .ref (ad 57), .ref (ad 58), .ref (ad 59), .int (0 : Int32), .ref (ad 60), .int (0 : Int32), .ref (ad 61), .ref (ad 62), .int (0 : Int32), .ref (ad 63), .ref (ad 64), .ref (ad 65), .ref (ad 66), .ref (ad 67), .ref (ad 68), .int (0 : Int32), .ref (ad 69), .ref (ad 70), .ref (ad 71), .ref (ad 72), .ref (ad 73), .int (0 : Int32), .int (0 : Int32), .int (0 : Int32), .ref (ad 74), .ref (ad 75), .ref (ad 76), .ref (ad 77), .ref (ad 78), .ref (ad 79)]) := hw2
  refine lv_iload_n hx hb dX12_finding_5 rfl (lv_at hl 1 rfl) ?_
  refine tw_calli F hH (tw_runS (As := [.int x1]) (rest := []) F hH (c_X12_isDay l G 80 ad w1 H.size x1 (z1) e1) (tw_gl kw_1651 rfl) km_X12_isDay (tw_gl kw_1652 rfl) rfl rfl ⟨(Nat.le_of_ble_eq_true rfl), (Nat.le_of_ble_eq_true rfl)⟩ rfl hl.1 rfl (Nat.le_of_ble_eq_true rfl) dX12_finding_6 ⟨(Nat.le_of_ble_eq_true rfl), (Nat.le_of_ble_eq_true rfl)⟩) (fun r6 w4 H locs hp5 _ hH => ?_)
  rcases hp5 with ⟨rfl, hc7, rfl⟩ | ⟨rfl, hc8, rfl⟩
  · skip
    refine lv_if_eq (tgt := 70) hx hb dX12_finding_9 (by decide) (fun _ => ?_) (fun c => absurd c (by decide))
    refine lv_iconst (v := 0) hx hb dX12_finding_70 (by decide) ?_
    refine lv_istore (lv' := [(5, .int (0 : Int32)), (0, .ref (ad 0)), (1, .int x1), (2, .int x2), (3, .int x3), (4, .int x4)]) hx hb dX12_finding_71 hl (by decide) rfl (fun ls hl => ?_)
    refine lv_iload hx hb dX12_finding_73 (lv_at hl 0 rfl) ?_
    refine lv_if_ne (tgt := 80) hx hb dX12_finding_75 (by decide) (fun c => absurd c (by decide)) (fun _ => ?_)
    refine lv_iconst (v := -1) hx hb dX12_finding_78 (by decide) ?_
    exact tw_iret F hH hret hlk rfl (Nat.le_of_ble_eq_true rfl) (Nat.le_of_ble_eq_true rfl) dX12_finding_79 (⟨rfl, (Or.inl (by omega))⟩)
  · skip
    refine lv_if_eq (tgt := 70) hx hb dX12_finding_9 (by decide) (fun c => absurd c (by decide)) (fun _ => ?_)
    refine lv_aload_n hx hb dX12_finding_12 rfl (lv_at hl 0 rfl) ?_
    refine lv_iload_n hx hb dX12_finding_13 rfl (lv_at hl 2 rfl) ?_
    refine tw_calli F hH (tw_runV (r := 0) (As := [.int x2]) (rest := []) F hH (c_X12_isCar l G ad w1 H.size x2 (z2) e2 hw2) (tw_gl kw_1409 rfl) km_X12_isCar kv_X12_isCar rfl rfl ⟨(Nat.le_of_ble_eq_true rfl), (Nat.le_of_ble_eq_true rfl)⟩ (by decide) hw2 rfl rfl hl.1 rfl (Nat.le_of_ble_eq_true rfl) dX12_finding_14 ⟨(Nat.le_of_ble_eq_true rfl), (Nat.le_of_ble_eq_true rfl)⟩) (fun r14 w12 H locs hp13 _ hH => ?_)
    obtain ⟨rfl, hc15, rfl⟩ := hp13
    refine lv_if_eq (tgt := 70) hx hb dX12_finding_17 (by decide) (fun _ => ?_) (fun c => absurd c (by decide))
    refine lv_iconst (v := 0) hx hb dX12_finding_70 (by decide) ?_
    refine lv_istore (lv' := [(5, .int (0 : Int32)), (0, .ref (ad 0)), (1, .int x1), (2, .int x2), (3, .int x3), (4, .int x4)]) hx hb dX12_finding_71 hl (by decide) rfl (fun ls hl => ?_)
    refine lv_iload hx hb dX12_finding_73 (lv_at hl 0 rfl) ?_
    refine lv_if_ne (tgt := 80) hx hb dX12_finding_75 (by decide) (fun c => absurd c (by decide)) (fun _ => ?_)
    refine lv_iconst (v := -1) hx hb dX12_finding_78 (by decide) ?_
    exact tw_iret F hH hret hlk rfl (Nat.le_of_ble_eq_true rfl) (Nat.le_of_ble_eq_true rfl) dX12_finding_79 (⟨rfl, (Or.inr (by omega))⟩)
set_option maxHeartbeats 4000000 in
set_option maxRecDepth 100000 in
theorem c_X12_seconds (l : Launch) (G : tw_G) (ad : Nat → Nat) (w : Nat → va_E) (sz : Nat) (x1 : Int32) (z1 : Int) (e1 : x1.toInt = z1) (x2 : Int32) (z2 : Int) (e2 : x2.toInt = z2) (hw_0 : w 0 = .inr (12, [.int (0 : Int32), .int (2 : Int32), .int (1 : Int32), .ref (ad 1), .ref (ad 2), .ref (ad 3), .ref (ad 4), .ref (ad 5), .int (0 : Int32), .ref (ad 6), .ref (ad 7), .ref (ad 8), .int (0 : Int32), .ref (ad 9), .ref (ad 10), .ref (ad 11), .ref (ad 12), .int (0 : Int32), .ref (ad 13), .ref (ad 14), .ref (ad 15), .ref (ad 16), .ref (ad 17), .ref (ad 18), .ref (ad 19), .ref (ad 20), .ref (ad 21), .ref (ad 22), .ref (ad 23), .ref (ad 24), .ref (ad 25), .ref (ad 26), .ref (ad 27), .ref (ad 28), .ref (ad 29), .ref (ad 30), .ref (ad 31), .ref (ad 32), .ref (ad 33), .ref (ad 34), .int (0 : Int32), .int (0 : Int32), .int (0 : Int32), .ref (G.2.2 (100 + 10)), .ref (ad 35), .ref (ad 36), .ref (ad 37), .int (0 : Int32), .ref (ad 38), .ref (ad 39), .ref (ad 40), .ref (ad 41), .ref (ad 42), .ref (ad 43), .ref (ad 44), .ref (ad 45), .ref (ad 46), .ref (ad 47), .ref (ad 48), .ref (ad 49), .ref (ad 50), .ref (ad 51), .ref (ad 52), .ref (ad 53), .ref (ad 54), .ref (ad 55), .ref (ad 56), .ref (ad 57), .ref (ad 58), .ref (ad 59), .int (0 : Int32), .ref (ad 60), .int (0 : Int32), .ref (ad 61), .ref (ad 62), .int (0 : Int32), .ref (ad 63), .ref (ad 64), .ref (ad 65), .ref (ad 66), .ref (ad 67), .ref (ad 68), .int (0 : Int32), .ref (ad 69), .ref (ad 70), .ref (ad 71), .ref (ad 72), .ref (ad 73), .int (0 : Int32), .int (0 : Int32), .int (0 : Int32), .ref (ad 74), .ref (ad 75), .ref (ad 76), .ref (ad 77), .ref (ad 78), .ref (ad 79)])) : Met l yX12_seconds (tw_ws yX12_seconds cX12_seconds 3 (some .int)) ({ frames := 2, cells := 0, slots := 0, locals := 46 }) (tw_Pre G 80 ad w sz [.ref (ad 0), .int x1, .int x2]) (tw_Qi G 80 ad (fun r w1 => ((-1 : Int32) = r ∧ ((((z1 < 0)) ∨ ((¬ (z1 < 0)) ∧ ((-1) < z1)))))) sz) 0 0 (tw_A 80 ad sz) := by
  refine tw_met (by decide) (Nat.le_of_ble_eq_true rfl) ?_
  intro p e s m args below meth c F hret hlk hin hargs hsz hH ls hl
  have hx := F.1.1
  have hb := F.1.2.1
  have hown := F.1.2.2.2.1
  have hts := F.1.2.2.2.2
  have hl : lv_has ls 3 [(0, .ref (ad 0)), (1, .int x1), (2, .int x2)] := hl
  generalize hH0 : s.heap = H at hH ⊢
  refine lv_aload_n hx hb dX12_seconds_0 rfl (lv_at hl 0 rfl) ?_
  refine lv_iconst (v := 0) hx hb dX12_seconds_1 (by decide) ?_
  refine tw_put (r := 0) F hH kf_RX12_3 kp_X12_0 rfl (by decide) hw_0 (Nat.le_of_ble_eq_true rfl) rfl rfl dX12_seconds_2 (fun H locs w1 hw2 hne3 hH => ?_)
  have hw2 : w1 0 = .inr (12, [.int (0 : Int32), .int (2 : Int32), .int (1 : Int32), .ref (ad 1), .ref (ad 2), .ref (ad 3), .ref (ad 4), .ref (ad 5), .int (0 : Int32), .ref (ad 6), .ref (ad 7), .ref (ad 8), .int (0 : Int32), .ref (ad 9), .ref (ad 10), .ref (ad 11), .ref (ad 12), .int (0 : Int32), .ref (ad 13), .ref (ad 14), .ref (ad 15), .ref (ad 16), .ref (ad 17), .ref (ad 18), .ref (ad 19), .ref (ad 20), .ref (ad 21), .ref (ad 22), .ref (ad 23), .ref (ad 24), .ref (ad 25), .ref (ad 26), .ref (ad 27), .ref (ad 28), .ref (ad 29), .ref (ad 30), .ref (ad 31), .ref (ad 32), .ref (ad 33), .ref (ad 34), .int (0 : Int32), .int (0 : Int32), .int (0 : Int32), .ref (G.2.2 (100 + 10)), .ref (ad 35), .ref (ad 36), .ref (ad 37), .int (0 : Int32), .ref (ad 38), .ref (ad 39), .ref (ad 40), .ref (ad 41), .ref (ad 42), .ref (ad 43), .ref (ad 44), .ref (ad 45), .ref (ad 46), .ref (ad 47), .ref (ad 48), .ref (ad 49), .ref (ad 50), .ref (ad 51), .ref (ad 52), .ref (ad 53), .ref (ad 54), .ref (ad 55), .ref (ad 56), .ref (ad 57), .ref (ad 58), .ref (ad 59), .int (0 : Int32), .ref (ad 60), .int (0 : Int32), .ref (ad 61), .ref (ad 62), .int (0 : Int32), .ref (ad 63), .ref (ad 64), .ref (ad 65), .ref (ad 66), .ref (ad 67), .ref (ad 68), .int (0 : Int32), .ref (ad 69), .ref (ad 70), .ref (ad 71), .ref (ad 72), .ref (ad 73), .int (0 : Int32), .int (0 : Int32), .int (0 : Int32), .ref (ad 74), .ref (ad 75), .ref (ad 76), .ref (ad 77), .ref (ad 78), .ref (ad 79)]) := hw2
  refine lv_aload_n hx hb dX12_seconds_5 rfl (lv_at hl 0 rfl) ?_
  refine lv_iload_n hx hb dX12_seconds_6 rfl (lv_at hl 1 rfl) ?_
  refine tw_calli F hH (tw_runV (r := 0) (As := [.int x1]) (rest := []) F hH (c_X12_isCar l G ad w1 H.size x1 (z1) e1 hw2) (tw_gl kw_1409 rfl) km_X12_isCar kv_X12_isCar rfl rfl ⟨(Nat.le_of_ble_eq_true rfl), (Nat.le_of_ble_eq_true rfl)⟩ (by decide) hw2 rfl rfl hl.1 rfl (Nat.le_of_ble_eq_true rfl) dX12_seconds_7 ⟨(Nat.le_of_ble_eq_true rfl), (Nat.le_of_ble_eq_true rfl)⟩) (fun r6 w4 H locs hp5 _ hH => ?_)
  obtain ⟨rfl, hc7, rfl⟩ := hp5
  refine lv_if_eq (tgt := 20) hx hb dX12_seconds_10 (by decide) (fun _ => ?_) (fun c => absurd c (by decide))
  refine lv_iconst (v := -1) hx hb dX12_seconds_20 (by decide) ?_
  exact tw_iret F hH hret hlk rfl (Nat.le_of_ble_eq_true rfl) (Nat.le_of_ble_eq_true rfl) dX12_seconds_21 (⟨rfl, (by omega)⟩)
