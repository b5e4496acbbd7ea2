def mo_1 (G : tw_G) (a : Nat → Nat) : List Value := [.int (0 : Int32), .int (2 : Int32), .int (1 : Int32), .ref (a 1), .ref (a 2), .ref (a 3), .ref (a 4), .ref (a 5), .int (0 : Int32), .ref (a 6), .null, .null, .int (0 : Int32), .null, .null, .null, .null, .int (0 : Int32), .null, .null, .null, .null, .null, .null, .null, .null, .null, .null, .null, .null, .null, .null, .null, .null, .null, .null, .null, .null, .null, .null, .int (0 : Int32), .int (0 : Int32), .int (0 : Int32), .null, .null, .null, .null, .int (0 : Int32), .null, .null, .null, .null, .null, .null, .null, .null, .null, .null, .null, .null, .null, .null, .null, .null, .null, .null, .null, .null, .null, .null, .int (0 : Int32), .null, .int (0 : Int32), .null, .null, .int (0 : Int32), .null, .null, .null, .null, .null, .null, .int (0 : Int32), .null, .null, .null, .null, .null, .int (0 : Int32), .int (0 : Int32), .int (0 : Int32), .null, .null, .null, .null, .null, .null]
theorem mo_1_c {G : tw_G} {a b : Nat → Nat} (h : ∀ j, j < 7 → a j = b j) : mo_1 G a = mo_1 G b := by
  unfold mo_1
  rw [h 1 (by decide), h 2 (by decide), h 3 (by decide), h 4 (by decide), h 5 (by decide), h 6 (by decide)]
theorem hmo_1 (G : tw_G) (a : Nat → Nat) : 96 < (mo_1 G a).length := Nat.le_of_ble_eq_true rfl
set_option maxHeartbeats 20000000 in
set_option maxRecDepth 100000 in
theorem c_X12_init_s1 {p : Program} {l : Launch} {e : Env} {s : State} {m : MethodId} {args : Array Value} {below : List Frame} {meth : Method} {c : Code} {G : tw_G} {A : Nat → Prop} {Q : State → Prop} {H : Heap} {locs : List Loc} {ls : Array Slot} {ad : Nat → Nat} {w : Nat → va_E} (F : tw_F p m c cX12_init 2 s args RX12 G A) (hin : meth.name = "<init>") (hw_0 : w 0 = .inr (12, [.int (0 : Int32), .int (0 : Int32), .int (0 : Int32), .null, .null, .null, .null, .null, .int (0 : Int32), .null, .null, .null, .int (0 : Int32), .null, .null, .null, .null, .int (0 : Int32), .null, .null, .null, .null, .null, .null, .null, .null, .null, .null, .null, .null, .null, .null, .null, .null, .null, .null, .null, .null, .null, .null, .int (0 : Int32), .int (0 : Int32), .int (0 : Int32), .null, .null, .null, .null, .int (0 : Int32), .null, .null, .null, .null, .null, .null, .null, .null, .null, .null, .null, .null, .null, .null, .null, .null, .null, .null, .null, .null, .null, .null, .int (0 : Int32), .null, .int (0 : Int32), .null, .null, .int (0 : Int32), .null, .null, .null, .null, .null, .null, .int (0 : Int32), .null, .null, .null, .null, .null, .int (0 : Int32), .int (0 : Int32), .int (0 : Int32), .null, .null, .null, .null, .null, .null])) (hH : tw_H G 1 ad w A s H locs) (hl : lv_has ls 2 [(0, .ref (ad 0))]) (kk : ∀ (H : Heap) (locs : List Loc) (ad1 : Nat → Nat) (w1 : Nat → va_E) (ls : Array Slot), (∀ k, k < 1 → ad1 k = ad k) → w1 0 = .inr (12, mo_1 G ad1) → w1 1 = .inl (G.2.1 0, 5, .inl (fun _ => 0)) → w1 2 = .inl (G.2.1 0, 5, .inl (fun _ => 0)) → w1 3 = .inl (G.2.1 1, 5, .inl (fun _ => 0)) → w1 4 = .inl (G.2.1 0, 24, .inl (fun _ => 0)) → w1 5 = .inl (G.2.1 0, 8, .inl (fun _ => 0)) → w1 6 = .inl (G.2.1 0, 30, .inl (fun _ => 0)) → tw_H G 7 ad1 w1 A s H locs → lv_has ls 2 [(0, .ref (ad 0))] → W p l e ({ frames := 1, cells := 79, slots := 3514, locals := 23 }) s m args below meth c H locs 6 77 Q (F0 m 59 ls [])) : W p l e ({ frames := 1, cells := 79, slots := 3514, locals := 23 }) s m args below meth c H locs 0 0 Q (F0 m 0 ls []) := by
  have hx := F.1.1
  have hb := F.1.2.1
  have hown := F.1.2.2.2.1
  have hts := F.1.2.2.2.2
  refine lv_aload_n hx hb dX12_init_0 rfl (lv_at hl 0 rfl) ?_
  refine tw_objInit F (tw_gl kw_1788 rfl) (tw_gl kw_32 rfl) (tw_gl kw_33 rfl) hl.1 ⟨(Nat.le_of_ble_eq_true rfl), (Nat.le_of_ble_eq_true rfl)⟩ (Nat.le_of_ble_eq_true rfl) dX12_init_1 ?_
  refine lv_aload_n hx hb dX12_init_4 rfl (lv_at hl 0 rfl) ?_
  refine lv_iconst (v := 2) hx hb dX12_init_5 (by decide) ?_
  refine tw_put (r := 0) F hH kf_RX12_7 kp_X12_1 rfl (by decide) hw_0 (Nat.le_of_ble_eq_true rfl) rfl rfl dX12_init_6 (fun H locs w1 hw2 hne3 hH => ?_)
  obtain ⟨fs4, efs4⟩ : ∃ z : List Value, z = List.set [.int (0 : Int32), .int (0 : Int32), .int (0 : Int32), .null, .null, .null, .null, .null, .int (0 : Int32), .null, .null, .null, .int (0 : Int32), .null, .null, .null, .null, .int (0 : Int32), .null, .null, .null, .null, .null, .null, .null, .null, .null, .null, .null, .null, .null, .null, .null, .null, .null, .null, .null, .null, .null, .null, .int (0 : Int32), .int (0 : Int32), .int (0 : Int32), .null, .null, .null, .null, .int (0 : Int32), .null, .null, .null, .null, .null, .null, .null, .null, .null, .null, .null, .null, .null, .null, .null, .null, .null, .null, .null, .null, .null, .null, .int (0 : Int32), .null, .int (0 : Int32), .null, .null, .int (0 : Int32), .null, .null, .null, .null, .null, .null, .int (0 : Int32), .null, .null, .null, .null, .null, .int (0 : Int32), .int (0 : Int32), .int (0 : Int32), .null, .null, .null, .null, .null, .null] 1 (.int (2 : Int32)) := ⟨_, rfl⟩
  rw [← efs4] at hw2
  have hfs4 : 96 < fs4.length := by rw [efs4, List.length_set]; exact (Nat.le_of_ble_eq_true rfl)
  refine lv_aload_n hx hb dX12_init_9 rfl (lv_at hl 0 rfl) ?_
  refine lv_iconst (v := 1) hx hb dX12_init_10 (by decide) ?_
  refine tw_put (r := 0) F hH kf_RX12_10 kp_X12_2 rfl (by decide) hw2 (Nat.lt_of_le_of_lt (by decide) hfs4) rfl rfl dX12_init_11 (fun H locs w5 hw6 hne7 hH => ?_)
  obtain ⟨fs8, efs8⟩ : ∃ z : List Value, z = List.set fs4 2 (.int (1 : Int32)) := ⟨_, rfl⟩
  rw [← efs8] at hw6
  have hfs8 : 96 < fs8.length := by rw [efs8, List.length_set]; exact hfs4
  refine lv_aload_n hx hb dX12_init_14 rfl (lv_at hl 0 rfl) ?_
  refine lv_iconst (v := 5) hx hb dX12_init_15 (by decide) ?_
  refine tw_newa (t := 0) (atype := .int) (ty := .int) (n' := 5) (a0 := (5, .inl (fun _ => 0))) F hH rfl (fun C h => by cases h) (tw_gl kw_47 rfl) rfl (fun _ => rfl) (by decide) (Nat.le_of_ble_eq_true rfl) (Nat.le_of_ble_eq_true rfl) (Nat.le_of_ble_eq_true rfl) dX12_init_16 (fun H locs ad12 w9 ha13 hw10 hne11 hH => ?_)
  have hw14 : w9 0 = .inr (12, fs8) := (hne11 0 (nn_ne rfl)).trans (hw6)
  refine tw_putF (r := 0) F hH kf_RX12_13 kp_X12_3 hin rfl (ha13 0 (nn_lt rfl)) (by decide) hw14 (Nat.lt_of_le_of_lt (by decide) hfs8) rfl rfl dX12_init_18 (fun H locs w15 hw16 hne17 hH => ?_)
  obtain ⟨fs18, efs18⟩ : ∃ z : List Value, z = List.set fs8 3 (.ref (ad12 1)) := ⟨_, rfl⟩
  rw [← efs18] at hw16
  have hfs18 : 96 < fs18.length := by rw [efs18, List.length_set]; exact hfs8
  refine lv_aload_n hx hb dX12_init_21 rfl (lv_at hl 0 rfl) ?_
  refine lv_iconst (v := 5) hx hb dX12_init_22 (by decide) ?_
  refine tw_newa (t := 0) (atype := .int) (ty := .int) (n' := 5) (a0 := (5, .inl (fun _ => 0))) F hH rfl (fun C h => by cases h) (tw_gl kw_47 rfl) rfl (fun _ => rfl) (by decide) (Nat.le_of_ble_eq_true rfl) (Nat.le_of_ble_eq_true rfl) (Nat.le_of_ble_eq_true rfl) dX12_init_23 (fun H locs ad22 w19 ha23 hw20 hne21 hH => ?_)
  have hw24 : w19 0 = .inr (12, fs18) := (hne21 0 (nn_ne rfl)).trans (hw16)
  refine tw_putF (r := 0) F hH kf_RX12_17 kp_X12_4 hin rfl ((ha23 0 (nn_lt rfl)).trans (ha13 0 (nn_lt rfl))) (by decide) hw24 (Nat.lt_of_le_of_lt (by decide) hfs18) rfl rfl dX12_init_25 (fun H locs w25 hw26 hne27 hH => ?_)
  obtain ⟨fs28, efs28⟩ : ∃ z : List Value, z = List.set fs18 4 (.ref (ad22 2)) := ⟨_, rfl⟩
  rw [← efs28] at hw26
  have hfs28 : 96 < fs28.length := by rw [efs28, List.length_set]; exact hfs18
  refine lv_aload_n hx hb dX12_init_28 rfl (lv_at hl 0 rfl) ?_
  refine lv_iconst (v := 5) hx hb dX12_init_29 (by decide) ?_
  refine tw_newa (t := 1) (atype := .boolean) (ty := .boolean) (n' := 5) (a0 := (5, .inl (fun _ => 0))) F hH rfl (fun C h => by cases h) (tw_gl kw_83 rfl) rfl (fun _ => rfl) (by decide) (Nat.le_of_ble_eq_true rfl) (Nat.le_of_ble_eq_true rfl) (Nat.le_of_ble_eq_true rfl) dX12_init_30 (fun H locs ad32 w29 ha33 hw30 hne31 hH => ?_)
  have hw34 : w29 0 = .inr (12, fs28) := (hne31 0 (nn_ne rfl)).trans (hw26)
  refine tw_putF (r := 0) F hH kf_RX12_20 kp_X12_5 hin rfl (((ha33 0 (nn_lt rfl)).trans (ha23 0 (nn_lt rfl))).trans (ha13 0 (nn_lt rfl))) (by decide) hw34 (Nat.lt_of_le_of_lt (by decide) hfs28) rfl rfl dX12_init_32 (fun H locs w35 hw36 hne37 hH => ?_)
  obtain ⟨fs38, efs38⟩ : ∃ z : List Value, z = List.set fs28 5 (.ref (ad32 3)) := ⟨_, rfl⟩
  rw [← efs38] at hw36
  have hfs38 : 96 < fs38.length := by rw [efs38, List.length_set]; exact hfs28
  refine lv_aload_n hx hb dX12_init_35 rfl (lv_at hl 0 rfl) ?_
  refine lv_bipush (v := 24) hx hb dX12_init_36 (by decide) ?_
  refine tw_newa (t := 0) (atype := .int) (ty := .int) (n' := 24) (a0 := (24, .inl (fun _ => 0))) F hH rfl (fun C h => by cases h) (tw_gl kw_47 rfl) rfl (fun _ => rfl) (by decide) (Nat.le_of_ble_eq_true rfl) (Nat.le_of_ble_eq_true rfl) (Nat.le_of_ble_eq_true rfl) dX12_init_38 (fun H locs ad42 w39 ha43 hw40 hne41 hH => ?_)
  have hw44 : w39 0 = .inr (12, fs38) := (hne41 0 (nn_ne rfl)).trans (hw36)
  have ha48 : ad42 0 = ad 0 := ((((ha43 0 (nn_lt rfl)).trans (ha33 0 (nn_lt rfl))).trans (ha23 0 (nn_lt rfl))).trans (ha13 0 (nn_lt rfl)))
  refine tw_putF (r := 0) F hH kf_RX12_72 kp_X12_6 hin rfl ha48 (by decide) hw44 (Nat.lt_of_le_of_lt (by decide) hfs38) rfl rfl dX12_init_40 (fun H locs w45 hw46 hne47 hH => ?_)
  obtain ⟨fs49, efs49⟩ : ∃ z : List Value, z = List.set fs38 6 (.ref (ad42 4)) := ⟨_, rfl⟩
  rw [← efs49] at hw46
  have hfs49 : 96 < fs49.length := by rw [efs49, List.length_set]; exact hfs38
  refine lv_aload_n hx hb dX12_init_43 rfl (lv_at hl 0 rfl) ?_
  refine lv_bipush (v := 8) hx hb dX12_init_44 (by decide) ?_
  refine tw_newa (t := 0) (atype := .int) (ty := .int) (n' := 8) (a0 := (8, .inl (fun _ => 0))) F hH rfl (fun C h => by cases h) (tw_gl kw_47 rfl) rfl (fun _ => rfl) (by decide) (Nat.le_of_ble_eq_true rfl) (Nat.le_of_ble_eq_true rfl) (Nat.le_of_ble_eq_true rfl) dX12_init_46 (fun H locs ad53 w50 ha54 hw51 hne52 hH => ?_)
  have hw55 : w50 0 = .inr (12, fs49) := (hne52 0 (nn_ne rfl)).trans (hw46)
  have ha59 : ad53 0 = ad 0 := ((ha54 0 (nn_lt rfl)).trans ha48)
  refine tw_putF (r := 0) F hH kf_RX12_83 kp_X12_7 hin rfl ha59 (by decide) hw55 (Nat.lt_of_le_of_lt (by decide) hfs49) rfl rfl dX12_init_48 (fun H locs w56 hw57 hne58 hH => ?_)
  obtain ⟨fs60, efs60⟩ : ∃ z : List Value, z = List.set fs49 7 (.ref (ad53 5)) := ⟨_, rfl⟩
  rw [← efs60] at hw57
  have hfs60 : 96 < fs60.length := by rw [efs60, List.length_set]; exact hfs49
  refine lv_aload_n hx hb dX12_init_51 rfl (lv_at hl 0 rfl) ?_
  refine lv_bipush (v := 30) hx hb dX12_init_52 (by decide) ?_
  refine tw_newa (t := 0) (atype := .int) (ty := .int) (n' := 30) (a0 := (30, .inl (fun _ => 0))) F hH rfl (fun C h => by cases h) (tw_gl kw_47 rfl) rfl (fun _ => rfl) (by decide) (Nat.le_of_ble_eq_true rfl) (Nat.le_of_ble_eq_true rfl) (Nat.le_of_ble_eq_true rfl) dX12_init_54 (fun H locs ad64 w61 ha65 hw62 hne63 hH => ?_)
  have hw66 : w61 0 = .inr (12, fs60) := (hne63 0 (nn_ne rfl)).trans (hw57)
  have ha70 : ad64 0 = ad 0 := ((ha65 0 (nn_lt rfl)).trans ha59)
  refine tw_putF (r := 0) F hH kf_RX12_86 kp_X12_9 hin rfl ha70 (by decide) hw66 (Nat.lt_of_le_of_lt (by decide) hfs60) rfl rfl dX12_init_56 (fun H locs w67 hw68 hne69 hH => ?_)
  obtain ⟨fs71, efs71⟩ : ∃ z : List Value, z = List.set fs60 9 (.ref (ad64 6)) := ⟨_, rfl⟩
  rw [← efs71] at hw68
  have hfs71 : 96 < fs71.length := by rw [efs71, List.length_set]; exact hfs60
  have ha72 : ad64 1 = ad12 1 := (((((ha65 1 (nn_lt rfl)).trans (ha54 1 (nn_lt rfl))).trans (ha43 1 (nn_lt rfl))).trans (ha33 1 (nn_lt rfl))).trans (ha23 1 (nn_lt rfl)))
  have ha73 : ad64 2 = ad22 2 := ((((ha65 2 (nn_lt rfl)).trans (ha54 2 (nn_lt rfl))).trans (ha43 2 (nn_lt rfl))).trans (ha33 2 (nn_lt rfl)))
  have ha74 : ad64 3 = ad32 3 := (((ha65 3 (nn_lt rfl)).trans (ha54 3 (nn_lt rfl))).trans (ha43 3 (nn_lt rfl)))
  have ha75 : ad64 4 = ad42 4 := ((ha65 4 (nn_lt rfl)).trans (ha54 4 (nn_lt rfl)))
  have ha76 : ad64 5 = ad53 5 := (ha65 5 (nn_lt rfl))
  have hw77 : w67 0 = .inr (12, mo_1 G ad64) := by rw [hw68]; rw [efs71, efs60, efs49, efs38, efs28, efs18, efs8, efs4]; rw [show ad12 1 = ad64 1 from ha72.symm, show ad22 2 = ad64 2 from ha73.symm, show ad32 3 = ad64 3 from ha74.symm, show ad42 4 = ad64 4 from ha75.symm, show ad53 5 = ad64 5 from ha76.symm]; rfl
  have hw78 : w67 1 = .inl (G.2.1 0, 5, .inl (fun _ => 0)) := (hne69 1 (nn_ne rfl)).trans ((hne63 1 (nn_ne rfl)).trans ((hne58 1 (nn_ne rfl)).trans ((hne52 1 (nn_ne rfl)).trans ((hne47 1 (nn_ne rfl)).trans ((hne41 1 (nn_ne rfl)).trans ((hne37 1 (nn_ne rfl)).trans ((hne31 1 (nn_ne rfl)).trans ((hne27 1 (nn_ne rfl)).trans ((hne21 1 (nn_ne rfl)).trans ((hne17 1 (nn_ne rfl)).trans (hw10)))))))))))
  have hw79 : w67 2 = .inl (G.2.1 0, 5, .inl (fun _ => 0)) := (hne69 2 (nn_ne rfl)).trans ((hne63 2 (nn_ne rfl)).trans ((hne58 2 (nn_ne rfl)).trans ((hne52 2 (nn_ne rfl)).trans ((hne47 2 (nn_ne rfl)).trans ((hne41 2 (nn_ne rfl)).trans ((hne37 2 (nn_ne rfl)).trans ((hne31 2 (nn_ne rfl)).trans ((hne27 2 (nn_ne rfl)).trans (hw20)))))))))
  have hw80 : w67 3 = .inl (G.2.1 1, 5, .inl (fun _ => 0)) := (hne69 3 (nn_ne rfl)).trans ((hne63 3 (nn_ne rfl)).trans ((hne58 3 (nn_ne rfl)).trans ((hne52 3 (nn_ne rfl)).trans ((hne47 3 (nn_ne rfl)).trans ((hne41 3 (nn_ne rfl)).trans ((hne37 3 (nn_ne rfl)).trans (hw30)))))))
  have hw81 : w67 4 = .inl (G.2.1 0, 24, .inl (fun _ => 0)) := (hne69 4 (nn_ne rfl)).trans ((hne63 4 (nn_ne rfl)).trans ((hne58 4 (nn_ne rfl)).trans ((hne52 4 (nn_ne rfl)).trans ((hne47 4 (nn_ne rfl)).trans (hw40)))))
  have hw82 : w67 5 = .inl (G.2.1 0, 8, .inl (fun _ => 0)) := (hne69 5 (nn_ne rfl)).trans ((hne63 5 (nn_ne rfl)).trans ((hne58 5 (nn_ne rfl)).trans (hw51)))
  have hw83 : w67 6 = .inl (G.2.1 0, 30, .inl (fun _ => 0)) := (hne69 6 (nn_ne rfl)).trans (hw62)
  exact kk H locs ad64 w67 ls (fun k hk => ((((((ha65 k (by omega)).trans (ha54 k (by omega))).trans (ha43 k (by omega))).trans (ha33 k (by omega))).trans (ha23 k (by omega))).trans (ha13 k (by omega)))) hw77 hw78 hw79 hw80 hw81 hw82 hw83 hH hl

def mo_2 (G : tw_G) (a : Nat → Nat) : List Value := [.int (0 : Int32), .int (2 : Int32), .int (1 : Int32), .ref (a 1), .ref (a 2), .ref (a 3), .ref (a 4), .ref (a 5), .int (0 : Int32), .ref (a 6), .ref (a 7), .ref (a 8), .int (0 : Int32), .ref (a 9), .ref (a 10), .ref (a 11), .ref (a 12), .int (0 : Int32), .ref (a 13), .ref (a 14), .null, .null, .null, .null, .null, .null, .null, .null, .null, .null, .null, .null, .null, .null, .null, .null, .null, .null, .null, .null, .int (0 : Int32), .int (0 : Int32), .int (0 : Int32), .null, .null, .null, .null, .int (0 : Int32), .null, .null, .null, .null, .null, .null, .null, .null, .null, .null, .null, .null, .null, .null, .null, .null, .null, .null, .null, .null, .null, .null, .int (0 : Int32), .null, .int (0 : Int32), .null, .null, .int (0 : Int32), .null, .null, .null, .null, .null, .null, .int (0 : Int32), .null, .null, .null, .null, .null, .int (0 : Int32), .int (0 : Int32), .int (0 : Int32), .null, .null, .null, .null, .null, .null]
theorem mo_2_c {G : tw_G} {a b : Nat → Nat} (h : ∀ j, j < 15 → a j = b j) : mo_2 G a = mo_2 G b := by
  unfold mo_2
  rw [h 1 (by decide), h 2 (by decide), h 3 (by decide), h 4 (by decide), h 5 (by decide), h 6 (by decide), h 7 (by decide), h 8 (by decide), h 9 (by decide), h 10 (by decide), h 11 (by decide), h 12 (by decide), h 13 (by decide), h 14 (by decide)]
theorem hmo_2 (G : tw_G) (a : Nat → Nat) : 96 < (mo_2 G a).length := Nat.le_of_ble_eq_true rfl
set_option maxHeartbeats 20000000 in
set_option maxRecDepth 100000 in
theorem c_X12_init_s2 {p : Program} {l : Launch} {e : Env} {s : State} {m : MethodId} {args : Array Value} {below : List Frame} {meth : Method} {c : Code} {G : tw_G} {A : Nat → Prop} {Q : State → Prop} {H : Heap} {locs : List Loc} {ls : Array Slot} {ad adS1 : Nat → Nat} {wS1 : Nat → va_E} (F : tw_F p m c cX12_init 2 s args RX12 G A) (hin : meth.name = "<init>") (hz1 : ∀ k, k < 1 → adS1 k = ad k) (f1_0 : wS1 0 = .inr (12, mo_1 G adS1)) (f1_1 : wS1 1 = .inl (G.2.1 0, 5, .inl (fun _ => 0))) (f1_2 : wS1 2 = .inl (G.2.1 0, 5, .inl (fun _ => 0))) (f1_3 : wS1 3 = .inl (G.2.1 1, 5, .inl (fun _ => 0))) (f1_4 : wS1 4 = .inl (G.2.1 0, 24, .inl (fun _ => 0))) (f1_5 : wS1 5 = .inl (G.2.1 0, 8, .inl (fun _ => 0))) (f1_6 : wS1 6 = .inl (G.2.1 0, 30, .inl (fun _ => 0))) (hH : tw_H G 7 adS1 wS1 A s H locs) (hl : lv_has ls 2 [(0, .ref (ad 0))]) (kk : ∀ (H : Heap) (locs : List Loc) (ad1 : Nat → Nat) (w1 : Nat → va_E) (ls : Array Slot), (∀ k, k < 1 → ad1 k = ad k) → w1 0 = .inr (12, mo_2 G ad1) → w1 1 = .inl (G.2.1 0, 5, .inl (fun _ => 0)) → w1 2 = .inl (G.2.1 0, 5, .inl (fun _ => 0)) → w1 3 = .inl (G.2.1 1, 5, .inl (fun _ => 0)) → w1 4 = .inl (G.2.1 0, 24, .inl (fun _ => 0)) → w1 5 = .inl (G.2.1 0, 8, .inl (fun _ => 0)) → w1 6 = .inl (G.2.1 0, 30, .inl (fun _ => 0)) → w1 7 = .inl (G.2.1 0, 30, .inl (fun _ => 0)) → w1 8 = .inl (G.2.1 0, 30, .inl (fun _ => 0)) → w1 9 = .inl (G.2.1 0, 20, .inl (fun _ => 0)) → w1 10 = .inl (G.2.1 0, 20, .inl (fun _ => 0)) → w1 11 = .inl (G.2.1 0, 20, .inl (fun _ => 0)) → w1 12 = .inl (G.2.1 0, 20, .inl (fun _ => 0)) → w1 13 = .inl (G.2.1 0, 6, .inl (fun _ => 0)) → w1 14 = .inl (G.2.1 0, 6, .inl (fun _ => 0)) → tw_H G 15 ad1 w1 A s H locs → lv_has ls 2 [(0, .ref (ad 0))] → W p l e ({ frames := 1, cells := 79, slots := 3514, locals := 23 }) s m args below meth c H locs 14 229 Q (F0 m 123 ls [])) : W p l e ({ frames := 1, cells := 79, slots := 3514, locals := 23 }) s m args below meth c H locs 6 77 Q (F0 m 59 ls []) := by
  have hx := F.1.1
  have hb := F.1.2.1
  have hown := F.1.2.2.2.1
  have hts := F.1.2.2.2.2
  refine lv_aload_n hx hb dX12_init_59 rfl (lv_at hl 0 rfl) ?_
  refine lv_bipush (v := 30) hx hb dX12_init_60 (by decide) ?_
  refine tw_newa (t := 0) (atype := .int) (ty := .int) (n' := 30) (a0 := (30, .inl (fun _ => 0))) F hH rfl (fun C h => by cases h) (tw_gl kw_47 rfl) rfl (fun _ => rfl) (by decide) (Nat.le_of_ble_eq_true rfl) (Nat.le_of_ble_eq_true rfl) (Nat.le_of_ble_eq_true rfl) dX12_init_62 (fun H locs ad87 w84 ha88 hw85 hne86 hH => ?_)
  have hw89 : w84 0 = .inr (12, (mo_1 G adS1)) := (hne86 0 (nn_ne rfl)).trans (f1_0)
  refine tw_putF (r := 0) F hH kf_RX12_89 kp_X12_10 hin rfl ((ha88 0 (nn_lt rfl)).trans (hz1 0 (nn_lt rfl))) (by decide) hw89 (Nat.lt_of_le_of_lt (by decide) (hmo_1 G adS1)) rfl rfl dX12_init_64 (fun H locs w90 hw91 hne92 hH => ?_)
  obtain ⟨fs93, efs93⟩ : ∃ z : List Value, z = List.set (mo_1 G adS1) 10 (.ref (ad87 7)) := ⟨_, rfl⟩
  rw [← efs93] at hw91
  have hfs93 : 96 < fs93.length := by rw [efs93, List.length_set]; exact (hmo_1 G adS1)
  refine lv_aload_n hx hb dX12_init_67 rfl (lv_at hl 0 rfl) ?_
  refine lv_bipush (v := 30) hx hb dX12_init_68 (by decide) ?_
  refine tw_newa (t := 0) (atype := .int) (ty := .int) (n' := 30) (a0 := (30, .inl (fun _ => 0))) F hH rfl (fun C h => by cases h) (tw_gl kw_47 rfl) rfl (fun _ => rfl) (by decide) (Nat.le_of_ble_eq_true rfl) (Nat.le_of_ble_eq_true rfl) (Nat.le_of_ble_eq_true rfl) dX12_init_70 (fun H locs ad97 w94 ha98 hw95 hne96 hH => ?_)
  have hw99 : w94 0 = .inr (12, fs93) := (hne96 0 (nn_ne rfl)).trans (hw91)
  refine tw_putF (r := 0) F hH kf_RX12_92 kp_X12_11 hin rfl (((ha98 0 (nn_lt rfl)).trans (ha88 0 (nn_lt rfl))).trans (hz1 0 (nn_lt rfl))) (by decide) hw99 (Nat.lt_of_le_of_lt (by decide) hfs93) rfl rfl dX12_init_72 (fun H locs w100 hw101 hne102 hH => ?_)
  obtain ⟨fs103, efs103⟩ : ∃ z : List Value, z = List.set fs93 11 (.ref (ad97 8)) := ⟨_, rfl⟩
  rw [← efs103] at hw101
  have hfs103 : 96 < fs103.length := by rw [efs103, List.length_set]; exact hfs93
  refine lv_aload_n hx hb dX12_init_75 rfl (lv_at hl 0 rfl) ?_
  refine lv_bipush (v := 20) hx hb dX12_init_76 (by decide) ?_
  refine tw_newa (t := 0) (atype := .int) (ty := .int) (n' := 20) (a0 := (20, .inl (fun _ => 0))) F hH rfl (fun C h => by cases h) (tw_gl kw_47 rfl) rfl (fun _ => rfl) (by decide) (Nat.le_of_ble_eq_true rfl) (Nat.le_of_ble_eq_true rfl) (Nat.le_of_ble_eq_true rfl) dX12_init_78 (fun H locs ad107 w104 ha108 hw105 hne106 hH => ?_)
  have hw109 : w104 0 = .inr (12, fs103) := (hne106 0 (nn_ne rfl)).trans (hw101)
  have ha113 : ad107 0 = ad 0 := ((((ha108 0 (nn_lt rfl)).trans (ha98 0 (nn_lt rfl))).trans (ha88 0 (nn_lt rfl))).trans (hz1 0 (nn_lt rfl)))
  refine tw_putF (r := 0) F hH kf_RX12_95 kp_X12_13 hin rfl ha113 (by decide) hw109 (Nat.lt_of_le_of_lt (by decide) hfs103) rfl rfl dX12_init_80 (fun H locs w110 hw111 hne112 hH => ?_)
  obtain ⟨fs114, efs114⟩ : ∃ z : List Value, z = List.set fs103 13 (.ref (ad107 9)) := ⟨_, rfl⟩
  rw [← efs114] at hw111
  have hfs114 : 96 < fs114.length := by rw [efs114, List.length_set]; exact hfs103
  refine lv_aload_n hx hb dX12_init_83 rfl (lv_at hl 0 rfl) ?_
  refine lv_bipush (v := 20) hx hb dX12_init_84 (by decide) ?_
  refine tw_newa (t := 0) (atype := .int) (ty := .int) (n' := 20) (a0 := (20, .inl (fun _ => 0))) F hH rfl (fun C h => by cases h) (tw_gl kw_47 rfl) rfl (fun _ => rfl) (by decide) (Nat.le_of_ble_eq_true rfl) (Nat.le_of_ble_eq_true rfl) (Nat.le_of_ble_eq_true rfl) dX12_init_86 (fun H locs ad118 w115 ha119 hw116 hne117 hH => ?_)
  have hw120 : w115 0 = .inr (12, fs114) := (hne117 0 (nn_ne rfl)).trans (hw111)
  have ha124 : ad118 0 = ad 0 := ((ha119 0 (nn_lt rfl)).trans ha113)
  refine tw_putF (r := 0) F hH kf_RX12_98 kp_X12_14 hin rfl ha124 (by decide) hw120 (Nat.lt_of_le_of_lt (by decide) hfs114) rfl rfl dX12_init_88 (fun H locs w121 hw122 hne123 hH => ?_)
  obtain ⟨fs125, efs125⟩ : ∃ z : List Value, z = List.set fs114 14 (.ref (ad118 10)) := ⟨_, rfl⟩
  rw [← efs125] at hw122
  have hfs125 : 96 < fs125.length := by rw [efs125, List.length_set]; exact hfs114
  refine lv_aload_n hx hb dX12_init_91 rfl (lv_at hl 0 rfl) ?_
  refine lv_bipush (v := 20) hx hb dX12_init_92 (by decide) ?_
  refine tw_newa (t := 0) (atype := .int) (ty := .int) (n' := 20) (a0 := (20, .inl (fun _ => 0))) F hH rfl (fun C h => by cases h) (tw_gl kw_47 rfl) rfl (fun _ => rfl) (by decide) (Nat.le_of_ble_eq_true rfl) (Nat.le_of_ble_eq_true rfl) (Nat.le_of_ble_eq_true rfl) dX12_init_94 (fun H locs ad129 w126 ha130 hw127 hne128 hH => ?_)
  have hw131 : w126 0 = .inr (12, fs125) := (hne128 0 (nn_ne rfl)).trans (hw122)
  have ha135 : ad129 0 = ad 0 := ((ha130 0 (nn_lt rfl)).trans ha124)
  refine tw_putF (r := 0) F hH kf_RX12_101 kp_X12_15 hin rfl ha135 (by decide) hw131 (Nat.lt_of_le_of_lt (by decide) hfs125) rfl rfl dX12_init_96 (fun H locs w132 hw133 hne134 hH => ?_)
  obtain ⟨fs136, efs136⟩ : ∃ z : List Value, z = List.set fs125 15 (.ref (ad129 11)) := ⟨_, rfl⟩
  rw [← efs136] at hw133
  have hfs136 : 96 < fs136.length := by rw [efs136, List.length_set]; exact hfs125
  refine lv_aload_n hx hb dX12_init_99 rfl (lv_at hl 0 rfl) ?_
  refine lv_bipush (v := 20) hx hb dX12_init_100 (by decide) ?_
  refine tw_newa (t := 0) (atype := .int) (ty := .int) (n' := 20) (a0 := (20, .inl (fun _ => 0))) F hH rfl (fun C h => by cases h) (tw_gl kw_47 rfl) rfl (fun _ => rfl) (by decide) (Nat.le_of_ble_eq_true rfl) (Nat.le_of_ble_eq_true rfl) (Nat.le_of_ble_eq_true rfl) dX12_init_102 (fun H locs ad140 w137 ha141 hw138 hne139 hH => ?_)
  have hw142 : w137 0 = .inr (12, fs136) := (hne139 0 (nn_ne rfl)).trans (hw133)
  have ha146 : ad140 0 = ad 0 := ((ha141 0 (nn_lt rfl)).trans ha135)
  refine tw_putF (r := 0) F hH kf_RX12_104 kp_X12_16 hin rfl ha146 (by decide) hw142 (Nat.lt_of_le_of_lt (by decide) hfs136) rfl rfl dX12_init_104 (fun H locs w143 hw144 hne145 hH => ?_)
  obtain ⟨fs147, efs147⟩ : ∃ z : List Value, z = List.set fs136 16 (.ref (ad140 12)) := ⟨_, rfl⟩
  rw [← efs147] at hw144
  have hfs147 : 96 < fs147.length := by rw [efs147, List.length_set]; exact hfs136
  refine lv_aload_n hx hb dX12_init_107 rfl (lv_at hl 0 rfl) ?_
  refine lv_bipush (v := 6) hx hb dX12_init_108 (by decide) ?_
  refine tw_newa (t := 0) (atype := .int) (ty := .int) (n' := 6) (a0 := (6, .inl (fun _ => 0))) F hH rfl (fun C h => by cases h) (tw_gl kw_47 rfl) rfl (fun _ => rfl) (by decide) (Nat.le_of_ble_eq_true rfl) (Nat.le_of_ble_eq_true rfl) (Nat.le_of_ble_eq_true rfl) dX12_init_110 (fun H locs ad151 w148 ha152 hw149 hne150 hH => ?_)
  have hw153 : w148 0 = .inr (12, fs147) := (hne150 0 (nn_ne rfl)).trans (hw144)
  have ha157 : ad151 0 = ad 0 := ((ha152 0 (nn_lt rfl)).trans ha146)
  refine tw_putF (r := 0) F hH kf_RX12_115 kp_X12_18 hin rfl ha157 (by decide) hw153 (Nat.lt_of_le_of_lt (by decide) hfs147) rfl rfl dX12_init_112 (fun H locs w154 hw155 hne156 hH => ?_)
  obtain ⟨fs158, efs158⟩ : ∃ z : List Value, z = List.set fs147 18 (.ref (ad151 13)) := ⟨_, rfl⟩
  rw [← efs158] at hw155
  have hfs158 : 96 < fs158.length := by rw [efs158, List.length_set]; exact hfs147
  refine lv_aload_n hx hb dX12_init_115 rfl (lv_at hl 0 rfl) ?_
  refine lv_bipush (v := 6) hx hb dX12_init_116 (by decide) ?_
  refine tw_newa (t := 0) (atype := .int) (ty := .int) (n' := 6) (a0 := (6, .inl (fun _ => 0))) F hH rfl (fun C h => by cases h) (tw_gl kw_47 rfl) rfl (fun _ => rfl) (by decide) (Nat.le_of_ble_eq_true rfl) (Nat.le_of_ble_eq_true rfl) (Nat.le_of_ble_eq_true rfl) dX12_init_118 (fun H locs ad162 w159 ha163 hw160 hne161 hH => ?_)
  have hw164 : w159 0 = .inr (12, fs158) := (hne161 0 (nn_ne rfl)).trans (hw155)
  have ha168 : ad162 0 = ad 0 := ((ha163 0 (nn_lt rfl)).trans ha157)
  refine tw_putF (r := 0) F hH kf_RX12_118 kp_X12_19 hin rfl ha168 (by decide) hw164 (Nat.lt_of_le_of_lt (by decide) hfs158) rfl rfl dX12_init_120 (fun H locs w165 hw166 hne167 hH => ?_)
  obtain ⟨fs169, efs169⟩ : ∃ z : List Value, z = List.set fs158 19 (.ref (ad162 14)) := ⟨_, rfl⟩
  rw [← efs169] at hw166
  have hfs169 : 96 < fs169.length := by rw [efs169, List.length_set]; exact hfs158
  have ha170 : ad162 7 = ad87 7 := (((((((ha163 7 (nn_lt rfl)).trans (ha152 7 (nn_lt rfl))).trans (ha141 7 (nn_lt rfl))).trans (ha130 7 (nn_lt rfl))).trans (ha119 7 (nn_lt rfl))).trans (ha108 7 (nn_lt rfl))).trans (ha98 7 (nn_lt rfl)))
  have ha171 : ad162 8 = ad97 8 := ((((((ha163 8 (nn_lt rfl)).trans (ha152 8 (nn_lt rfl))).trans (ha141 8 (nn_lt rfl))).trans (ha130 8 (nn_lt rfl))).trans (ha119 8 (nn_lt rfl))).trans (ha108 8 (nn_lt rfl)))
  have ha172 : ad162 9 = ad107 9 := (((((ha163 9 (nn_lt rfl)).trans (ha152 9 (nn_lt rfl))).trans (ha141 9 (nn_lt rfl))).trans (ha130 9 (nn_lt rfl))).trans (ha119 9 (nn_lt rfl)))
  have ha173 : ad162 10 = ad118 10 := ((((ha163 10 (nn_lt rfl)).trans (ha152 10 (nn_lt rfl))).trans (ha141 10 (nn_lt rfl))).trans (ha130 10 (nn_lt rfl)))
  have ha174 : ad162 11 = ad129 11 := (((ha163 11 (nn_lt rfl)).trans (ha152 11 (nn_lt rfl))).trans (ha141 11 (nn_lt rfl)))
  have ha175 : ad162 12 = ad140 12 := ((ha163 12 (nn_lt rfl)).trans (ha152 12 (nn_lt rfl)))
  have ha176 : ad162 13 = ad151 13 := (ha163 13 (nn_lt rfl))
  have hw177 : w165 0 = .inr (12, mo_2 G ad162) := by rw [hw166]; rw [efs169, efs158, efs147, efs136, efs125, efs114, efs103, efs93]; rw [mo_1_c (a := adS1) (b := ad162) (fun j hj => ((((((((ha163 j (by omega)).trans (ha152 j (by omega))).trans (ha141 j (by omega))).trans (ha130 j (by omega))).trans (ha119 j (by omega))).trans (ha108 j (by omega))).trans (ha98 j (by omega))).trans (ha88 j (by omega))).symm)]; rw [show ad87 7 = ad162 7 from ha170.symm, show ad97 8 = ad162 8 from ha171.symm, show ad107 9 = ad162 9 from ha172.symm, show ad118 10 = ad162 10 from ha173.symm, show ad129 11 = ad162 11 from ha174.symm, show ad140 12 = ad162 12 from ha175.symm, show ad151 13 = ad162 13 from ha176.symm]; rfl
  have hall1_w165 : ∀ k : Nat, 1 ≤ k → k ≤ 6 → w165 k = wS1 k := fun k h1 h2 => (hne167 k (by omega)).trans ((hne161 k (by omega)).trans ((hne156 k (by omega)).trans ((hne150 k (by omega)).trans ((hne145 k (by omega)).trans ((hne139 k (by omega)).trans ((hne134 k (by omega)).trans ((hne128 k (by omega)).trans ((hne123 k (by omega)).trans ((hne117 k (by omega)).trans ((hne112 k (by omega)).trans ((hne106 k (by omega)).trans ((hne102 k (by omega)).trans ((hne96 k (by omega)).trans ((hne92 k (by omega)).trans ((hne86 k (by omega)))))))))))))))))
  have hw178 : w165 1 = .inl (G.2.1 0, 5, .inl (fun _ => 0)) := (hall1_w165 1 (by decide) (by decide)).trans f1_1
  have hw179 : w165 2 = .inl (G.2.1 0, 5, .inl (fun _ => 0)) := (hall1_w165 2 (by decide) (by decide)).trans f1_2
  have hw180 : w165 3 = .inl (G.2.1 1, 5, .inl (fun _ => 0)) := (hall1_w165 3 (by decide) (by decide)).trans f1_3
  have hw181 : w165 4 = .inl (G.2.1 0, 24, .inl (fun _ => 0)) := (hall1_w165 4 (by decide) (by decide)).trans f1_4
  have hw182 : w165 5 = .inl (G.2.1 0, 8, .inl (fun _ => 0)) := (hall1_w165 5 (by decide) (by decide)).trans f1_5
  have hw183 : w165 6 = .inl (G.2.1 0, 30, .inl (fun _ => 0)) := (hall1_w165 6 (by decide) (by decide)).trans f1_6
  have hw184 : w165 7 = .inl (G.2.1 0, 30, .inl (fun _ => 0)) := (hne167 7 (nn_ne rfl)).trans ((hne161 7 (nn_ne rfl)).trans ((hne156 7 (nn_ne rfl)).trans ((hne150 7 (nn_ne rfl)).trans ((hne145 7 (nn_ne rfl)).trans ((hne139 7 (nn_ne rfl)).trans ((hne134 7 (nn_ne rfl)).trans ((hne128 7 (nn_ne rfl)).trans ((hne123 7 (nn_ne rfl)).trans ((hne117 7 (nn_ne rfl)).trans ((hne112 7 (nn_ne rfl)).trans ((hne106 7 (nn_ne rfl)).trans ((hne102 7 (nn_ne rfl)).trans ((hne96 7 (nn_ne rfl)).trans ((hne92 7 (nn_ne rfl)).trans (hw85)))))))))))))))
  have hw185 : w165 8 = .inl (G.2.1 0, 30, .inl (fun _ => 0)) := (hne167 8 (nn_ne rfl)).trans ((hne161 8 (nn_ne rfl)).trans ((hne156 8 (nn_ne rfl)).trans ((hne150 8 (nn_ne rfl)).trans ((hne145 8 (nn_ne rfl)).trans ((hne139 8 (nn_ne rfl)).trans ((hne134 8 (nn_ne rfl)).trans ((hne128 8 (nn_ne rfl)).trans ((hne123 8 (nn_ne rfl)).trans ((hne117 8 (nn_ne rfl)).trans ((hne112 8 (nn_ne rfl)).trans ((hne106 8 (nn_ne rfl)).trans ((hne102 8 (nn_ne rfl)).trans (hw95)))))))))))))
  have hw186 : w165 9 = .inl (G.2.1 0, 20, .inl (fun _ => 0)) := (hne167 9 (nn_ne rfl)).trans ((hne161 9 (nn_ne rfl)).trans ((hne156 9 (nn_ne rfl)).trans ((hne150 9 (nn_ne rfl)).trans ((hne145 9 (nn_ne rfl)).trans ((hne139 9 (nn_ne rfl)).trans ((hne134 9 (nn_ne rfl)).trans ((hne128 9 (nn_ne rfl)).trans ((hne123 9 (nn_ne rfl)).trans ((hne117 9 (nn_ne rfl)).trans ((hne112 9 (nn_ne rfl)).trans (hw105)))))))))))
  have hw187 : w165 10 = .inl (G.2.1 0, 20, .inl (fun _ => 0)) := (hne167 10 (nn_ne rfl)).trans ((hne161 10 (nn_ne rfl)).trans ((hne156 10 (nn_ne rfl)).trans ((hne150 10 (nn_ne rfl)).trans ((hne145 10 (nn_ne rfl)).trans ((hne139 10 (nn_ne rfl)).trans ((hne134 10 (nn_ne rfl)).trans ((hne128 10 (nn_ne rfl)).trans ((hne123 10 (nn_ne rfl)).trans (hw116)))))))))
  have hw188 : w165 11 = .inl (G.2.1 0, 20, .inl (fun _ => 0)) := (hne167 11 (nn_ne rfl)).trans ((hne161 11 (nn_ne rfl)).trans ((hne156 11 (nn_ne rfl)).trans ((hne150 11 (nn_ne rfl)).trans ((hne145 11 (nn_ne rfl)).trans ((hne139 11 (nn_ne rfl)).trans ((hne134 11 (nn_ne rfl)).trans (hw127)))))))
  have hw189 : w165 12 = .inl (G.2.1 0, 20, .inl (fun _ => 0)) := (hne167 12 (nn_ne rfl)).trans ((hne161 12 (nn_ne rfl)).trans ((hne156 12 (nn_ne rfl)).trans ((hne150 12 (nn_ne rfl)).trans ((hne145 12 (nn_ne rfl)).trans (hw138)))))
  have hw190 : w165 13 = .inl (G.2.1 0, 6, .inl (fun _ => 0)) := (hne167 13 (nn_ne rfl)).trans ((hne161 13 (nn_ne rfl)).trans ((hne156 13 (nn_ne rfl)).trans (hw149)))
  have hw191 : w165 14 = .inl (G.2.1 0, 6, .inl (fun _ => 0)) := (hne167 14 (nn_ne rfl)).trans (hw160)
  exact kk H locs ad162 w165 ls (fun k hk => (((((((((ha163 k (by omega)).trans (ha152 k (by omega))).trans (ha141 k (by omega))).trans (ha130 k (by omega))).trans (ha119 k (by omega))).trans (ha108 k (by omega))).trans (ha98 k (by omega))).trans (ha88 k (by omega)))).trans (hz1 k (by omega))) hw177 hw178 hw179 hw180 hw181 hw182 hw183 hw184 hw185 hw186 hw187 hw188 hw189 hw190 hw191 hH hl

def mo_3 (G : tw_G) (a : Nat → Nat) : List Value := [.int (0 : Int32), .int (2 : Int32), .int (1 : Int32), .ref (a 1), .ref (a 2), .ref (a 3), .ref (a 4), .ref (a 5), .int (0 : Int32), .ref (a 6), .ref (a 7), .ref (a 8), .int (0 : Int32), .ref (a 9), .ref (a 10), .ref (a 11), .ref (a 12), .int (0 : Int32), .ref (a 13), .ref (a 14), .ref (a 15), .ref (a 16), .ref (a 17), .ref (a 18), .ref (a 19), .ref (a 20), .ref (a 21), .ref (a 22), .null, .null, .null, .null, .null, .null, .null, .null, .null, .null, .null, .null, .int (0 : Int32), .int (0 : Int32), .int (0 : Int32), .null, .null, .null, .null, .int (0 : Int32), .null, .null, .null, .null, .null, .null, .null, .null, .null, .null, .null, .null, .null, .null, .null, .null, .null, .null, .null, .null, .null, .null, .int (0 : Int32), .null, .int (0 : Int32), .null, .null, .int (0 : Int32), .null, .null, .null, .null, .null, .null, .int (0 : Int32), .null, .null, .null, .null, .null, .int (0 : Int32), .int (0 : Int32), .int (0 : Int32), .null, .null, .null, .null, .null, .null]
theorem mo_3_c {G : tw_G} {a b : Nat → Nat} (h : ∀ j, j < 23 → a j = b j) : mo_3 G a = mo_3 G b := by
  unfold mo_3
  rw [h 1 (by decide), h 2 (by decide), h 3 (by decide), h 4 (by decide), h 5 (by decide), h 6 (by decide), h 7 (by decide), h 8 (by decide), h 9 (by decide), h 10 (by decide), h 11 (by decide), h 12 (by decide), h 13 (by decide), h 14 (by decide), h 15 (by decide), h 16 (by decide), h 17 (by decide), h 18 (by decide), h 19 (by decide), h 20 (by decide), h 21 (by decide), h 22 (by decide)]
theorem hmo_3 (G : tw_G) (a : Nat → Nat) : 96 < (mo_3 G a).length := Nat.le_of_ble_eq_true rfl
set_option maxHeartbeats 20000000 in
set_option maxRecDepth 100000 in
theorem c_X12_init_s3 {p : Program} {l : Launch} {e : Env} {s : State} {m : MethodId} {args : Array Value} {below : List Frame} {meth : Method} {c : Code} {G : tw_G} {A : Nat → Prop} {Q : State → Prop} {H : Heap} {locs : List Loc} {ls : Array Slot} {ad adS2 : Nat → Nat} {wS2 : Nat → va_E} (F : tw_F p m c cX12_init 2 s args RX12 G A) (hin : meth.name = "<init>") (hz2 : ∀ k, k < 1 → adS2 k = ad k) (f2_0 : wS2 0 = .inr (12, mo_2 G adS2)) (f2_1 : wS2 1 = .inl (G.2.1 0, 5, .inl (fun _ => 0))) (f2_2 : wS2 2 = .inl (G.2.1 0, 5, .inl (fun _ => 0))) (f2_3 : wS2 3 = .inl (G.2.1 1, 5, .inl (fun _ => 0))) (f2_4 : wS2 4 = .inl (G.2.1 0, 24, .inl (fun _ => 0))) (f2_5 : wS2 5 = .inl (G.2.1 0, 8, .inl (fun _ => 0))) (f2_6 : wS2 6 = .inl (G.2.1 0, 30, .inl (fun _ => 0))) (f2_7 : wS2 7 = .inl (G.2.1 0, 30, .inl (fun _ => 0))) (f2_8 : wS2 8 = .inl (G.2.1 0, 30, .inl (fun _ => 0))) (f2_9 : wS2 9 = .inl (G.2.1 0, 20, .inl (fun _ => 0))) (f2_10 : wS2 10 = .inl (G.2.1 0, 20, .inl (fun _ => 0))) (f2_11 : wS2 11 = .inl (G.2.1 0, 20, .inl (fun _ => 0))) (f2_12 : wS2 12 = .inl (G.2.1 0, 20, .inl (fun _ => 0))) (f2_13 : wS2 13 = .inl (G.2.1 0, 6, .inl (fun _ => 0))) (f2_14 : wS2 14 = .inl (G.2.1 0, 6, .inl (fun _ => 0))) (hH : tw_H G 15 adS2 wS2 A s H locs) (hl : lv_has ls 2 [(0, .ref (ad 0))]) (kk : ∀ (H : Heap) (locs : List Loc) (ad1 : Nat → Nat) (w1 : Nat → va_E) (ls : Array Slot), (∀ k, k < 1 → ad1 k = ad k) → w1 0 = .inr (12, mo_3 G ad1) → w1 1 = .inl (G.2.1 0, 5, .inl (fun _ => 0)) → w1 2 = .inl (G.2.1 0, 5, .inl (fun _ => 0)) → w1 3 = .inl (G.2.1 1, 5, .inl (fun _ => 0)) → w1 4 = .inl (G.2.1 0, 24, .inl (fun _ => 0)) → w1 5 = .inl (G.2.1 0, 8, .inl (fun _ => 0)) → w1 6 = .inl (G.2.1 0, 30, .inl (fun _ => 0)) → w1 7 = .inl (G.2.1 0, 30, .inl (fun _ => 0)) → w1 8 = .inl (G.2.1 0, 30, .inl (fun _ => 0)) → w1 9 = .inl (G.2.1 0, 20, .inl (fun _ => 0)) → w1 10 = .inl (G.2.1 0, 20, .inl (fun _ => 0)) → w1 11 = .inl (G.2.1 0, 20, .inl (fun _ => 0)) → w1 12 = .inl (G.2.1 0, 20, .inl (fun _ => 0)) → w1 13 = .inl (G.2.1 0, 6, .inl (fun _ => 0)) → w1 14 = .inl (G.2.1 0, 6, .inl (fun _ => 0)) → w1 15 = .inl (G.2.1 0, 6, .inl (fun _ => 0)) → w1 16 = .inl (G.2.1 0, 6, .inl (fun _ => 0)) → w1 17 = .inl (G.2.1 0, 6, .inl (fun _ => 0)) → w1 18 = .inl (G.2.1 0, 6, .inl (fun _ => 0)) → w1 19 = .inl (G.2.1 0, 6, .inl (fun _ => 0)) → w1 20 = .inl (G.2.1 0, 24, .inl (fun _ => 0)) → w1 21 = .inl (G.2.1 0, 24, .inl (fun _ => 0)) → w1 22 = .inl (G.2.1 0, 6, .inl (fun _ => 0)) → tw_H G 23 ad1 w1 A s H locs → lv_has ls 2 [(0, .ref (ad 0))] → W p l e ({ frames := 1, cells := 79, slots := 3514, locals := 23 }) s m args below meth c H locs 22 313 Q (F0 m 187 ls [])) : W p l e ({ frames := 1, cells := 79, slots := 3514, locals := 23 }) s m args below meth c H locs 14 229 Q (F0 m 123 ls []) := by
  have hx := F.1.1
  have hb := F.1.2.1
  have hown := F.1.2.2.2.1
  have hts := F.1.2.2.2.2
  refine lv_aload_n hx hb dX12_init_123 rfl (lv_at hl 0 rfl) ?_
  refine lv_bipush (v := 6) hx hb dX12_init_124 (by decide) ?_
  refine tw_newa (t := 0) (atype := .int) (ty := .int) (n' := 6) (a0 := (6, .inl (fun _ => 0))) F hH rfl (fun C h => by cases h) (tw_gl kw_47 rfl) rfl (fun _ => rfl) (by decide) (Nat.le_of_ble_eq_true rfl) (Nat.le_of_ble_eq_true rfl) (Nat.le_of_ble_eq_true rfl) dX12_init_126 (fun H locs ad195 w192 ha196 hw193 hne194 hH => ?_)
  have hw197 : w192 0 = .inr (12, (mo_2 G adS2)) := (hne194 0 (nn_ne rfl)).trans (f2_0)
  refine tw_putF (r := 0) F hH kf_RX12_121 kp_X12_20 hin rfl ((ha196 0 (nn_lt rfl)).trans (hz2 0 (nn_lt rfl))) (by decide) hw197 (Nat.lt_of_le_of_lt (by decide) (hmo_2 G adS2)) rfl rfl dX12_init_128 (fun H locs w198 hw199 hne200 hH => ?_)
  obtain ⟨fs201, efs201⟩ : ∃ z : List Value, z = List.set (mo_2 G adS2) 20 (.ref (ad195 15)) := ⟨_, rfl⟩
  rw [← efs201] at hw199
  have hfs201 : 96 < fs201.length := by rw [efs201, List.length_set]; exact (hmo_2 G adS2)
  refine lv_aload_n hx hb dX12_init_131 rfl (lv_at hl 0 rfl) ?_
  refine lv_bipush (v := 6) hx hb dX12_init_132 (by decide) ?_
  refine tw_newa (t := 0) (atype := .int) (ty := .int) (n' := 6) (a0 := (6, .inl (fun _ => 0))) F hH rfl (fun C h => by cases h) (tw_gl kw_47 rfl) rfl (fun _ => rfl) (by decide) (Nat.le_of_ble_eq_true rfl) (Nat.le_of_ble_eq_true rfl) (Nat.le_of_ble_eq_true rfl) dX12_init_134 (fun H locs ad205 w202 ha206 hw203 hne204 hH => ?_)
  have hw207 : w202 0 = .inr (12, fs201) := (hne204 0 (nn_ne rfl)).trans (hw199)
  refine tw_putF (r := 0) F hH kf_RX12_124 kp_X12_21 hin rfl (((ha206 0 (nn_lt rfl)).trans (ha196 0 (nn_lt rfl))).trans (hz2 0 (nn_lt rfl))) (by decide) hw207 (Nat.lt_of_le_of_lt (by decide) hfs201) rfl rfl dX12_init_136 (fun H locs w208 hw209 hne210 hH => ?_)
  obtain ⟨fs211, efs211⟩ : ∃ z : List Value, z = List.set fs201 21 (.ref (ad205 16)) := ⟨_, rfl⟩
  rw [← efs211] at hw209
  have hfs211 : 96 < fs211.length := by rw [efs211, List.length_set]; exact hfs201
  refine lv_aload_n hx hb dX12_init_139 rfl (lv_at hl 0 rfl) ?_
  refine lv_bipush (v := 6) hx hb dX12_init_140 (by decide) ?_
  refine tw_newa (t := 0) (atype := .int) (ty := .int) (n' := 6) (a0 := (6, .inl (fun _ => 0))) F hH rfl (fun C h => by cases h) (tw_gl kw_47 rfl) rfl (fun _ => rfl) (by decide) (Nat.le_of_ble_eq_true rfl) (Nat.le_of_ble_eq_true rfl) (Nat.le_of_ble_eq_true rfl) dX12_init_142 (fun H locs ad215 w212 ha216 hw213 hne214 hH => ?_)
  have hw217 : w212 0 = .inr (12, fs211) := (hne214 0 (nn_ne rfl)).trans (hw209)
  have ha221 : ad215 0 = ad 0 := ((((ha216 0 (nn_lt rfl)).trans (ha206 0 (nn_lt rfl))).trans (ha196 0 (nn_lt rfl))).trans (hz2 0 (nn_lt rfl)))
  refine tw_putF (r := 0) F hH kf_RX12_127 kp_X12_22 hin rfl ha221 (by decide) hw217 (Nat.lt_of_le_of_lt (by decide) hfs211) rfl rfl dX12_init_144 (fun H locs w218 hw219 hne220 hH => ?_)
  obtain ⟨fs222, efs222⟩ : ∃ z : List Value, z = List.set fs211 22 (.ref (ad215 17)) := ⟨_, rfl⟩
  rw [← efs222] at hw219
  have hfs222 : 96 < fs222.length := by rw [efs222, List.length_set]; exact hfs211
  refine lv_aload_n hx hb dX12_init_147 rfl (lv_at hl 0 rfl) ?_
  refine lv_bipush (v := 6) hx hb dX12_init_148 (by decide) ?_
  refine tw_newa (t := 0) (atype := .int) (ty := .int) (n' := 6) (a0 := (6, .inl (fun _ => 0))) F hH rfl (fun C h => by cases h) (tw_gl kw_47 rfl) rfl (fun _ => rfl) (by decide) (Nat.le_of_ble_eq_true rfl) (Nat.le_of_ble_eq_true rfl) (Nat.le_of_ble_eq_true rfl) dX12_init_150 (fun H locs ad226 w223 ha227 hw224 hne225 hH => ?_)
  have hw228 : w223 0 = .inr (12, fs222) := (hne225 0 (nn_ne rfl)).trans (hw219)
  have ha232 : ad226 0 = ad 0 := ((ha227 0 (nn_lt rfl)).trans ha221)
  refine tw_putF (r := 0) F hH kf_RX12_130 kp_X12_23 hin rfl ha232 (by decide) hw228 (Nat.lt_of_le_of_lt (by decide) hfs222) rfl rfl dX12_init_152 (fun H locs w229 hw230 hne231 hH => ?_)
  obtain ⟨fs233, efs233⟩ : ∃ z : List Value, z = List.set fs222 23 (.ref (ad226 18)) := ⟨_, rfl⟩
  rw [← efs233] at hw230
  have hfs233 : 96 < fs233.length := by rw [efs233, List.length_set]; exact hfs222
  refine lv_aload_n hx hb dX12_init_155 rfl (lv_at hl 0 rfl) ?_
  refine lv_bipush (v := 6) hx hb dX12_init_156 (by decide) ?_
  refine tw_newa (t := 0) (atype := .int) (ty := .int) (n' := 6) (a0 := (6, .inl (fun _ => 0))) F hH rfl (fun C h => by cases h) (tw_gl kw_47 rfl) rfl (fun _ => rfl) (by decide) (Nat.le_of_ble_eq_true rfl) (Nat.le_of_ble_eq_true rfl) (Nat.le_of_ble_eq_true rfl) dX12_init_158 (fun H locs ad237 w234 ha238 hw235 hne236 hH => ?_)
  have hw239 : w234 0 = .inr (12, fs233) := (hne236 0 (nn_ne rfl)).trans (hw230)
  have ha243 : ad237 0 = ad 0 := ((ha238 0 (nn_lt rfl)).trans ha232)
  refine tw_putF (r := 0) F hH kf_RX12_133 kp_X12_24 hin rfl ha243 (by decide) hw239 (Nat.lt_of_le_of_lt (by decide) hfs233) rfl rfl dX12_init_160 (fun H locs w240 hw241 hne242 hH => ?_)
  obtain ⟨fs244, efs244⟩ : ∃ z : List Value, z = List.set fs233 24 (.ref (ad237 19)) := ⟨_, rfl⟩
  rw [← efs244] at hw241
  have hfs244 : 96 < fs244.length := by rw [efs244, List.length_set]; exact hfs233
  refine lv_aload_n hx hb dX12_init_163 rfl (lv_at hl 0 rfl) ?_
  refine lv_bipush (v := 24) hx hb dX12_init_164 (by decide) ?_
  refine tw_newa (t := 0) (atype := .int) (ty := .int) (n' := 24) (a0 := (24, .inl (fun _ => 0))) F hH rfl (fun C h => by cases h) (tw_gl kw_47 rfl) rfl (fun _ => rfl) (by decide) (Nat.le_of_ble_eq_true rfl) (Nat.le_of_ble_eq_true rfl) (Nat.le_of_ble_eq_true rfl) dX12_init_166 (fun H locs ad248 w245 ha249 hw246 hne247 hH => ?_)
  have hw250 : w245 0 = .inr (12, fs244) := (hne247 0 (nn_ne rfl)).trans (hw241)
  have ha254 : ad248 0 = ad 0 := ((ha249 0 (nn_lt rfl)).trans ha243)
  refine tw_putF (r := 0) F hH kf_RX12_148 kp_X12_25 hin rfl ha254 (by decide) hw250 (Nat.lt_of_le_of_lt (by decide) hfs244) rfl rfl dX12_init_168 (fun H locs w251 hw252 hne253 hH => ?_)
  obtain ⟨fs255, efs255⟩ : ∃ z : List Value, z = List.set fs244 25 (.ref (ad248 20)) := ⟨_, rfl⟩
  rw [← efs255] at hw252
  have hfs255 : 96 < fs255.length := by rw [efs255, List.length_set]; exact hfs244
  refine lv_aload_n hx hb dX12_init_171 rfl (lv_at hl 0 rfl) ?_
  refine lv_bipush (v := 24) hx hb dX12_init_172 (by decide) ?_
  refine tw_newa (t := 0) (atype := .int) (ty := .int) (n' := 24) (a0 := (24, .inl (fun _ => 0))) F hH rfl (fun C h => by cases h) (tw_gl kw_47 rfl) rfl (fun _ => rfl) (by decide) (Nat.le_of_ble_eq_true rfl) (Nat.le_of_ble_eq_true rfl) (Nat.le_of_ble_eq_true rfl) dX12_init_174 (fun H locs ad259 w256 ha260 hw257 hne258 hH => ?_)
  have hw261 : w256 0 = .inr (12, fs255) := (hne258 0 (nn_ne rfl)).trans (hw252)
  have ha265 : ad259 0 = ad 0 := ((ha260 0 (nn_lt rfl)).trans ha254)
  refine tw_putF (r := 0) F hH kf_RX12_151 kp_X12_26 hin rfl ha265 (by decide) hw261 (Nat.lt_of_le_of_lt (by decide) hfs255) rfl rfl dX12_init_176 (fun H locs w262 hw263 hne264 hH => ?_)
  obtain ⟨fs266, efs266⟩ : ∃ z : List Value, z = List.set fs255 26 (.ref (ad259 21)) := ⟨_, rfl⟩
  rw [← efs266] at hw263
  have hfs266 : 96 < fs266.length := by rw [efs266, List.length_set]; exact hfs255
  refine lv_aload_n hx hb dX12_init_179 rfl (lv_at hl 0 rfl) ?_
  refine lv_bipush (v := 6) hx hb dX12_init_180 (by decide) ?_
  refine tw_newa (t := 0) (atype := .int) (ty := .int) (n' := 6) (a0 := (6, .inl (fun _ => 0))) F hH rfl (fun C h => by cases h) (tw_gl kw_47 rfl) rfl (fun _ => rfl) (by decide) (Nat.le_of_ble_eq_true rfl) (Nat.le_of_ble_eq_true rfl) (Nat.le_of_ble_eq_true rfl) dX12_init_182 (fun H locs ad270 w267 ha271 hw268 hne269 hH => ?_)
  have hw272 : w267 0 = .inr (12, fs266) := (hne269 0 (nn_ne rfl)).trans (hw263)
  have ha276 : ad270 0 = ad 0 := ((ha271 0 (nn_lt rfl)).trans ha265)
  refine tw_putF (r := 0) F hH kf_RX12_136 kp_X12_27 hin rfl ha276 (by decide) hw272 (Nat.lt_of_le_of_lt (by decide) hfs266) rfl rfl dX12_init_184 (fun H locs w273 hw274 hne275 hH => ?_)
  obtain ⟨fs277, efs277⟩ : ∃ z : List Value, z = List.set fs266 27 (.ref (ad270 22)) := ⟨_, rfl⟩
  rw [← efs277] at hw274
  have hfs277 : 96 < fs277.length := by rw [efs277, List.length_set]; exact hfs266
  have ha278 : ad270 15 = ad195 15 := (((((((ha271 15 (nn_lt rfl)).trans (ha260 15 (nn_lt rfl))).trans (ha249 15 (nn_lt rfl))).trans (ha238 15 (nn_lt rfl))).trans (ha227 15 (nn_lt rfl))).trans (ha216 15 (nn_lt rfl))).trans (ha206 15 (nn_lt rfl)))
  have ha279 : ad270 16 = ad205 16 := ((((((ha271 16 (nn_lt rfl)).trans (ha260 16 (nn_lt rfl))).trans (ha249 16 (nn_lt rfl))).trans (ha238 16 (nn_lt rfl))).trans (ha227 16 (nn_lt rfl))).trans (ha216 16 (nn_lt rfl)))
  have ha280 : ad270 17 = ad215 17 := (((((ha271 17 (nn_lt rfl)).trans (ha260 17 (nn_lt rfl))).trans (ha249 17 (nn_lt rfl))).trans (ha238 17 (nn_lt rfl))).trans (ha227 17 (nn_lt rfl)))
  have ha281 : ad270 18 = ad226 18 := ((((ha271 18 (nn_lt rfl)).trans (ha260 18 (nn_lt rfl))).trans (ha249 18 (nn_lt rfl))).trans (ha238 18 (nn_lt rfl)))
  have ha282 : ad270 19 = ad237 19 := (((ha271 19 (nn_lt rfl)).trans (ha260 19 (nn_lt rfl))).trans (ha249 19 (nn_lt rfl)))
  have ha283 : ad270 20 = ad248 20 := ((ha271 20 (nn_lt rfl)).trans (ha260 20 (nn_lt rfl)))
  have ha284 : ad270 21 = ad259 21 := (ha271 21 (nn_lt rfl))
  have hw285 : w273 0 = .inr (12, mo_3 G ad270) := by rw [hw274]; rw [efs277, efs266, efs255, efs244, efs233, efs222, efs211, efs201]; rw [mo_2_c (a := adS2) (b := ad270) (fun j hj => ((((((((ha271 j (by omega)).trans (ha260 j (by omega))).trans (ha249 j (by omega))).trans (ha238 j (by omega))).trans (ha227 j (by omega))).trans (ha216 j (by omega))).trans (ha206 j (by omega))).trans (ha196 j (by omega))).symm)]; rw [show ad195 15 = ad270 15 from ha278.symm, show ad205 16 = ad270 16 from ha279.symm, show ad215 17 = ad270 17 from ha280.symm, show ad226 18 = ad270 18 from ha281.symm, show ad237 19 = ad270 19 from ha282.symm, show ad248 20 = ad270 20 from ha283.symm, show ad259 21 = ad270 21 from ha284.symm]; rfl
  have hall2_w273 : ∀ k : Nat, 1 ≤ k → k ≤ 14 → w273 k = wS2 k := fun k h1 h2 => (hne275 k (by omega)).trans ((hne269 k (by omega)).trans ((hne264 k (by omega)).trans ((hne258 k (by omega)).trans ((hne253 k (by omega)).trans ((hne247 k (by omega)).trans ((hne242 k (by omega)).trans ((hne236 k (by omega)).trans ((hne231 k (by omega)).trans ((hne225 k (by omega)).trans ((hne220 k (by omega)).trans ((hne214 k (by omega)).trans ((hne210 k (by omega)).trans ((hne204 k (by omega)).trans ((hne200 k (by omega)).trans ((hne194 k (by omega)))))))))))))))))
  have hw286 : w273 1 = .inl (G.2.1 0, 5, .inl (fun _ => 0)) := (hall2_w273 1 (by decide) (by decide)).trans f2_1
  have hw287 : w273 2 = .inl (G.2.1 0, 5, .inl (fun _ => 0)) := (hall2_w273 2 (by decide) (by decide)).trans f2_2
  have hw288 : w273 3 = .inl (G.2.1 1, 5, .inl (fun _ => 0)) := (hall2_w273 3 (by decide) (by decide)).trans f2_3
  have hw289 : w273 4 = .inl (G.2.1 0, 24, .inl (fun _ => 0)) := (hall2_w273 4 (by decide) (by decide)).trans f2_4
  have hw290 : w273 5 = .inl (G.2.1 0, 8, .inl (fun _ => 0)) := (hall2_w273 5 (by decide) (by decide)).trans f2_5
  have hw291 : w273 6 = .inl (G.2.1 0, 30, .inl (fun _ => 0)) := (hall2_w273 6 (by decide) (by decide)).trans f2_6
  have hw292 : w273 7 = .inl (G.2.1 0, 30, .inl (fun _ => 0)) := (hall2_w273 7 (by decide) (by decide)).trans f2_7
  have hw293 : w273 8 = .inl (G.2.1 0, 30, .inl (fun _ => 0)) := (hall2_w273 8 (by decide) (by decide)).trans f2_8
  have hw294 : w273 9 = .inl (G.2.1 0, 20, .inl (fun _ => 0)) := (hall2_w273 9 (by decide) (by decide)).trans f2_9
  have hw295 : w273 10 = .inl (G.2.1 0, 20, .inl (fun _ => 0)) := (hall2_w273 10 (by decide) (by decide)).trans f2_10
  have hw296 : w273 11 = .inl (G.2.1 0, 20, .inl (fun _ => 0)) := (hall2_w273 11 (by decide) (by decide)).trans f2_11
  have hw297 : w273 12 = .inl (G.2.1 0, 20, .inl (fun _ => 0)) := (hall2_w273 12 (by decide) (by decide)).trans f2_12
  have hw298 : w273 13 = .inl (G.2.1 0, 6, .inl (fun _ => 0)) := (hall2_w273 13 (by decide) (by decide)).trans f2_13
  have hw299 : w273 14 = .inl (G.2.1 0, 6, .inl (fun _ => 0)) := (hall2_w273 14 (by decide) (by decide)).trans f2_14
  have hw300 : w273 15 = .inl (G.2.1 0, 6, .inl (fun _ => 0)) := (hne275 15 (nn_ne rfl)).trans ((hne269 15 (nn_ne rfl)).trans ((hne264 15 (nn_ne rfl)).trans ((hne258 15 (nn_ne rfl)).trans ((hne253 15 (nn_ne rfl)).trans ((hne247 15 (nn_ne rfl)).trans ((hne242 15 (nn_ne rfl)).trans ((hne236 15 (nn_ne rfl)).trans ((hne231 15 (nn_ne rfl)).trans ((hne225 15 (nn_ne rfl)).trans ((hne220 15 (nn_ne rfl)).trans ((hne214 15 (nn_ne rfl)).trans ((hne210 15 (nn_ne rfl)).trans ((hne204 15 (nn_ne rfl)).trans ((hne200 15 (nn_ne rfl)).trans (hw193)))))))))))))))
  have hw301 : w273 16 = .inl (G.2.1 0, 6, .inl (fun _ => 0)) := (hne275 16 (nn_ne rfl)).trans ((hne269 16 (nn_ne rfl)).trans ((hne264 16 (nn_ne rfl)).trans ((hne258 16 (nn_ne rfl)).trans ((hne253 16 (nn_ne rfl)).trans ((hne247 16 (nn_ne rfl)).trans ((hne242 16 (nn_ne rfl)).trans ((hne236 16 (nn_ne rfl)).trans ((hne231 16 (nn_ne rfl)).trans ((hne225 16 (nn_ne rfl)).trans ((hne220 16 (nn_ne rfl)).trans ((hne214 16 (nn_ne rfl)).trans ((hne210 16 (nn_ne rfl)).trans (hw203)))))))))))))
  have hw302 : w273 17 = .inl (G.2.1 0, 6, .inl (fun _ => 0)) := (hne275 17 (nn_ne rfl)).trans ((hne269 17 (nn_ne rfl)).trans ((hne264 17 (nn_ne rfl)).trans ((hne258 17 (nn_ne rfl)).trans ((hne253 17 (nn_ne rfl)).trans ((hne247 17 (nn_ne rfl)).trans ((hne242 17 (nn_ne rfl)).trans ((hne236 17 (nn_ne rfl)).trans ((hne231 17 (nn_ne rfl)).trans ((hne225 17 (nn_ne rfl)).trans ((hne220 17 (nn_ne rfl)).trans (hw213)))))))))))
  have hw303 : w273 18 = .inl (G.2.1 0, 6, .inl (fun _ => 0)) := (hne275 18 (nn_ne rfl)).trans ((hne269 18 (nn_ne rfl)).trans ((hne264 18 (nn_ne rfl)).trans ((hne258 18 (nn_ne rfl)).trans ((hne253 18 (nn_ne rfl)).trans ((hne247 18 (nn_ne rfl)).trans ((hne242 18 (nn_ne rfl)).trans ((hne236 18 (nn_ne rfl)).trans ((hne231 18 (nn_ne rfl)).trans (hw224)))))))))
  have hw304 : w273 19 = .inl (G.2.1 0, 6, .inl (fun _ => 0)) := (hne275 19 (nn_ne rfl)).trans ((hne269 19 (nn_ne rfl)).trans ((hne264 19 (nn_ne rfl)).trans ((hne258 19 (nn_ne rfl)).trans ((hne253 19 (nn_ne rfl)).trans ((hne247 19 (nn_ne rfl)).trans ((hne242 19 (nn_ne rfl)).trans (hw235)))))))
  have hw305 : w273 20 = .inl (G.2.1 0, 24, .inl (fun _ => 0)) := (hne275 20 (nn_ne rfl)).trans ((hne269 20 (nn_ne rfl)).trans ((hne264 20 (nn_ne rfl)).trans ((hne258 20 (nn_ne rfl)).trans ((hne253 20 (nn_ne rfl)).trans (hw246)))))
  have hw306 : w273 21 = .inl (G.2.1 0, 24, .inl (fun _ => 0)) := (hne275 21 (nn_ne rfl)).trans ((hne269 21 (nn_ne rfl)).trans ((hne264 21 (nn_ne rfl)).trans (hw257)))
  have hw307 : w273 22 = .inl (G.2.1 0, 6, .inl (fun _ => 0)) := (hne275 22 (nn_ne rfl)).trans (hw268)
  exact kk H locs ad270 w273 ls (fun k hk => (((((((((ha271 k (by omega)).trans (ha260 k (by omega))).trans (ha249 k (by omega))).trans (ha238 k (by omega))).trans (ha227 k (by omega))).trans (ha216 k (by omega))).trans (ha206 k (by omega))).trans (ha196 k (by omega)))).trans (hz2 k (by omega))) hw285 hw286 hw287 hw288 hw289 hw290 hw291 hw292 hw293 hw294 hw295 hw296 hw297 hw298 hw299 hw300 hw301 hw302 hw303 hw304 hw305 hw306 hw307 hH hl

def mo_4 (G : tw_G) (a : Nat → Nat) : List Value := [.int (0 : Int32), .int (2 : Int32), .int (1 : Int32), .ref (a 1), .ref (a 2), .ref (a 3), .ref (a 4), .ref (a 5), .int (0 : Int32), .ref (a 6), .ref (a 7), .ref (a 8), .int (0 : Int32), .ref (a 9), .ref (a 10), .ref (a 11), .ref (a 12), .int (0 : Int32), .ref (a 13), .ref (a 14), .ref (a 15), .ref (a 16), .ref (a 17), .ref (a 18), .ref (a 19), .ref (a 20), .ref (a 21), .ref (a 22), .ref (a 23), .ref (a 24), .ref (a 25), .ref (a 26), .ref (a 27), .ref (a 28), .ref (a 29), .ref (a 30), .null, .null, .null, .null, .int (0 : Int32), .int (0 : Int32), .int (0 : Int32), .null, .null, .null, .null, .int (0 : Int32), .null, .null, .null, .null, .null, .null, .null, .null, .null, .null, .null, .null, .null, .null, .null, .null, .null, .null, .null, .null, .null, .null, .int (0 : Int32), .null, .int (0 : Int32), .null, .null, .int (0 : Int32), .null, .null, .null, .null, .null, .null, .int (0 : Int32), .null, .null, .null, .null, .null, .int (0 : Int32), .int (0 : Int32), .int (0 : Int32), .null, .null, .null, .null, .null, .null]
theorem mo_4_c {G : tw_G} {a b : Nat → Nat} (h : ∀ j, j < 31 → a j = b j) : mo_4 G a = mo_4 G b := by
  unfold mo_4
  rw [h 1 (by decide), h 2 (by decide), h 3 (by decide), h 4 (by decide), h 5 (by decide), h 6 (by decide), h 7 (by decide), h 8 (by decide), h 9 (by decide), h 10 (by decide), h 11 (by decide), h 12 (by decide), h 13 (by decide), h 14 (by decide), h 15 (by decide), h 16 (by decide), h 17 (by decide), h 18 (by decide), h 19 (by decide), h 20 (by decide), h 21 (by decide), h 22 (by decide), h 23 (by decide), h 24 (by decide), h 25 (by decide), h 26 (by decide), h 27 (by decide), h 28 (by decide), h 29 (by decide), h 30 (by decide)]
theorem hmo_4 (G : tw_G) (a : Nat → Nat) : 96 < (mo_4 G a).length := Nat.le_of_ble_eq_true rfl
set_option maxHeartbeats 20000000 in
set_option maxRecDepth 100000 in
theorem c_X12_init_s4 {p : Program} {l : Launch} {e : Env} {s : State} {m : MethodId} {args : Array Value} {below : List Frame} {meth : Method} {c : Code} {G : tw_G} {A : Nat → Prop} {Q : State → Prop} {H : Heap} {locs : List Loc} {ls : Array Slot} {ad adS3 : Nat → Nat} {wS3 : Nat → va_E} (F : tw_F p m c cX12_init 2 s args RX12 G A) (hin : meth.name = "<init>") (hz3 : ∀ k, k < 1 → adS3 k = ad k) (f3_0 : wS3 0 = .inr (12, mo_3 G adS3)) (f3_1 : wS3 1 = .inl (G.2.1 0, 5, .inl (fun _ => 0))) (f3_2 : wS3 2 = .inl (G.2.1 0, 5, .inl (fun _ => 0))) (f3_3 : wS3 3 = .inl (G.2.1 1, 5, .inl (fun _ => 0))) (f3_4 : wS3 4 = .inl (G.2.1 0, 24, .inl (fun _ => 0))) (f3_5 : wS3 5 = .inl (G.2.1 0, 8, .inl (fun _ => 0))) (f3_6 : wS3 6 = .inl (G.2.1 0, 30, .inl (fun _ => 0))) (f3_7 : wS3 7 = .inl (G.2.1 0, 30, .inl (fun _ => 0))) (f3_8 : wS3 8 = .inl (G.2.1 0, 30, .inl (fun _ => 0))) (f3_9 : wS3 9 = .inl (G.2.1 0, 20, .inl (fun _ => 0))) (f3_10 : wS3 10 = .inl (G.2.1 0, 20, .inl (fun _ => 0))) (f3_11 : wS3 11 = .inl (G.2.1 0, 20, .inl (fun _ => 0))) (f3_12 : wS3 12 = .inl (G.2.1 0, 20, .inl (fun _ => 0))) (f3_13 : wS3 13 = .inl (G.2.1 0, 6, .inl (fun _ => 0))) (f3_14 : wS3 14 = .inl (G.2.1 0, 6, .inl (fun _ => 0))) (f3_15 : wS3 15 = .inl (G.2.1 0, 6, .inl (fun _ => 0))) (f3_16 : wS3 16 = .inl (G.2.1 0, 6, .inl (fun _ => 0))) (f3_17 : wS3 17 = .inl (G.2.1 0, 6, .inl (fun _ => 0))) (f3_18 : wS3 18 = .inl (G.2.1 0, 6, .inl (fun _ => 0))) (f3_19 : wS3 19 = .inl (G.2.1 0, 6, .inl (fun _ => 0))) (f3_20 : wS3 20 = .inl (G.2.1 0, 24, .inl (fun _ => 0))) (f3_21 : wS3 21 = .inl (G.2.1 0, 24, .inl (fun _ => 0))) (f3_22 : wS3 22 = .inl (G.2.1 0, 6, .inl (fun _ => 0))) (hH : tw_H G 23 adS3 wS3 A s H locs) (hl : lv_has ls 2 [(0, .ref (ad 0))]) (kk : ∀ (H : Heap) (locs : List Loc) (ad1 : Nat → Nat) (w1 : Nat → va_E) (ls : Array Slot), (∀ k, k < 1 → ad1 k = ad k) → w1 0 = .inr (12, mo_4 G ad1) → w1 1 = .inl (G.2.1 0, 5, .inl (fun _ => 0)) → w1 2 = .inl (G.2.1 0, 5, .inl (fun _ => 0)) → w1 3 = .inl (G.2.1 1, 5, .inl (fun _ => 0)) → w1 4 = .inl (G.2.1 0, 24, .inl (fun _ => 0)) → w1 5 = .inl (G.2.1 0, 8, .inl (fun _ => 0)) → w1 6 = .inl (G.2.1 0, 30, .inl (fun _ => 0)) → w1 7 = .inl (G.2.1 0, 30, .inl (fun _ => 0)) → w1 8 = .inl (G.2.1 0, 30, .inl (fun _ => 0)) → w1 9 = .inl (G.2.1 0, 20, .inl (fun _ => 0)) → w1 10 = .inl (G.2.1 0, 20, .inl (fun _ => 0)) → w1 11 = .inl (G.2.1 0, 20, .inl (fun _ => 0)) → w1 12 = .inl (G.2.1 0, 20, .inl (fun _ => 0)) → w1 13 = .inl (G.2.1 0, 6, .inl (fun _ => 0)) → w1 14 = .inl (G.2.1 0, 6, .inl (fun _ => 0)) → w1 15 = .inl (G.2.1 0, 6, .inl (fun _ => 0)) → w1 16 = .inl (G.2.1 0, 6, .inl (fun _ => 0)) → w1 17 = .inl (G.2.1 0, 6, .inl (fun _ => 0)) → w1 18 = .inl (G.2.1 0, 6, .inl (fun _ => 0)) → w1 19 = .inl (G.2.1 0, 6, .inl (fun _ => 0)) → w1 20 = .inl (G.2.1 0, 24, .inl (fun _ => 0)) → w1 21 = .inl (G.2.1 0, 24, .inl (fun _ => 0)) → w1 22 = .inl (G.2.1 0, 6, .inl (fun _ => 0)) → w1 23 = .inl (G.2.1 0, 72, .inl (fun _ => 0)) → w1 24 = .inl (G.2.1 0, 72, .inl (fun _ => 0)) → w1 25 = .inl (G.2.1 0, 72, .inl (fun _ => 0)) → w1 26 = .inl (G.2.1 0, 6, .inl (fun _ => 0)) → w1 27 = .inl (G.2.1 0, 30, .inl (fun _ => 0)) → w1 28 = .inl (G.2.1 0, 30, .inl (fun _ => 0)) → w1 29 = .inl (G.2.1 0, 30, .inl (fun _ => 0)) → w1 30 = .inl (G.2.1 1, 6, .inl (fun _ => 0)) → tw_H G 31 ad1 w1 A s H locs → lv_has ls 2 [(0, .ref (ad 0))] → W p l e ({ frames := 1, cells := 79, slots := 3514, locals := 23 }) s m args below meth c H locs 30 631 Q (F0 m 251 ls [])) : W p l e ({ frames := 1, cells := 79, slots := 3514, locals := 23 }) s m args below meth c H locs 22 313 Q (F0 m 187 ls []) := by
  have hx := F.1.1
  have hb := F.1.2.1
  have hown := F.1.2.2.2.1
  have hts := F.1.2.2.2.2
  refine lv_aload_n hx hb dX12_init_187 rfl (lv_at hl 0 rfl) ?_
  refine lv_bipush (v := 72) hx hb dX12_init_188 (by decide) ?_
  refine tw_newa (t := 0) (atype := .int) (ty := .int) (n' := 72) (a0 := (72, .inl (fun _ => 0))) F hH rfl (fun C h => by cases h) (tw_gl kw_47 rfl) rfl (fun _ => rfl) (by decide) (Nat.le_of_ble_eq_true rfl) (Nat.le_of_ble_eq_true rfl) (Nat.le_of_ble_eq_true rfl) dX12_init_190 (fun H locs ad311 w308 ha312 hw309 hne310 hH => ?_)
  have hw313 : w308 0 = .inr (12, (mo_3 G adS3)) := (hne310 0 (nn_ne rfl)).trans (f3_0)
  refine tw_putF (r := 0) F hH kf_RX12_157 kp_X12_28 hin rfl ((ha312 0 (nn_lt rfl)).trans (hz3 0 (nn_lt rfl))) (by decide) hw313 (Nat.lt_of_le_of_lt (by decide) (hmo_3 G adS3)) rfl rfl dX12_init_192 (fun H locs w314 hw315 hne316 hH => ?_)
  obtain ⟨fs317, efs317⟩ : ∃ z : List Value, z = List.set (mo_3 G adS3) 28 (.ref (ad311 23)) := ⟨_, rfl⟩
  rw [← efs317] at hw315
  have hfs317 : 96 < fs317.length := by rw [efs317, List.length_set]; exact (hmo_3 G adS3)
  refine lv_aload_n hx hb dX12_init_195 rfl (lv_at hl 0 rfl) ?_
  refine lv_bipush (v := 72) hx hb dX12_init_196 (by decide) ?_
  refine tw_newa (t := 0) (atype := .int) (ty := .int) (n' := 72) (a0 := (72, .inl (fun _ => 0))) F hH rfl (fun C h => by cases h) (tw_gl kw_47 rfl) rfl (fun _ => rfl) (by decide) (Nat.le_of_ble_eq_true rfl) (Nat.le_of_ble_eq_true rfl) (Nat.le_of_ble_eq_true rfl) dX12_init_198 (fun H locs ad321 w318 ha322 hw319 hne320 hH => ?_)
  have hw323 : w318 0 = .inr (12, fs317) := (hne320 0 (nn_ne rfl)).trans (hw315)
  refine tw_putF (r := 0) F hH kf_RX12_160 kp_X12_29 hin rfl (((ha322 0 (nn_lt rfl)).trans (ha312 0 (nn_lt rfl))).trans (hz3 0 (nn_lt rfl))) (by decide) hw323 (Nat.lt_of_le_of_lt (by decide) hfs317) rfl rfl dX12_init_200 (fun H locs w324 hw325 hne326 hH => ?_)
  obtain ⟨fs327, efs327⟩ : ∃ z : List Value, z = List.set fs317 29 (.ref (ad321 24)) := ⟨_, rfl⟩
  rw [← efs327] at hw325
  have hfs327 : 96 < fs327.length := by rw [efs327, List.length_set]; exact hfs317
  refine lv_aload_n hx hb dX12_init_203 rfl (lv_at hl 0 rfl) ?_
  refine lv_bipush (v := 72) hx hb dX12_init_204 (by decide) ?_
  refine tw_newa (t := 0) (atype := .int) (ty := .int) (n' := 72) (a0 := (72, .inl (fun _ => 0))) F hH rfl (fun C h => by cases h) (tw_gl kw_47 rfl) rfl (fun _ => rfl) (by decide) (Nat.le_of_ble_eq_true rfl) (Nat.le_of_ble_eq_true rfl) (Nat.le_of_ble_eq_true rfl) dX12_init_206 (fun H locs ad331 w328 ha332 hw329 hne330 hH => ?_)
  have hw333 : w328 0 = .inr (12, fs327) := (hne330 0 (nn_ne rfl)).trans (hw325)
  have ha337 : ad331 0 = ad 0 := ((((ha332 0 (nn_lt rfl)).trans (ha322 0 (nn_lt rfl))).trans (ha312 0 (nn_lt rfl))).trans (hz3 0 (nn_lt rfl)))
  refine tw_putF (r := 0) F hH kf_RX12_163 kp_X12_30 hin rfl ha337 (by decide) hw333 (Nat.lt_of_le_of_lt (by decide) hfs327) rfl rfl dX12_init_208 (fun H locs w334 hw335 hne336 hH => ?_)
  obtain ⟨fs338, efs338⟩ : ∃ z : List Value, z = List.set fs327 30 (.ref (ad331 25)) := ⟨_, rfl⟩
  rw [← efs338] at hw335
  have hfs338 : 96 < fs338.length := by rw [efs338, List.length_set]; exact hfs327
  refine lv_aload_n hx hb dX12_init_211 rfl (lv_at hl 0 rfl) ?_
  refine lv_bipush (v := 6) hx hb dX12_init_212 (by decide) ?_
  refine tw_newa (t := 0) (atype := .int) (ty := .int) (n' := 6) (a0 := (6, .inl (fun _ => 0))) F hH rfl (fun C h => by cases h) (tw_gl kw_47 rfl) rfl (fun _ => rfl) (by decide) (Nat.le_of_ble_eq_true rfl) (Nat.le_of_ble_eq_true rfl) (Nat.le_of_ble_eq_true rfl) dX12_init_214 (fun H locs ad342 w339 ha343 hw340 hne341 hH => ?_)
  have hw344 : w339 0 = .inr (12, fs338) := (hne341 0 (nn_ne rfl)).trans (hw335)
  have ha348 : ad342 0 = ad 0 := ((ha343 0 (nn_lt rfl)).trans ha337)
  refine tw_putF (r := 0) F hH kf_RX12_139 kp_X12_31 hin rfl ha348 (by decide) hw344 (Nat.lt_of_le_of_lt (by decide) hfs338) rfl rfl dX12_init_216 (fun H locs w345 hw346 hne347 hH => ?_)
  obtain ⟨fs349, efs349⟩ : ∃ z : List Value, z = List.set fs338 31 (.ref (ad342 26)) := ⟨_, rfl⟩
  rw [← efs349] at hw346
  have hfs349 : 96 < fs349.length := by rw [efs349, List.length_set]; exact hfs338
  refine lv_aload_n hx hb dX12_init_219 rfl (lv_at hl 0 rfl) ?_
  refine lv_bipush (v := 30) hx hb dX12_init_220 (by decide) ?_
  refine tw_newa (t := 0) (atype := .int) (ty := .int) (n' := 30) (a0 := (30, .inl (fun _ => 0))) F hH rfl (fun C h => by cases h) (tw_gl kw_47 rfl) rfl (fun _ => rfl) (by decide) (Nat.le_of_ble_eq_true rfl) (Nat.le_of_ble_eq_true rfl) (Nat.le_of_ble_eq_true rfl) dX12_init_222 (fun H locs ad353 w350 ha354 hw351 hne352 hH => ?_)
  have hw355 : w350 0 = .inr (12, fs349) := (hne352 0 (nn_ne rfl)).trans (hw346)
  have ha359 : ad353 0 = ad 0 := ((ha354 0 (nn_lt rfl)).trans ha348)
  refine tw_putF (r := 0) F hH kf_RX12_176 kp_X12_32 hin rfl ha359 (by decide) hw355 (Nat.lt_of_le_of_lt (by decide) hfs349) rfl rfl dX12_init_224 (fun H locs w356 hw357 hne358 hH => ?_)
  obtain ⟨fs360, efs360⟩ : ∃ z : List Value, z = List.set fs349 32 (.ref (ad353 27)) := ⟨_, rfl⟩
  rw [← efs360] at hw357
  have hfs360 : 96 < fs360.length := by rw [efs360, List.length_set]; exact hfs349
  refine lv_aload_n hx hb dX12_init_227 rfl (lv_at hl 0 rfl) ?_
  refine lv_bipush (v := 30) hx hb dX12_init_228 (by decide) ?_
  refine tw_newa (t := 0) (atype := .int) (ty := .int) (n' := 30) (a0 := (30, .inl (fun _ => 0))) F hH rfl (fun C h => by cases h) (tw_gl kw_47 rfl) rfl (fun _ => rfl) (by decide) (Nat.le_of_ble_eq_true rfl) (Nat.le_of_ble_eq_true rfl) (Nat.le_of_ble_eq_true rfl) dX12_init_230 (fun H locs ad364 w361 ha365 hw362 hne363 hH => ?_)
  have hw366 : w361 0 = .inr (12, fs360) := (hne363 0 (nn_ne rfl)).trans (hw357)
  have ha370 : ad364 0 = ad 0 := ((ha365 0 (nn_lt rfl)).trans ha359)
  refine tw_putF (r := 0) F hH kf_RX12_179 kp_X12_33 hin rfl ha370 (by decide) hw366 (Nat.lt_of_le_of_lt (by decide) hfs360) rfl rfl dX12_init_232 (fun H locs w367 hw368 hne369 hH => ?_)
  obtain ⟨fs371, efs371⟩ : ∃ z : List Value, z = List.set fs360 33 (.ref (ad364 28)) := ⟨_, rfl⟩
  rw [← efs371] at hw368
  have hfs371 : 96 < fs371.length := by rw [efs371, List.length_set]; exact hfs360
  refine lv_aload_n hx hb dX12_init_235 rfl (lv_at hl 0 rfl) ?_
  refine lv_bipush (v := 30) hx hb dX12_init_236 (by decide) ?_
  refine tw_newa (t := 0) (atype := .int) (ty := .int) (n' := 30) (a0 := (30, .inl (fun _ => 0))) F hH rfl (fun C h => by cases h) (tw_gl kw_47 rfl) rfl (fun _ => rfl) (by decide) (Nat.le_of_ble_eq_true rfl) (Nat.le_of_ble_eq_true rfl) (Nat.le_of_ble_eq_true rfl) dX12_init_238 (fun H locs ad375 w372 ha376 hw373 hne374 hH => ?_)
  have hw377 : w372 0 = .inr (12, fs371) := (hne374 0 (nn_ne rfl)).trans (hw368)
  have ha381 : ad375 0 = ad 0 := ((ha376 0 (nn_lt rfl)).trans ha370)
  refine tw_putF (r := 0) F hH kf_RX12_182 kp_X12_34 hin rfl ha381 (by decide) hw377 (Nat.lt_of_le_of_lt (by decide) hfs371) rfl rfl dX12_init_240 (fun H locs w378 hw379 hne380 hH => ?_)
  obtain ⟨fs382, efs382⟩ : ∃ z : List Value, z = List.set fs371 34 (.ref (ad375 29)) := ⟨_, rfl⟩
  rw [← efs382] at hw379
  have hfs382 : 96 < fs382.length := by rw [efs382, List.length_set]; exact hfs371
  refine lv_aload_n hx hb dX12_init_243 rfl (lv_at hl 0 rfl) ?_
  refine lv_bipush (v := 6) hx hb dX12_init_244 (by decide) ?_
  refine tw_newa (t := 1) (atype := .boolean) (ty := .boolean) (n' := 6) (a0 := (6, .inl (fun _ => 0))) F hH rfl (fun C h => by cases h) (tw_gl kw_83 rfl) rfl (fun _ => rfl) (by decide) (Nat.le_of_ble_eq_true rfl) (Nat.le_of_ble_eq_true rfl) (Nat.le_of_ble_eq_true rfl) dX12_init_246 (fun H locs ad386 w383 ha387 hw384 hne385 hH => ?_)
  have hw388 : w383 0 = .inr (12, fs382) := (hne385 0 (nn_ne rfl)).trans (hw379)
  have ha392 : ad386 0 = ad 0 := ((ha387 0 (nn_lt rfl)).trans ha381)
  refine tw_putF (r := 0) F hH kf_RX12_142 kp_X12_35 hin rfl ha392 (by decide) hw388 (Nat.lt_of_le_of_lt (by decide) hfs382) rfl rfl dX12_init_248 (fun H locs w389 hw390 hne391 hH => ?_)
  obtain ⟨fs393, efs393⟩ : ∃ z : List Value, z = List.set fs382 35 (.ref (ad386 30)) := ⟨_, rfl⟩
  rw [← efs393] at hw390
  have hfs393 : 96 < fs393.length := by rw [efs393, List.length_set]; exact hfs382
  have ha394 : ad386 23 = ad311 23 := (((((((ha387 23 (nn_lt rfl)).trans (ha376 23 (nn_lt rfl))).trans (ha365 23 (nn_lt rfl))).trans (ha354 23 (nn_lt rfl))).trans (ha343 23 (nn_lt rfl))).trans (ha332 23 (nn_lt rfl))).trans (ha322 23 (nn_lt rfl)))
  have ha395 : ad386 24 = ad321 24 := ((((((ha387 24 (nn_lt rfl)).trans (ha376 24 (nn_lt rfl))).trans (ha365 24 (nn_lt rfl))).trans (ha354 24 (nn_lt rfl))).trans (ha343 24 (nn_lt rfl))).trans (ha332 24 (nn_lt rfl)))
  have ha396 : ad386 25 = ad331 25 := (((((ha387 25 (nn_lt rfl)).trans (ha376 25 (nn_lt rfl))).trans (ha365 25 (nn_lt rfl))).trans (ha354 25 (nn_lt rfl))).trans (ha343 25 (nn_lt rfl)))
  have ha397 : ad386 26 = ad342 26 := ((((ha387 26 (nn_lt rfl)).trans (ha376 26 (nn_lt rfl))).trans (ha365 26 (nn_lt rfl))).trans (ha354 26 (nn_lt rfl)))
  have ha398 : ad386 27 = ad353 27 := (((ha387 27 (nn_lt rfl)).trans (ha376 27 (nn_lt rfl))).trans (ha365 27 (nn_lt rfl)))
  have ha399 : ad386 28 = ad364 28 := ((ha387 28 (nn_lt rfl)).trans (ha376 28 (nn_lt rfl)))
  have ha400 : ad386 29 = ad375 29 := (ha387 29 (nn_lt rfl))
  have hw401 : w389 0 = .inr (12, mo_4 G ad386) := by rw [hw390]; rw [efs393, efs382, efs371, efs360, efs349, efs338, efs327, efs317]; rw [mo_3_c (a := adS3) (b := ad386) (fun j hj => ((((((((ha387 j (by omega)).trans (ha376 j (by omega))).trans (ha365 j (by omega))).trans (ha354 j (by omega))).trans (ha343 j (by omega))).trans (ha332 j (by omega))).trans (ha322 j (by omega))).trans (ha312 j (by omega))).symm)]; rw [show ad311 23 = ad386 23 from ha394.symm, show ad321 24 = ad386 24 from ha395.symm, show ad331 25 = ad386 25 from ha396.symm, show ad342 26 = ad386 26 from ha397.symm, show ad353 27 = ad386 27 from ha398.symm, show ad364 28 = ad386 28 from ha399.symm, show ad375 29 = ad386 29 from ha400.symm]; rfl
  have hall3_w389 : ∀ k : Nat, 1 ≤ k → k ≤ 22 → w389 k = wS3 k := fun k h1 h2 => (hne391 k (by omega)).trans ((hne385 k (by omega)).trans ((hne380 k (by omega)).trans ((hne374 k (by omega)).trans ((hne369 k (by omega)).trans ((hne363 k (by omega)).trans ((hne358 k (by omega)).trans ((hne352 k (by omega)).trans ((hne347 k (by omega)).trans ((hne341 k (by omega)).trans ((hne336 k (by omega)).trans ((hne330 k (by omega)).trans ((hne326 k (by omega)).trans ((hne320 k (by omega)).trans ((hne316 k (by omega)).trans ((hne310 k (by omega)))))))))))))))))
  have hw402 : w389 1 = .inl (G.2.1 0, 5, .inl (fun _ => 0)) := (hall3_w389 1 (by decide) (by decide)).trans f3_1
  have hw403 : w389 2 = .inl (G.2.1 0, 5, .inl (fun _ => 0)) := (hall3_w389 2 (by decide) (by decide)).trans f3_2
  have hw404 : w389 3 = .inl (G.2.1 1, 5, .inl (fun _ => 0)) := (hall3_w389 3 (by decide) (by decide)).trans f3_3
  have hw405 : w389 4 = .inl (G.2.1 0, 24, .inl (fun _ => 0)) := (hall3_w389 4 (by decide) (by decide)).trans f3_4
  have hw406 : w389 5 = .inl (G.2.1 0, 8, .inl (fun _ => 0)) := (hall3_w389 5 (by decide) (by decide)).trans f3_5
  have hw407 : w389 6 = .inl (G.2.1 0, 30, .inl (fun _ => 0)) := (hall3_w389 6 (by decide) (by decide)).trans f3_6
  have hw408 : w389 7 = .inl (G.2.1 0, 30, .inl (fun _ => 0)) := (hall3_w389 7 (by decide) (by decide)).trans f3_7
  have hw409 : w389 8 = .inl (G.2.1 0, 30, .inl (fun _ => 0)) := (hall3_w389 8 (by decide) (by decide)).trans f3_8
  have hw410 : w389 9 = .inl (G.2.1 0, 20, .inl (fun _ => 0)) := (hall3_w389 9 (by decide) (by decide)).trans f3_9
  have hw411 : w389 10 = .inl (G.2.1 0, 20, .inl (fun _ => 0)) := (hall3_w389 10 (by decide) (by decide)).trans f3_10
  have hw412 : w389 11 = .inl (G.2.1 0, 20, .inl (fun _ => 0)) := (hall3_w389 11 (by decide) (by decide)).trans f3_11
  have hw413 : w389 12 = .inl (G.2.1 0, 20, .inl (fun _ => 0)) := (hall3_w389 12 (by decide) (by decide)).trans f3_12
  have hw414 : w389 13 = .inl (G.2.1 0, 6, .inl (fun _ => 0)) := (hall3_w389 13 (by decide) (by decide)).trans f3_13
  have hw415 : w389 14 = .inl (G.2.1 0, 6, .inl (fun _ => 0)) := (hall3_w389 14 (by decide) (by decide)).trans f3_14
  have hw416 : w389 15 = .inl (G.2.1 0, 6, .inl (fun _ => 0)) := (hall3_w389 15 (by decide) (by decide)).trans f3_15
  have hw417 : w389 16 = .inl (G.2.1 0, 6, .inl (fun _ => 0)) := (hall3_w389 16 (by decide) (by decide)).trans f3_16
  have hw418 : w389 17 = .inl (G.2.1 0, 6, .inl (fun _ => 0)) := (hall3_w389 17 (by decide) (by decide)).trans f3_17
  have hw419 : w389 18 = .inl (G.2.1 0, 6, .inl (fun _ => 0)) := (hall3_w389 18 (by decide) (by decide)).trans f3_18
  have hw420 : w389 19 = .inl (G.2.1 0, 6, .inl (fun _ => 0)) := (hall3_w389 19 (by decide) (by decide)).trans f3_19
  have hw421 : w389 20 = .inl (G.2.1 0, 24, .inl (fun _ => 0)) := (hall3_w389 20 (by decide) (by decide)).trans f3_20
  have hw422 : w389 21 = .inl (G.2.1 0, 24, .inl (fun _ => 0)) := (hall3_w389 21 (by decide) (by decide)).trans f3_21
  have hw423 : w389 22 = .inl (G.2.1 0, 6, .inl (fun _ => 0)) := (hall3_w389 22 (by decide) (by decide)).trans f3_22
  have hw424 : w389 23 = .inl (G.2.1 0, 72, .inl (fun _ => 0)) := (hne391 23 (nn_ne rfl)).trans ((hne385 23 (nn_ne rfl)).trans ((hne380 23 (nn_ne rfl)).trans ((hne374 23 (nn_ne rfl)).trans ((hne369 23 (nn_ne rfl)).trans ((hne363 23 (nn_ne rfl)).trans ((hne358 23 (nn_ne rfl)).trans ((hne352 23 (nn_ne rfl)).trans ((hne347 23 (nn_ne rfl)).trans ((hne341 23 (nn_ne rfl)).trans ((hne336 23 (nn_ne rfl)).trans ((hne330 23 (nn_ne rfl)).trans ((hne326 23 (nn_ne rfl)).trans ((hne320 23 (nn_ne rfl)).trans ((hne316 23 (nn_ne rfl)).trans (hw309)))))))))))))))
  have hw425 : w389 24 = .inl (G.2.1 0, 72, .inl (fun _ => 0)) := (hne391 24 (nn_ne rfl)).trans ((hne385 24 (nn_ne rfl)).trans ((hne380 24 (nn_ne rfl)).trans ((hne374 24 (nn_ne rfl)).trans ((hne369 24 (nn_ne rfl)).trans ((hne363 24 (nn_ne rfl)).trans ((hne358 24 (nn_ne rfl)).trans ((hne352 24 (nn_ne rfl)).trans ((hne347 24 (nn_ne rfl)).trans ((hne341 24 (nn_ne rfl)).trans ((hne336 24 (nn_ne rfl)).trans ((hne330 24 (nn_ne rfl)).trans ((hne326 24 (nn_ne rfl)).trans (hw319)))))))))))))
  have hw426 : w389 25 = .inl (G.2.1 0, 72, .inl (fun _ => 0)) := (hne391 25 (nn_ne rfl)).trans ((hne385 25 (nn_ne rfl)).trans ((hne380 25 (nn_ne rfl)).trans ((hne374 25 (nn_ne rfl)).trans ((hne369 25 (nn_ne rfl)).trans ((hne363 25 (nn_ne rfl)).trans ((hne358 25 (nn_ne rfl)).trans ((hne352 25 (nn_ne rfl)).trans ((hne347 25 (nn_ne rfl)).trans ((hne341 25 (nn_ne rfl)).trans ((hne336 25 (nn_ne rfl)).trans (hw329)))))))))))
  have hw427 : w389 26 = .inl (G.2.1 0, 6, .inl (fun _ => 0)) := (hne391 26 (nn_ne rfl)).trans ((hne385 26 (nn_ne rfl)).trans ((hne380 26 (nn_ne rfl)).trans ((hne374 26 (nn_ne rfl)).trans ((hne369 26 (nn_ne rfl)).trans ((hne363 26 (nn_ne rfl)).trans ((hne358 26 (nn_ne rfl)).trans ((hne352 26 (nn_ne rfl)).trans ((hne347 26 (nn_ne rfl)).trans (hw340)))))))))
  have hw428 : w389 27 = .inl (G.2.1 0, 30, .inl (fun _ => 0)) := (hne391 27 (nn_ne rfl)).trans ((hne385 27 (nn_ne rfl)).trans ((hne380 27 (nn_ne rfl)).trans ((hne374 27 (nn_ne rfl)).trans ((hne369 27 (nn_ne rfl)).trans ((hne363 27 (nn_ne rfl)).trans ((hne358 27 (nn_ne rfl)).trans (hw351)))))))
  have hw429 : w389 28 = .inl (G.2.1 0, 30, .inl (fun _ => 0)) := (hne391 28 (nn_ne rfl)).trans ((hne385 28 (nn_ne rfl)).trans ((hne380 28 (nn_ne rfl)).trans ((hne374 28 (nn_ne rfl)).trans ((hne369 28 (nn_ne rfl)).trans (hw362)))))
  have hw430 : w389 29 = .inl (G.2.1 0, 30, .inl (fun _ => 0)) := (hne391 29 (nn_ne rfl)).trans ((hne385 29 (nn_ne rfl)).trans ((hne380 29 (nn_ne rfl)).trans (hw373)))
  have hw431 : w389 30 = .inl (G.2.1 1, 6, .inl (fun _ => 0)) := (hne391 30 (nn_ne rfl)).trans (hw384)
  exact kk H locs ad386 w389 ls (fun k hk => (((((((((ha387 k (by omega)).trans (ha376 k (by omega))).trans (ha365 k (by omega))).trans (ha354 k (by omega))).trans (ha343 k (by omega))).trans (ha332 k (by omega))).trans (ha322 k (by omega))).trans (ha312 k (by omega)))).trans (hz3 k (by omega))) hw401 hw402 hw403 hw404 hw405 hw406 hw407 hw408 hw409 hw410 hw411 hw412 hw413 hw414 hw415 hw416 hw417 hw418 hw419 hw420 hw421 hw422 hw423 hw424 hw425 hw426 hw427 hw428 hw429 hw430 hw431 hH hl

def mo_5 (G : tw_G) (a : Nat → Nat) : List Value := [.int (0 : Int32), .int (2 : Int32), .int (1 : Int32), .ref (a 1), .ref (a 2), .ref (a 3), .ref (a 4), .ref (a 5), .int (0 : Int32), .ref (a 6), .ref (a 7), .ref (a 8), .int (0 : Int32), .ref (a 9), .ref (a 10), .ref (a 11), .ref (a 12), .int (0 : Int32), .ref (a 13), .ref (a 14), .ref (a 15), .ref (a 16), .ref (a 17), .ref (a 18), .ref (a 19), .ref (a 20), .ref (a 21), .ref (a 22), .ref (a 23), .ref (a 24), .ref (a 25), .ref (a 26), .ref (a 27), .ref (a 28), .ref (a 29), .ref (a 30), .ref (a 31), .ref (a 32), .ref (a 33), .ref (a 34), .int (0 : Int32), .int (0 : Int32), .int (0 : Int32), .ref (G.2.2 (100 + 10)), .ref (a 35), .ref (a 36), .ref (a 37), .int (0 : Int32), .null, .null, .null, .null, .null, .null, .null, .null, .null, .null, .null, .null, .null, .null, .null, .null, .null, .null, .null, .null, .null, .null, .int (0 : Int32), .null, .int (0 : Int32), .null, .null, .int (0 : Int32), .null, .null, .null, .null, .null, .null, .int (0 : Int32), .null, .null, .null, .null, .null, .int (0 : Int32), .int (0 : Int32), .int (0 : Int32), .null, .null, .null, .null, .null, .null]
theorem mo_5_c {G : tw_G} {a b : Nat → Nat} (h : ∀ j, j < 38 → a j = b j) : mo_5 G a = mo_5 G b := by
  unfold mo_5
  rw [h 1 (by decide), h 2 (by decide), h 3 (by decide), h 4 (by decide), h 5 (by decide), h 6 (by decide), h 7 (by decide), h 8 (by decide), h 9 (by decide), h 10 (by decide), h 11 (by decide), h 12 (by decide), h 13 (by decide), h 14 (by decide), h 15 (by decide), h 16 (by decide), h 17 (by decide), h 18 (by decide), h 19 (by decide), h 20 (by decide), h 21 (by decide), h 22 (by decide), h 23 (by decide), h 24 (by decide), h 25 (by decide), h 26 (by decide), h 27 (by decide), h 28 (by decide), h 29 (by decide), h 30 (by decide), h 31 (by decide), h 32 (by decide), h 33 (by decide), h 34 (by decide), h 35 (by decide), h 36 (by decide), h 37 (by decide)]
theorem hmo_5 (G : tw_G) (a : Nat → Nat) : 96 < (mo_5 G a).length := Nat.le_of_ble_eq_true rfl
set_option maxHeartbeats 20000000 in
set_option maxRecDepth 100000 in
theorem c_X12_init_s5 {p : Program} {l : Launch} {e : Env} {s : State} {m : MethodId} {args : Array Value} {below : List Frame} {meth : Method} {c : Code} {G : tw_G} {A : Nat → Prop} {Q : State → Prop} {H : Heap} {locs : List Loc} {ls : Array Slot} {ad adS4 : Nat → Nat} {wS4 : Nat → va_E} (F : tw_F p m c cX12_init 2 s args RX12 G A) (hin : meth.name = "<init>") (hz4 : ∀ k, k < 1 → adS4 k = ad k) (f4_0 : wS4 0 = .inr (12, mo_4 G adS4)) (f4_1 : wS4 1 = .inl (G.2.1 0, 5, .inl (fun _ => 0))) (f4_2 : wS4 2 = .inl (G.2.1 0, 5, .inl (fun _ => 0))) (f4_3 : wS4 3 = .inl (G.2.1 1, 5, .inl (fun _ => 0))) (f4_4 : wS4 4 = .inl (G.2.1 0, 24, .inl (fun _ => 0))) (f4_5 : wS4 5 = .inl (G.2.1 0, 8, .inl (fun _ => 0))) (f4_6 : wS4 6 = .inl (G.2.1 0, 30, .inl (fun _ => 0))) (f4_7 : wS4 7 = .inl (G.2.1 0, 30, .inl (fun _ => 0))) (f4_8 : wS4 8 = .inl (G.2.1 0, 30, .inl (fun _ => 0))) (f4_9 : wS4 9 = .inl (G.2.1 0, 20, .inl (fun _ => 0))) (f4_10 : wS4 10 = .inl (G.2.1 0, 20, .inl (fun _ => 0))) (f4_11 : wS4 11 = .inl (G.2.1 0, 20, .inl (fun _ => 0))) (f4_12 : wS4 12 = .inl (G.2.1 0, 20, .inl (fun _ => 0))) (f4_13 : wS4 13 = .inl (G.2.1 0, 6, .inl (fun _ => 0))) (f4_14 : wS4 14 = .inl (G.2.1 0, 6, .inl (fun _ => 0))) (f4_15 : wS4 15 = .inl (G.2.1 0, 6, .inl (fun _ => 0))) (f4_16 : wS4 16 = .inl (G.2.1 0, 6, .inl (fun _ => 0))) (f4_17 : wS4 17 = .inl (G.2.1 0, 6, .inl (fun _ => 0))) (f4_18 : wS4 18 = .inl (G.2.1 0, 6, .inl (fun _ => 0))) (f4_19 : wS4 19 = .inl (G.2.1 0, 6, .inl (fun _ => 0))) (f4_20 : wS4 20 = .inl (G.2.1 0, 24, .inl (fun _ => 0))) (f4_21 : wS4 21 = .inl (G.2.1 0, 24, .inl (fun _ => 0))) (f4_22 : wS4 22 = .inl (G.2.1 0, 6, .inl (fun _ => 0))) (f4_23 : wS4 23 = .inl (G.2.1 0, 72, .inl (fun _ => 0))) (f4_24 : wS4 24 = .inl (G.2.1 0, 72, .inl (fun _ => 0))) (f4_25 : wS4 25 = .inl (G.2.1 0, 72, .inl (fun _ => 0))) (f4_26 : wS4 26 = .inl (G.2.1 0, 6, .inl (fun _ => 0))) (f4_27 : wS4 27 = .inl (G.2.1 0, 30, .inl (fun _ => 0))) (f4_28 : wS4 28 = .inl (G.2.1 0, 30, .inl (fun _ => 0))) (f4_29 : wS4 29 = .inl (G.2.1 0, 30, .inl (fun _ => 0))) (f4_30 : wS4 30 = .inl (G.2.1 1, 6, .inl (fun _ => 0))) (hH : tw_H G 31 adS4 wS4 A s H locs) (hl : lv_has ls 2 [(0, .ref (ad 0))]) (kk : ∀ (H : Heap) (locs : List Loc) (ad1 : Nat → Nat) (w1 : Nat → va_E) (ls : Array Slot), (∀ k, k < 1 → ad1 k = ad k) → w1 0 = .inr (12, mo_5 G ad1) → w1 1 = .inl (G.2.1 0, 5, .inl (fun _ => 0)) → w1 2 = .inl (G.2.1 0, 5, .inl (fun _ => 0)) → w1 3 = .inl (G.2.1 1, 5, .inl (fun _ => 0)) → w1 4 = .inl (G.2.1 0, 24, .inl (fun _ => 0)) → w1 5 = .inl (G.2.1 0, 8, .inl (fun _ => 0)) → w1 6 = .inl (G.2.1 0, 30, .inl (fun _ => 0)) → w1 7 = .inl (G.2.1 0, 30, .inl (fun _ => 0)) → w1 8 = .inl (G.2.1 0, 30, .inl (fun _ => 0)) → w1 9 = .inl (G.2.1 0, 20, .inl (fun _ => 0)) → w1 10 = .inl (G.2.1 0, 20, .inl (fun _ => 0)) → w1 11 = .inl (G.2.1 0, 20, .inl (fun _ => 0)) → w1 12 = .inl (G.2.1 0, 20, .inl (fun _ => 0)) → w1 13 = .inl (G.2.1 0, 6, .inl (fun _ => 0)) → w1 14 = .inl (G.2.1 0, 6, .inl (fun _ => 0)) → w1 15 = .inl (G.2.1 0, 6, .inl (fun _ => 0)) → w1 16 = .inl (G.2.1 0, 6, .inl (fun _ => 0)) → w1 17 = .inl (G.2.1 0, 6, .inl (fun _ => 0)) → w1 18 = .inl (G.2.1 0, 6, .inl (fun _ => 0)) → w1 19 = .inl (G.2.1 0, 6, .inl (fun _ => 0)) → w1 20 = .inl (G.2.1 0, 24, .inl (fun _ => 0)) → w1 21 = .inl (G.2.1 0, 24, .inl (fun _ => 0)) → w1 22 = .inl (G.2.1 0, 6, .inl (fun _ => 0)) → w1 23 = .inl (G.2.1 0, 72, .inl (fun _ => 0)) → w1 24 = .inl (G.2.1 0, 72, .inl (fun _ => 0)) → w1 25 = .inl (G.2.1 0, 72, .inl (fun _ => 0)) → w1 26 = .inl (G.2.1 0, 6, .inl (fun _ => 0)) → w1 27 = .inl (G.2.1 0, 30, .inl (fun _ => 0)) → w1 28 = .inl (G.2.1 0, 30, .inl (fun _ => 0)) → w1 29 = .inl (G.2.1 0, 30, .inl (fun _ => 0)) → w1 30 = .inl (G.2.1 1, 6, .inl (fun _ => 0)) → w1 31 = .inl (G.2.1 0, 6, .inl (fun _ => 0)) → w1 32 = .inl (G.2.1 0, 24, .inl (fun _ => 0)) → w1 33 = .inl (G.2.1 0, 24, .inl (fun _ => 0)) → w1 34 = .inl (G.2.1 0, 100, .inl (fun _ => 0)) → w1 35 = .inl (G.2.1 0, 1700, .inl (fun _ => 0)) → w1 36 = .inl (G.2.1 0, 17, .inl (fun _ => 0)) → w1 37 = .inl (G.2.1 0, 100, .inl (fun _ => 0)) → tw_H G 38 ad1 w1 A s H locs → lv_has ls 2 [(0, .ref (ad 0))] → W p l e ({ frames := 1, cells := 79, slots := 3514, locals := 23 }) s m args below meth c H locs 37 2602 Q (F0 m 315 ls [])) : W p l e ({ frames := 1, cells := 79, slots := 3514, locals := 23 }) s m args below meth c H locs 30 631 Q (F0 m 251 ls []) := by
  have hx := F.1.1
  have hb := F.1.2.1
  have hown := F.1.2.2.2.1
  have hts := F.1.2.2.2.2
  refine lv_aload_n hx hb dX12_init_251 rfl (lv_at hl 0 rfl) ?_
  refine lv_bipush (v := 6) hx hb dX12_init_252 (by decide) ?_
  refine tw_newa (t := 0) (atype := .int) (ty := .int) (n' := 6) (a0 := (6, .inl (fun _ => 0))) F hH rfl (fun C h => by cases h) (tw_gl kw_47 rfl) rfl (fun _ => rfl) (by decide) (Nat.le_of_ble_eq_true rfl) (Nat.le_of_ble_eq_true rfl) (Nat.le_of_ble_eq_true rfl) dX12_init_254 (fun H locs ad435 w432 ha436 hw433 hne434 hH => ?_)
  have hw437 : w432 0 = .inr (12, (mo_4 G adS4)) := (hne434 0 (nn_ne rfl)).trans (f4_0)
  refine tw_putF (r := 0) F hH kf_RX12_39 kp_X12_36 hin rfl ((ha436 0 (nn_lt rfl)).trans (hz4 0 (nn_lt rfl))) (by decide) hw437 (Nat.lt_of_le_of_lt (by decide) (hmo_4 G adS4)) rfl rfl dX12_init_256 (fun H locs w438 hw439 hne440 hH => ?_)
  obtain ⟨fs441, efs441⟩ : ∃ z : List Value, z = List.set (mo_4 G adS4) 36 (.ref (ad435 31)) := ⟨_, rfl⟩
  rw [← efs441] at hw439
  have hfs441 : 96 < fs441.length := by rw [efs441, List.length_set]; exact (hmo_4 G adS4)
  refine lv_aload_n hx hb dX12_init_259 rfl (lv_at hl 0 rfl) ?_
  refine lv_bipush (v := 24) hx hb dX12_init_260 (by decide) ?_
  refine tw_newa (t := 0) (atype := .int) (ty := .int) (n' := 24) (a0 := (24, .inl (fun _ => 0))) F hH rfl (fun C h => by cases h) (tw_gl kw_47 rfl) rfl (fun _ => rfl) (by decide) (Nat.le_of_ble_eq_true rfl) (Nat.le_of_ble_eq_true rfl) (Nat.le_of_ble_eq_true rfl) dX12_init_262 (fun H locs ad445 w442 ha446 hw443 hne444 hH => ?_)
  have hw447 : w442 0 = .inr (12, fs441) := (hne444 0 (nn_ne rfl)).trans (hw439)
  refine tw_putF (r := 0) F hH kf_RX12_560 kp_X12_37 hin rfl (((ha446 0 (nn_lt rfl)).trans (ha436 0 (nn_lt rfl))).trans (hz4 0 (nn_lt rfl))) (by decide) hw447 (Nat.lt_of_le_of_lt (by decide) hfs441) rfl rfl dX12_init_264 (fun H locs w448 hw449 hne450 hH => ?_)
  obtain ⟨fs451, efs451⟩ : ∃ z : List Value, z = List.set fs441 37 (.ref (ad445 32)) := ⟨_, rfl⟩
  rw [← efs451] at hw449
  have hfs451 : 96 < fs451.length := by rw [efs451, List.length_set]; exact hfs441
  refine lv_aload_n hx hb dX12_init_267 rfl (lv_at hl 0 rfl) ?_
  refine lv_bipush (v := 24) hx hb dX12_init_268 (by decide) ?_
  refine tw_newa (t := 0) (atype := .int) (ty := .int) (n' := 24) (a0 := (24, .inl (fun _ => 0))) F hH rfl (fun C h => by cases h) (tw_gl kw_47 rfl) rfl (fun _ => rfl) (by decide) (Nat.le_of_ble_eq_true rfl) (Nat.le_of_ble_eq_true rfl) (Nat.le_of_ble_eq_true rfl) dX12_init_270 (fun H locs ad455 w452 ha456 hw453 hne454 hH => ?_)
  have hw457 : w452 0 = .inr (12, fs451) := (hne454 0 (nn_ne rfl)).trans (hw449)
  have ha461 : ad455 0 = ad 0 := ((((ha456 0 (nn_lt rfl)).trans (ha446 0 (nn_lt rfl))).trans (ha436 0 (nn_lt rfl))).trans (hz4 0 (nn_lt rfl)))
  refine tw_putF (r := 0) F hH kf_RX12_563 kp_X12_38 hin rfl ha461 (by decide) hw457 (Nat.lt_of_le_of_lt (by decide) hfs451) rfl rfl dX12_init_272 (fun H locs w458 hw459 hne460 hH => ?_)
  obtain ⟨fs462, efs462⟩ : ∃ z : List Value, z = List.set fs451 38 (.ref (ad455 33)) := ⟨_, rfl⟩
  rw [← efs462] at hw459
  have hfs462 : 96 < fs462.length := by rw [efs462, List.length_set]; exact hfs451
  refine lv_aload_n hx hb dX12_init_275 rfl (lv_at hl 0 rfl) ?_
  refine lv_bipush (v := 100) hx hb dX12_init_276 (by decide) ?_
  refine tw_newa (t := 0) (atype := .int) (ty := .int) (n' := 100) (a0 := (100, .inl (fun _ => 0))) F hH rfl (fun C h => by cases h) (tw_gl kw_47 rfl) rfl (fun _ => rfl) (by decide) (Nat.le_of_ble_eq_true rfl) (Nat.le_of_ble_eq_true rfl) (Nat.le_of_ble_eq_true rfl) dX12_init_278 (fun H locs ad466 w463 ha467 hw464 hne465 hH => ?_)
  have hw468 : w463 0 = .inr (12, fs462) := (hne465 0 (nn_ne rfl)).trans (hw459)
  have ha472 : ad466 0 = ad 0 := ((ha467 0 (nn_lt rfl)).trans ha461)
  refine tw_putF (r := 0) F hH kf_RX12_191 kp_X12_39 hin rfl ha472 (by decide) hw468 (Nat.lt_of_le_of_lt (by decide) hfs462) rfl rfl dX12_init_280 (fun H locs w469 hw470 hne471 hH => ?_)
  obtain ⟨fs473, efs473⟩ : ∃ z : List Value, z = List.set fs462 39 (.ref (ad466 34)) := ⟨_, rfl⟩
  rw [← efs473] at hw470
  have hfs473 : 96 < fs473.length := by rw [efs473, List.length_set]; exact hfs462
  refine lv_aload_n hx hb dX12_init_283 rfl (lv_at hl 0 rfl) ?_
  refine tw_ldcwS F 10 (by decide) rfl rfl dX12_init_284 ?_
  refine tw_put (r := 0) F hH kf_RX12_221 kp_X12_43 ha472 (by decide) hw470 (Nat.lt_of_le_of_lt (by decide) hfs473) rfl rfl dX12_init_287 (fun H locs w474 hw475 hne476 hH => ?_)
  obtain ⟨fs477, efs477⟩ : ∃ z : List Value, z = List.set fs473 43 (.ref (G.2.2 (100 + 10))) := ⟨_, rfl⟩
  rw [← efs477] at hw475
  have hfs477 : 96 < fs477.length := by rw [efs477, List.length_set]; exact hfs473
  refine lv_aload_n hx hb dX12_init_290 rfl (lv_at hl 0 rfl) ?_
  refine lv_sipush (v := 1700) hx hb dX12_init_291 (by decide) ?_
  refine tw_newa (t := 0) (atype := .int) (ty := .int) (n' := 1700) (a0 := (1700, .inl (fun _ => 0))) F hH rfl (fun C h => by cases h) (tw_gl kw_47 rfl) rfl (fun _ => rfl) (by decide) (Nat.le_of_ble_eq_true rfl) (Nat.le_of_ble_eq_true rfl) (Nat.le_of_ble_eq_true rfl) dX12_init_294 (fun H locs ad481 w478 ha482 hw479 hne480 hH => ?_)
  have hw483 : w478 0 = .inr (12, fs477) := (hne480 0 (nn_ne rfl)).trans (hw475)
  have ha487 : ad481 0 = ad 0 := ((ha482 0 (nn_lt rfl)).trans ha472)
  refine tw_putF (r := 0) F hH kf_RX12_202 kp_X12_44 hin rfl ha487 (by decide) hw483 (Nat.lt_of_le_of_lt (by decide) hfs477) rfl rfl dX12_init_296 (fun H locs w484 hw485 hne486 hH => ?_)
  obtain ⟨fs488, efs488⟩ : ∃ z : List Value, z = List.set fs477 44 (.ref (ad481 35)) := ⟨_, rfl⟩
  rw [← efs488] at hw485
  have hfs488 : 96 < fs488.length := by rw [efs488, List.length_set]; exact hfs477
  refine lv_aload_n hx hb dX12_init_299 rfl (lv_at hl 0 rfl) ?_
  refine lv_bipush (v := 17) hx hb dX12_init_300 (by decide) ?_
  refine tw_newa (t := 0) (atype := .int) (ty := .int) (n' := 17) (a0 := (17, .inl (fun _ => 0))) F hH rfl (fun C h => by cases h) (tw_gl kw_47 rfl) rfl (fun _ => rfl) (by decide) (Nat.le_of_ble_eq_true rfl) (Nat.le_of_ble_eq_true rfl) (Nat.le_of_ble_eq_true rfl) dX12_init_302 (fun H locs ad492 w489 ha493 hw490 hne491 hH => ?_)
  have hw494 : w489 0 = .inr (12, fs488) := (hne491 0 (nn_ne rfl)).trans (hw485)
  have ha498 : ad492 0 = ad 0 := ((ha493 0 (nn_lt rfl)).trans ha487)
  refine tw_putF (r := 0) F hH kf_RX12_208 kp_X12_45 hin rfl ha498 (by decide) hw494 (Nat.lt_of_le_of_lt (by decide) hfs488) rfl rfl dX12_init_304 (fun H locs w495 hw496 hne497 hH => ?_)
  obtain ⟨fs499, efs499⟩ : ∃ z : List Value, z = List.set fs488 45 (.ref (ad492 36)) := ⟨_, rfl⟩
  rw [← efs499] at hw496
  have hfs499 : 96 < fs499.length := by rw [efs499, List.length_set]; exact hfs488
  refine lv_aload_n hx hb dX12_init_307 rfl (lv_at hl 0 rfl) ?_
  refine lv_bipush (v := 100) hx hb dX12_init_308 (by decide) ?_
  refine tw_newa (t := 0) (atype := .int) (ty := .int) (n' := 100) (a0 := (100, .inl (fun _ => 0))) F hH rfl (fun C h => by cases h) (tw_gl kw_47 rfl) rfl (fun _ => rfl) (by decide) (Nat.le_of_ble_eq_true rfl) (Nat.le_of_ble_eq_true rfl) (Nat.le_of_ble_eq_true rfl) dX12_init_310 (fun H locs ad503 w500 ha504 hw501 hne502 hH => ?_)
  have hw505 : w500 0 = .inr (12, fs499) := (hne502 0 (nn_ne rfl)).trans (hw496)
  have ha509 : ad503 0 = ad 0 := ((ha504 0 (nn_lt rfl)).trans ha498)
  refine tw_putF (r := 0) F hH kf_RX12_296 kp_X12_46 hin rfl ha509 (by decide) hw505 (Nat.lt_of_le_of_lt (by decide) hfs499) rfl rfl dX12_init_312 (fun H locs w506 hw507 hne508 hH => ?_)
  obtain ⟨fs510, efs510⟩ : ∃ z : List Value, z = List.set fs499 46 (.ref (ad503 37)) := ⟨_, rfl⟩
  rw [← efs510] at hw507
  have hfs510 : 96 < fs510.length := by rw [efs510, List.length_set]; exact hfs499
  have ha511 : ad503 31 = ad435 31 := ((((((ha504 31 (nn_lt rfl)).trans (ha493 31 (nn_lt rfl))).trans (ha482 31 (nn_lt rfl))).trans (ha467 31 (nn_lt rfl))).trans (ha456 31 (nn_lt rfl))).trans (ha446 31 (nn_lt rfl)))
  have ha512 : ad503 32 = ad445 32 := (((((ha504 32 (nn_lt rfl)).trans (ha493 32 (nn_lt rfl))).trans (ha482 32 (nn_lt rfl))).trans (ha467 32 (nn_lt rfl))).trans (ha456 32 (nn_lt rfl)))
  have ha513 : ad503 33 = ad455 33 := ((((ha504 33 (nn_lt rfl)).trans (ha493 33 (nn_lt rfl))).trans (ha482 33 (nn_lt rfl))).trans (ha467 33 (nn_lt rfl)))
  have ha514 : ad503 34 = ad466 34 := (((ha504 34 (nn_lt rfl)).trans (ha493 34 (nn_lt rfl))).trans (ha482 34 (nn_lt rfl)))
  have ha515 : ad503 35 = ad481 35 := ((ha504 35 (nn_lt rfl)).trans (ha493 35 (nn_lt rfl)))
  have ha516 : ad503 36 = ad492 36 := (ha504 36 (nn_lt rfl))
  have hw517 : w506 0 = .inr (12, mo_5 G ad503) := by rw [hw507]; rw [efs510, efs499, efs488, efs477, efs473, efs462, efs451, efs441]; rw [mo_4_c (a := adS4) (b := ad503) (fun j hj => (((((((ha504 j (by omega)).trans (ha493 j (by omega))).trans (ha482 j (by omega))).trans (ha467 j (by omega))).trans (ha456 j (by omega))).trans (ha446 j (by omega))).trans (ha436 j (by omega))).symm)]; rw [show ad435 31 = ad503 31 from ha511.symm, show ad445 32 = ad503 32 from ha512.symm, show ad455 33 = ad503 33 from ha513.symm, show ad466 34 = ad503 34 from ha514.symm, show ad481 35 = ad503 35 from ha515.symm, show ad492 36 = ad503 36 from ha516.symm]; rfl
  have hall4_w506 : ∀ k : Nat, 1 ≤ k → k ≤ 30 → w506 k = wS4 k := fun k h1 h2 => (hne508 k (by omega)).trans ((hne502 k (by omega)).trans ((hne497 k (by omega)).trans ((hne491 k (by omega)).trans ((hne486 k (by omega)).trans ((hne480 k (by omega)).trans ((hne476 k (by omega)).trans ((hne471 k (by omega)).trans ((hne465 k (by omega)).trans ((hne460 k (by omega)).trans ((hne454 k (by omega)).trans ((hne450 k (by omega)).trans ((hne444 k (by omega)).trans ((hne440 k (by omega)).trans ((hne434 k (by omega))))))))))))))))
  have hw518 : w506 1 = .inl (G.2.1 0, 5, .inl (fun _ => 0)) := (hall4_w506 1 (by decide) (by decide)).trans f4_1
  have hw519 : w506 2 = .inl (G.2.1 0, 5, .inl (fun _ => 0)) := (hall4_w506 2 (by decide) (by decide)).trans f4_2
  have hw520 : w506 3 = .inl (G.2.1 1, 5, .inl (fun _ => 0)) := (hall4_w506 3 (by decide) (by decide)).trans f4_3
  have hw521 : w506 4 = .inl (G.2.1 0, 24, .inl (fun _ => 0)) := (hall4_w506 4 (by decide) (by decide)).trans f4_4
  have hw522 : w506 5 = .inl (G.2.1 0, 8, .inl (fun _ => 0)) := (hall4_w506 5 (by decide) (by decide)).trans f4_5
  have hw523 : w506 6 = .inl (G.2.1 0, 30, .inl (fun _ => 0)) := (hall4_w506 6 (by decide) (by decide)).trans f4_6
  have hw524 : w506 7 = .inl (G.2.1 0, 30, .inl (fun _ => 0)) := (hall4_w506 7 (by decide) (by decide)).trans f4_7
  have hw525 : w506 8 = .inl (G.2.1 0, 30, .inl (fun _ => 0)) := (hall4_w506 8 (by decide) (by decide)).trans f4_8
  have hw526 : w506 9 = .inl (G.2.1 0, 20, .inl (fun _ => 0)) := (hall4_w506 9 (by decide) (by decide)).trans f4_9
  have hw527 : w506 10 = .inl (G.2.1 0, 20, .inl (fun _ => 0)) := (hall4_w506 10 (by decide) (by decide)).trans f4_10
  have hw528 : w506 11 = .inl (G.2.1 0, 20, .inl (fun _ => 0)) := (hall4_w506 11 (by decide) (by decide)).trans f4_11
  have hw529 : w506 12 = .inl (G.2.1 0, 20, .inl (fun _ => 0)) := (hall4_w506 12 (by decide) (by decide)).trans f4_12
  have hw530 : w506 13 = .inl (G.2.1 0, 6, .inl (fun _ => 0)) := (hall4_w506 13 (by decide) (by decide)).trans f4_13
  have hw531 : w506 14 = .inl (G.2.1 0, 6, .inl (fun _ => 0)) := (hall4_w506 14 (by decide) (by decide)).trans f4_14
  have hw532 : w506 15 = .inl (G.2.1 0, 6, .inl (fun _ => 0)) := (hall4_w506 15 (by decide) (by decide)).trans f4_15
  have hw533 : w506 16 = .inl (G.2.1 0, 6, .inl (fun _ => 0)) := (hall4_w506 16 (by decide) (by decide)).trans f4_16
  have hw534 : w506 17 = .inl (G.2.1 0, 6, .inl (fun _ => 0)) := (hall4_w506 17 (by decide) (by decide)).trans f4_17
  have hw535 : w506 18 = .inl (G.2.1 0, 6, .inl (fun _ => 0)) := (hall4_w506 18 (by decide) (by decide)).trans f4_18
  have hw536 : w506 19 = .inl (G.2.1 0, 6, .inl (fun _ => 0)) := (hall4_w506 19 (by decide) (by decide)).trans f4_19
  have hw537 : w506 20 = .inl (G.2.1 0, 24, .inl (fun _ => 0)) := (hall4_w506 20 (by decide) (by decide)).trans f4_20
  have hw538 : w506 21 = .inl (G.2.1 0, 24, .inl (fun _ => 0)) := (hall4_w506 21 (by decide) (by decide)).trans f4_21
  have hw539 : w506 22 = .inl (G.2.1 0, 6, .inl (fun _ => 0)) := (hall4_w506 22 (by decide) (by decide)).trans f4_22
  have hw540 : w506 23 = .inl (G.2.1 0, 72, .inl (fun _ => 0)) := (hall4_w506 23 (by decide) (by decide)).trans f4_23
  have hw541 : w506 24 = .inl (G.2.1 0, 72, .inl (fun _ => 0)) := (hall4_w506 24 (by decide) (by decide)).trans f4_24
  have hw542 : w506 25 = .inl (G.2.1 0, 72, .inl (fun _ => 0)) := (hall4_w506 25 (by decide) (by decide)).trans f4_25
  have hw543 : w506 26 = .inl (G.2.1 0, 6, .inl (fun _ => 0)) := (hall4_w506 26 (by decide) (by decide)).trans f4_26
  have hw544 : w506 27 = .inl (G.2.1 0, 30, .inl (fun _ => 0)) := (hall4_w506 27 (by decide) (by decide)).trans f4_27
  have hw545 : w506 28 = .inl (G.2.1 0, 30, .inl (fun _ => 0)) := (hall4_w506 28 (by decide) (by decide)).trans f4_28
  have hw546 : w506 29 = .inl (G.2.1 0, 30, .inl (fun _ => 0)) := (hall4_w506 29 (by decide) (by decide)).trans f4_29
  have hw547 : w506 30 = .inl (G.2.1 1, 6, .inl (fun _ => 0)) := (hall4_w506 30 (by decide) (by decide)).trans f4_30
  have hw548 : w506 31 = .inl (G.2.1 0, 6, .inl (fun _ => 0)) := (hne508 31 (nn_ne rfl)).trans ((hne502 31 (nn_ne rfl)).trans ((hne497 31 (nn_ne rfl)).trans ((hne491 31 (nn_ne rfl)).trans ((hne486 31 (nn_ne rfl)).trans ((hne480 31 (nn_ne rfl)).trans ((hne476 31 (nn_ne rfl)).trans ((hne471 31 (nn_ne rfl)).trans ((hne465 31 (nn_ne rfl)).trans ((hne460 31 (nn_ne rfl)).trans ((hne454 31 (nn_ne rfl)).trans ((hne450 31 (nn_ne rfl)).trans ((hne444 31 (nn_ne rfl)).trans ((hne440 31 (nn_ne rfl)).trans (hw433))))))))))))))
  have hw549 : w506 32 = .inl (G.2.1 0, 24, .inl (fun _ => 0)) := (hne508 32 (nn_ne rfl)).trans ((hne502 32 (nn_ne rfl)).trans ((hne497 32 (nn_ne rfl)).trans ((hne491 32 (nn_ne rfl)).trans ((hne486 32 (nn_ne rfl)).trans ((hne480 32 (nn_ne rfl)).trans ((hne476 32 (nn_ne rfl)).trans ((hne471 32 (nn_ne rfl)).trans ((hne465 32 (nn_ne rfl)).trans ((hne460 32 (nn_ne rfl)).trans ((hne454 32 (nn_ne rfl)).trans ((hne450 32 (nn_ne rfl)).trans (hw443))))))))))))
  have hw550 : w506 33 = .inl (G.2.1 0, 24, .inl (fun _ => 0)) := (hne508 33 (nn_ne rfl)).trans ((hne502 33 (nn_ne rfl)).trans ((hne497 33 (nn_ne rfl)).trans ((hne491 33 (nn_ne rfl)).trans ((hne486 33 (nn_ne rfl)).trans ((hne480 33 (nn_ne rfl)).trans ((hne476 33 (nn_ne rfl)).trans ((hne471 33 (nn_ne rfl)).trans ((hne465 33 (nn_ne rfl)).trans ((hne460 33 (nn_ne rfl)).trans (hw453))))))))))
  have hw551 : w506 34 = .inl (G.2.1 0, 100, .inl (fun _ => 0)) := (hne508 34 (nn_ne rfl)).trans ((hne502 34 (nn_ne rfl)).trans ((hne497 34 (nn_ne rfl)).trans ((hne491 34 (nn_ne rfl)).trans ((hne486 34 (nn_ne rfl)).trans ((hne480 34 (nn_ne rfl)).trans ((hne476 34 (nn_ne rfl)).trans ((hne471 34 (nn_ne rfl)).trans (hw464))))))))
  have hw552 : w506 35 = .inl (G.2.1 0, 1700, .inl (fun _ => 0)) := (hne508 35 (nn_ne rfl)).trans ((hne502 35 (nn_ne rfl)).trans ((hne497 35 (nn_ne rfl)).trans ((hne491 35 (nn_ne rfl)).trans ((hne486 35 (nn_ne rfl)).trans (hw479)))))
  have hw553 : w506 36 = .inl (G.2.1 0, 17, .inl (fun _ => 0)) := (hne508 36 (nn_ne rfl)).trans ((hne502 36 (nn_ne rfl)).trans ((hne497 36 (nn_ne rfl)).trans (hw490)))
  have hw554 : w506 37 = .inl (G.2.1 0, 100, .inl (fun _ => 0)) := (hne508 37 (nn_ne rfl)).trans (hw501)
  exact kk H locs ad503 w506 ls (fun k hk => ((((((((ha504 k (by omega)).trans (ha493 k (by omega))).trans (ha482 k (by omega))).trans (ha467 k (by omega))).trans (ha456 k (by omega))).trans (ha446 k (by omega))).trans (ha436 k (by omega)))).trans (hz4 k (by omega))) hw517 hw518 hw519 hw520 hw521 hw522 hw523 hw524 hw525 hw526 hw527 hw528 hw529 hw530 hw531 hw532 hw533 hw534 hw535 hw536 hw537 hw538 hw539 hw540 hw541 hw542 hw543 hw544 hw545 hw546 hw547 hw548 hw549 hw550 hw551 hw552 hw553 hw554 hH hl

def mo_6 (G : tw_G) (a : Nat → Nat) : List Value := [.int (0 : Int32), .int (2 : Int32), .int (1 : Int32), .ref (a 1), .ref (a 2), .ref (a 3), .ref (a 4), .ref (a 5), .int (0 : Int32), .ref (a 6), .ref (a 7), .ref (a 8), .int (0 : Int32), .ref (a 9), .ref (a 10), .ref (a 11), .ref (a 12), .int (0 : Int32), .ref (a 13), .ref (a 14), .ref (a 15), .ref (a 16), .ref (a 17), .ref (a 18), .ref (a 19), .ref (a 20), .ref (a 21), .ref (a 22), .ref (a 23), .ref (a 24), .ref (a 25), .ref (a 26), .ref (a 27), .ref (a 28), .ref (a 29), .ref (a 30), .ref (a 31), .ref (a 32), .ref (a 33), .ref (a 34), .int (0 : Int32), .int (0 : Int32), .int (0 : Int32), .ref (G.2.2 (100 + 10)), .ref (a 35), .ref (a 36), .ref (a 37), .int (0 : Int32), .ref (a 38), .ref (a 39), .ref (a 40), .ref (a 41), .ref (a 42), .ref (a 43), .ref (a 44), .ref (a 45), .null, .null, .null, .null, .null, .null, .null, .null, .null, .null, .null, .null, .null, .null, .int (0 : Int32), .null, .int (0 : Int32), .null, .null, .int (0 : Int32), .null, .null, .null, .null, .null, .null, .int (0 : Int32), .null, .null, .null, .null, .null, .int (0 : Int32), .int (0 : Int32), .int (0 : Int32), .null, .null, .null, .null, .null, .null]
theorem mo_6_c {G : tw_G} {a b : Nat → Nat} (h : ∀ j, j < 46 → a j = b j) : mo_6 G a = mo_6 G b := by
  unfold mo_6
  rw [h 1 (by decide), h 2 (by decide), h 3 (by decide), h 4 (by decide), h 5 (by decide), h 6 (by decide), h 7 (by decide), h 8 (by decide), h 9 (by decide), h 10 (by decide), h 11 (by decide), h 12 (by decide), h 13 (by decide), h 14 (by decide), h 15 (by decide), h 16 (by decide), h 17 (by decide), h 18 (by decide), h 19 (by decide), h 20 (by decide), h 21 (by decide), h 22 (by decide), h 23 (by decide), h 24 (by decide), h 25 (by decide), h 26 (by decide), h 27 (by decide), h 28 (by decide), h 29 (by decide), h 30 (by decide), h 31 (by decide), h 32 (by decide), h 33 (by decide), h 34 (by decide), h 35 (by decide), h 36 (by decide), h 37 (by decide), h 38 (by decide), h 39 (by decide), h 40 (by decide), h 41 (by decide), h 42 (by decide), h 43 (by decide), h 44 (by decide), h 45 (by decide)]
theorem hmo_6 (G : tw_G) (a : Nat → Nat) : 96 < (mo_6 G a).length := Nat.le_of_ble_eq_true rfl
set_option maxHeartbeats 20000000 in
set_option maxRecDepth 100000 in
theorem c_X12_init_s6 {p : Program} {l : Launch} {e : Env} {s : State} {m : MethodId} {args : Array Value} {below : List Frame} {meth : Method} {c : Code} {G : tw_G} {A : Nat → Prop} {Q : State → Prop} {H : Heap} {locs : List Loc} {ls : Array Slot} {ad adS5 : Nat → Nat} {wS5 : Nat → va_E} (F : tw_F p m c cX12_init 2 s args RX12 G A) (hin : meth.name = "<init>") (hz5 : ∀ k, k < 1 → adS5 k = ad k) (f5_0 : wS5 0 = .inr (12, mo_5 G adS5)) (f5_1 : wS5 1 = .inl (G.2.1 0, 5, .inl (fun _ => 0))) (f5_2 : wS5 2 = .inl (G.2.1 0, 5, .inl (fun _ => 0))) (f5_3 : wS5 3 = .inl (G.2.1 1, 5, .inl (fun _ => 0))) (f5_4 : wS5 4 = .inl (G.2.1 0, 24, .inl (fun _ => 0))) (f5_5 : wS5 5 = .inl (G.2.1 0, 8, .inl (fun _ => 0))) (f5_6 : wS5 6 = .inl (G.2.1 0, 30, .inl (fun _ => 0))) (f5_7 : wS5 7 = .inl (G.2.1 0, 30, .inl (fun _ => 0))) (f5_8 : wS5 8 = .inl (G.2.1 0, 30, .inl (fun _ => 0))) (f5_9 : wS5 9 = .inl (G.2.1 0, 20, .inl (fun _ => 0))) (f5_10 : wS5 10 = .inl (G.2.1 0, 20, .inl (fun _ => 0))) (f5_11 : wS5 11 = .inl (G.2.1 0, 20, .inl (fun _ => 0))) (f5_12 : wS5 12 = .inl (G.2.1 0, 20, .inl (fun _ => 0))) (f5_13 : wS5 13 = .inl (G.2.1 0, 6, .inl (fun _ => 0))) (f5_14 : wS5 14 = .inl (G.2.1 0, 6, .inl (fun _ => 0))) (f5_15 : wS5 15 = .inl (G.2.1 0, 6, .inl (fun _ => 0))) (f5_16 : wS5 16 = .inl (G.2.1 0, 6, .inl (fun _ => 0))) (f5_17 : wS5 17 = .inl (G.2.1 0, 6, .inl (fun _ => 0))) (f5_18 : wS5 18 = .inl (G.2.1 0, 6, .inl (fun _ => 0))) (f5_19 : wS5 19 = .inl (G.2.1 0, 6, .inl (fun _ => 0))) (f5_20 : wS5 20 = .inl (G.2.1 0, 24, .inl (fun _ => 0))) (f5_21 : wS5 21 = .inl (G.2.1 0, 24, .inl (fun _ => 0))) (f5_22 : wS5 22 = .inl (G.2.1 0, 6, .inl (fun _ => 0))) (f5_23 : wS5 23 = .inl (G.2.1 0, 72, .inl (fun _ => 0))) (f5_24 : wS5 24 = .inl (G.2.1 0, 72, .inl (fun _ => 0))) (f5_25 : wS5 25 = .inl (G.2.1 0, 72, .inl (fun _ => 0))) (f5_26 : wS5 26 = .inl (G.2.1 0, 6, .inl (fun _ => 0))) (f5_27 : wS5 27 = .inl (G.2.1 0, 30, .inl (fun _ => 0))) (f5_28 : wS5 28 = .inl (G.2.1 0, 30, .inl (fun _ => 0))) (f5_29 : wS5 29 = .inl (G.2.1 0, 30, .inl (fun _ => 0))) (f5_30 : wS5 30 = .inl (G.2.1 1, 6, .inl (fun _ => 0))) (f5_31 : wS5 31 = .inl (G.2.1 0, 6, .inl (fun _ => 0))) (f5_32 : wS5 32 = .inl (G.2.1 0, 24, .inl (fun _ => 0))) (f5_33 : wS5 33 = .inl (G.2.1 0, 24, .inl (fun _ => 0))) (f5_34 : wS5 34 = .inl (G.2.1 0, 100, .inl (fun _ => 0))) (f5_35 : wS5 35 = .inl (G.2.1 0, 1700, .inl (fun _ => 0))) (f5_36 : wS5 36 = .inl (G.2.1 0, 17, .inl (fun _ => 0))) (f5_37 : wS5 37 = .inl (G.2.1 0, 100, .inl (fun _ => 0))) (hH : tw_H G 38 adS5 wS5 A s H locs) (hl : lv_has ls 2 [(0, .ref (ad 0))]) (kk : ∀ (H : Heap) (locs : List Loc) (ad1 : Nat → Nat) (w1 : Nat → va_E) (ls : Array Slot), (∀ k, k < 1 → ad1 k = ad k) → w1 0 = .inr (12, mo_6 G ad1) → w1 1 = .inl (G.2.1 0, 5, .inl (fun _ => 0)) → w1 2 = .inl (G.2.1 0, 5, .inl (fun _ => 0)) → w1 3 = .inl (G.2.1 1, 5, .inl (fun _ => 0)) → w1 4 = .inl (G.2.1 0, 24, .inl (fun _ => 0)) → w1 5 = .inl (G.2.1 0, 8, .inl (fun _ => 0)) → w1 6 = .inl (G.2.1 0, 30, .inl (fun _ => 0)) → w1 7 = .inl (G.2.1 0, 30, .inl (fun _ => 0)) → w1 8 = .inl (G.2.1 0, 30, .inl (fun _ => 0)) → w1 9 = .inl (G.2.1 0, 20, .inl (fun _ => 0)) → w1 10 = .inl (G.2.1 0, 20, .inl (fun _ => 0)) → w1 11 = .inl (G.2.1 0, 20, .inl (fun _ => 0)) → w1 12 = .inl (G.2.1 0, 20, .inl (fun _ => 0)) → w1 13 = .inl (G.2.1 0, 6, .inl (fun _ => 0)) → w1 14 = .inl (G.2.1 0, 6, .inl (fun _ => 0)) → w1 15 = .inl (G.2.1 0, 6, .inl (fun _ => 0)) → w1 16 = .inl (G.2.1 0, 6, .inl (fun _ => 0)) → w1 17 = .inl (G.2.1 0, 6, .inl (fun _ => 0)) → w1 18 = .inl (G.2.1 0, 6, .inl (fun _ => 0)) → w1 19 = .inl (G.2.1 0, 6, .inl (fun _ => 0)) → w1 20 = .inl (G.2.1 0, 24, .inl (fun _ => 0)) → w1 21 = .inl (G.2.1 0, 24, .inl (fun _ => 0)) → w1 22 = .inl (G.2.1 0, 6, .inl (fun _ => 0)) → w1 23 = .inl (G.2.1 0, 72, .inl (fun _ => 0)) → w1 24 = .inl (G.2.1 0, 72, .inl (fun _ => 0)) → w1 25 = .inl (G.2.1 0, 72, .inl (fun _ => 0)) → w1 26 = .inl (G.2.1 0, 6, .inl (fun _ => 0)) → w1 27 = .inl (G.2.1 0, 30, .inl (fun _ => 0)) → w1 28 = .inl (G.2.1 0, 30, .inl (fun _ => 0)) → w1 29 = .inl (G.2.1 0, 30, .inl (fun _ => 0)) → w1 30 = .inl (G.2.1 1, 6, .inl (fun _ => 0)) → w1 31 = .inl (G.2.1 0, 6, .inl (fun _ => 0)) → w1 32 = .inl (G.2.1 0, 24, .inl (fun _ => 0)) → w1 33 = .inl (G.2.1 0, 24, .inl (fun _ => 0)) → w1 34 = .inl (G.2.1 0, 100, .inl (fun _ => 0)) → w1 35 = .inl (G.2.1 0, 1700, .inl (fun _ => 0)) → w1 36 = .inl (G.2.1 0, 17, .inl (fun _ => 0)) → w1 37 = .inl (G.2.1 0, 100, .inl (fun _ => 0)) → w1 38 = .inl (G.2.1 0, 13, .inl (fun _ => 0)) → w1 39 = .inl (G.2.1 0, 6, .inl (fun _ => 0)) → w1 40 = .inl (G.2.1 0, 6, .inl (fun _ => 0)) → w1 41 = .inl (G.2.1 0, 6, .inl (fun _ => 0)) → w1 42 = .inl (G.2.1 0, 6, .inl (fun _ => 0)) → w1 43 = .inl (G.2.1 0, 6, .inl (fun _ => 0)) → w1 44 = .inl (G.2.1 0, 6, .inl (fun _ => 0)) → w1 45 = .inl (G.2.1 0, 6, .inl (fun _ => 0)) → tw_H G 46 ad1 w1 A s H locs → lv_has ls 2 [(0, .ref (ad 0))] → W p l e ({ frames := 1, cells := 79, slots := 3514, locals := 23 }) s m args below meth c H locs 45 2657 Q (F0 m 379 ls [])) : W p l e ({ frames := 1, cells := 79, slots := 3514, locals := 23 }) s m args below meth c H locs 37 2602 Q (F0 m 315 ls []) := by
  have hx := F.1.1
  have hb := F.1.2.1
  have hown := F.1.2.2.2.1
  have hts := F.1.2.2.2.2
  refine lv_aload_n hx hb dX12_init_315 rfl (lv_at hl 0 rfl) ?_
  refine lv_bipush (v := 13) hx hb dX12_init_316 (by decide) ?_
  refine tw_newa (t := 0) (atype := .int) (ty := .int) (n' := 13) (a0 := (13, .inl (fun _ => 0))) F hH rfl (fun C h => by cases h) (tw_gl kw_47 rfl) rfl (fun _ => rfl) (by decide) (Nat.le_of_ble_eq_true rfl) (Nat.le_of_ble_eq_true rfl) (Nat.le_of_ble_eq_true rfl) dX12_init_318 (fun H locs ad558 w555 ha559 hw556 hne557 hH => ?_)
  have hw560 : w555 0 = .inr (12, (mo_5 G adS5)) := (hne557 0 (nn_ne rfl)).trans (f5_0)
  refine tw_putF (r := 0) F hH kf_RX12_299 kp_X12_48 hin rfl ((ha559 0 (nn_lt rfl)).trans (hz5 0 (nn_lt rfl))) (by decide) hw560 (Nat.lt_of_le_of_lt (by decide) (hmo_5 G adS5)) rfl rfl dX12_init_320 (fun H locs w561 hw562 hne563 hH => ?_)
  obtain ⟨fs564, efs564⟩ : ∃ z : List Value, z = List.set (mo_5 G adS5) 48 (.ref (ad558 38)) := ⟨_, rfl⟩
  rw [← efs564] at hw562
  have hfs564 : 96 < fs564.length := by rw [efs564, List.length_set]; exact (hmo_5 G adS5)
  refine lv_aload_n hx hb dX12_init_323 rfl (lv_at hl 0 rfl) ?_
  refine lv_bipush (v := 6) hx hb dX12_init_324 (by decide) ?_
  refine tw_newa (t := 0) (atype := .int) (ty := .int) (n' := 6) (a0 := (6, .inl (fun _ => 0))) F hH rfl (fun C h => by cases h) (tw_gl kw_47 rfl) rfl (fun _ => rfl) (by decide) (Nat.le_of_ble_eq_true rfl) (Nat.le_of_ble_eq_true rfl) (Nat.le_of_ble_eq_true rfl) dX12_init_326 (fun H locs ad568 w565 ha569 hw566 hne567 hH => ?_)
  have hw570 : w565 0 = .inr (12, fs564) := (hne567 0 (nn_ne rfl)).trans (hw562)
  refine tw_putF (r := 0) F hH kf_RX12_309 kp_X12_49 hin rfl (((ha569 0 (nn_lt rfl)).trans (ha559 0 (nn_lt rfl))).trans (hz5 0 (nn_lt rfl))) (by decide) hw570 (Nat.lt_of_le_of_lt (by decide) hfs564) rfl rfl dX12_init_328 (fun H locs w571 hw572 hne573 hH => ?_)
  obtain ⟨fs574, efs574⟩ : ∃ z : List Value, z = List.set fs564 49 (.ref (ad568 39)) := ⟨_, rfl⟩
  rw [← efs574] at hw572
  have hfs574 : 96 < fs574.length := by rw [efs574, List.length_set]; exact hfs564
  refine lv_aload_n hx hb dX12_init_331 rfl (lv_at hl 0 rfl) ?_
  refine lv_bipush (v := 6) hx hb dX12_init_332 (by decide) ?_
  refine tw_newa (t := 0) (atype := .int) (ty := .int) (n' := 6) (a0 := (6, .inl (fun _ => 0))) F hH rfl (fun C h => by cases h) (tw_gl kw_47 rfl) rfl (fun _ => rfl) (by decide) (Nat.le_of_ble_eq_true rfl) (Nat.le_of_ble_eq_true rfl) (Nat.le_of_ble_eq_true rfl) dX12_init_334 (fun H locs ad578 w575 ha579 hw576 hne577 hH => ?_)
  have hw580 : w575 0 = .inr (12, fs574) := (hne577 0 (nn_ne rfl)).trans (hw572)
  have ha584 : ad578 0 = ad 0 := ((((ha579 0 (nn_lt rfl)).trans (ha569 0 (nn_lt rfl))).trans (ha559 0 (nn_lt rfl))).trans (hz5 0 (nn_lt rfl)))
  refine tw_putF (r := 0) F hH kf_RX12_321 kp_X12_50 hin rfl ha584 (by decide) hw580 (Nat.lt_of_le_of_lt (by decide) hfs574) rfl rfl dX12_init_336 (fun H locs w581 hw582 hne583 hH => ?_)
  obtain ⟨fs585, efs585⟩ : ∃ z : List Value, z = List.set fs574 50 (.ref (ad578 40)) := ⟨_, rfl⟩
  rw [← efs585] at hw582
  have hfs585 : 96 < fs585.length := by rw [efs585, List.length_set]; exact hfs574
  refine lv_aload_n hx hb dX12_init_339 rfl (lv_at hl 0 rfl) ?_
  refine lv_bipush (v := 6) hx hb dX12_init_340 (by decide) ?_
  refine tw_newa (t := 0) (atype := .int) (ty := .int) (n' := 6) (a0 := (6, .inl (fun _ => 0))) F hH rfl (fun C h => by cases h) (tw_gl kw_47 rfl) rfl (fun _ => rfl) (by decide) (Nat.le_of_ble_eq_true rfl) (Nat.le_of_ble_eq_true rfl) (Nat.le_of_ble_eq_true rfl) dX12_init_342 (fun H locs ad589 w586 ha590 hw587 hne588 hH => ?_)
  have hw591 : w586 0 = .inr (12, fs585) := (hne588 0 (nn_ne rfl)).trans (hw582)
  have ha595 : ad589 0 = ad 0 := ((ha590 0 (nn_lt rfl)).trans ha584)
  refine tw_putF (r := 0) F hH kf_RX12_318 kp_X12_51 hin rfl ha595 (by decide) hw591 (Nat.lt_of_le_of_lt (by decide) hfs585) rfl rfl dX12_init_344 (fun H locs w592 hw593 hne594 hH => ?_)
  obtain ⟨fs596, efs596⟩ : ∃ z : List Value, z = List.set fs585 51 (.ref (ad589 41)) := ⟨_, rfl⟩
  rw [← efs596] at hw593
  have hfs596 : 96 < fs596.length := by rw [efs596, List.length_set]; exact hfs585
  refine lv_aload_n hx hb dX12_init_347 rfl (lv_at hl 0 rfl) ?_
  refine lv_bipush (v := 6) hx hb dX12_init_348 (by decide) ?_
  refine tw_newa (t := 0) (atype := .int) (ty := .int) (n' := 6) (a0 := (6, .inl (fun _ => 0))) F hH rfl (fun C h => by cases h) (tw_gl kw_47 rfl) rfl (fun _ => rfl) (by decide) (Nat.le_of_ble_eq_true rfl) (Nat.le_of_ble_eq_true rfl) (Nat.le_of_ble_eq_true rfl) dX12_init_350 (fun H locs ad600 w597 ha601 hw598 hne599 hH => ?_)
  have hw602 : w597 0 = .inr (12, fs596) := (hne599 0 (nn_ne rfl)).trans (hw593)
  have ha606 : ad600 0 = ad 0 := ((ha601 0 (nn_lt rfl)).trans ha595)
  refine tw_putF (r := 0) F hH kf_RX12_324 kp_X12_52 hin rfl ha606 (by decide) hw602 (Nat.lt_of_le_of_lt (by decide) hfs596) rfl rfl dX12_init_352 (fun H locs w603 hw604 hne605 hH => ?_)
  obtain ⟨fs607, efs607⟩ : ∃ z : List Value, z = List.set fs596 52 (.ref (ad600 42)) := ⟨_, rfl⟩
  rw [← efs607] at hw604
  have hfs607 : 96 < fs607.length := by rw [efs607, List.length_set]; exact hfs596
  refine lv_aload_n hx hb dX12_init_355 rfl (lv_at hl 0 rfl) ?_
  refine lv_bipush (v := 6) hx hb dX12_init_356 (by decide) ?_
  refine tw_newa (t := 0) (atype := .int) (ty := .int) (n' := 6) (a0 := (6, .inl (fun _ => 0))) F hH rfl (fun C h => by cases h) (tw_gl kw_47 rfl) rfl (fun _ => rfl) (by decide) (Nat.le_of_ble_eq_true rfl) (Nat.le_of_ble_eq_true rfl) (Nat.le_of_ble_eq_true rfl) dX12_init_358 (fun H locs ad611 w608 ha612 hw609 hne610 hH => ?_)
  have hw613 : w608 0 = .inr (12, fs607) := (hne610 0 (nn_ne rfl)).trans (hw604)
  have ha617 : ad611 0 = ad 0 := ((ha612 0 (nn_lt rfl)).trans ha606)
  refine tw_putF (r := 0) F hH kf_RX12_327 kp_X12_53 hin rfl ha617 (by decide) hw613 (Nat.lt_of_le_of_lt (by decide) hfs607) rfl rfl dX12_init_360 (fun H locs w614 hw615 hne616 hH => ?_)
  obtain ⟨fs618, efs618⟩ : ∃ z : List Value, z = List.set fs607 53 (.ref (ad611 43)) := ⟨_, rfl⟩
  rw [← efs618] at hw615
  have hfs618 : 96 < fs618.length := by rw [efs618, List.length_set]; exact hfs607
  refine lv_aload_n hx hb dX12_init_363 rfl (lv_at hl 0 rfl) ?_
  refine lv_bipush (v := 6) hx hb dX12_init_364 (by decide) ?_
  refine tw_newa (t := 0) (atype := .int) (ty := .int) (n' := 6) (a0 := (6, .inl (fun _ => 0))) F hH rfl (fun C h => by cases h) (tw_gl kw_47 rfl) rfl (fun _ => rfl) (by decide) (Nat.le_of_ble_eq_true rfl) (Nat.le_of_ble_eq_true rfl) (Nat.le_of_ble_eq_true rfl) dX12_init_366 (fun H locs ad622 w619 ha623 hw620 hne621 hH => ?_)
  have hw624 : w619 0 = .inr (12, fs618) := (hne621 0 (nn_ne rfl)).trans (hw615)
  have ha628 : ad622 0 = ad 0 := ((ha623 0 (nn_lt rfl)).trans ha617)
  refine tw_putF (r := 0) F hH kf_RX12_330 kp_X12_54 hin rfl ha628 (by decide) hw624 (Nat.lt_of_le_of_lt (by decide) hfs618) rfl rfl dX12_init_368 (fun H locs w625 hw626 hne627 hH => ?_)
  obtain ⟨fs629, efs629⟩ : ∃ z : List Value, z = List.set fs618 54 (.ref (ad622 44)) := ⟨_, rfl⟩
  rw [← efs629] at hw626
  have hfs629 : 96 < fs629.length := by rw [efs629, List.length_set]; exact hfs618
  refine lv_aload_n hx hb dX12_init_371 rfl (lv_at hl 0 rfl) ?_
  refine lv_bipush (v := 6) hx hb dX12_init_372 (by decide) ?_
  refine tw_newa (t := 0) (atype := .int) (ty := .int) (n' := 6) (a0 := (6, .inl (fun _ => 0))) F hH rfl (fun C h => by cases h) (tw_gl kw_47 rfl) rfl (fun _ => rfl) (by decide) (Nat.le_of_ble_eq_true rfl) (Nat.le_of_ble_eq_true rfl) (Nat.le_of_ble_eq_true rfl) dX12_init_374 (fun H locs ad633 w630 ha634 hw631 hne632 hH => ?_)
  have hw635 : w630 0 = .inr (12, fs629) := (hne632 0 (nn_ne rfl)).trans (hw626)
  have ha639 : ad633 0 = ad 0 := ((ha634 0 (nn_lt rfl)).trans ha628)
  refine tw_putF (r := 0) F hH kf_RX12_333 kp_X12_55 hin rfl ha639 (by decide) hw635 (Nat.lt_of_le_of_lt (by decide) hfs629) rfl rfl dX12_init_376 (fun H locs w636 hw637 hne638 hH => ?_)
  obtain ⟨fs640, efs640⟩ : ∃ z : List Value, z = List.set fs629 55 (.ref (ad633 45)) := ⟨_, rfl⟩
  rw [← efs640] at hw637
  have hfs640 : 96 < fs640.length := by rw [efs640, List.length_set]; exact hfs629
  have ha641 : ad633 38 = ad558 38 := (((((((ha634 38 (nn_lt rfl)).trans (ha623 38 (nn_lt rfl))).trans (ha612 38 (nn_lt rfl))).trans (ha601 38 (nn_lt rfl))).trans (ha590 38 (nn_lt rfl))).trans (ha579 38 (nn_lt rfl))).trans (ha569 38 (nn_lt rfl)))
  have ha642 : ad633 39 = ad568 39 := ((((((ha634 39 (nn_lt rfl)).trans (ha623 39 (nn_lt rfl))).trans (ha612 39 (nn_lt rfl))).trans (ha601 39 (nn_lt rfl))).trans (ha590 39 (nn_lt rfl))).trans (ha579 39 (nn_lt rfl)))
  have ha643 : ad633 40 = ad578 40 := (((((ha634 40 (nn_lt rfl)).trans (ha623 40 (nn_lt rfl))).trans (ha612 40 (nn_lt rfl))).trans (ha601 40 (nn_lt rfl))).trans (ha590 40 (nn_lt rfl)))
  have ha644 : ad633 41 = ad589 41 := ((((ha634 41 (nn_lt rfl)).trans (ha623 41 (nn_lt rfl))).trans (ha612 41 (nn_lt rfl))).trans (ha601 41 (nn_lt rfl)))
  have ha645 : ad633 42 = ad600 42 := (((ha634 42 (nn_lt rfl)).trans (ha623 42 (nn_lt rfl))).trans (ha612 42 (nn_lt rfl)))
  have ha646 : ad633 43 = ad611 43 := ((ha634 43 (nn_lt rfl)).trans (ha623 43 (nn_lt rfl)))
  have ha647 : ad633 44 = ad622 44 := (ha634 44 (nn_lt rfl))
  have hw648 : w636 0 = .inr (12, mo_6 G ad633) := by rw [hw637]; rw [efs640, efs629, efs618, efs607, efs596, efs585, efs574, efs564]; rw [mo_5_c (a := adS5) (b := ad633) (fun j hj => ((((((((ha634 j (by omega)).trans (ha623 j (by omega))).trans (ha612 j (by omega))).trans (ha601 j (by omega))).trans (ha590 j (by omega))).trans (ha579 j (by omega))).trans (ha569 j (by omega))).trans (ha559 j (by omega))).symm)]; rw [show ad558 38 = ad633 38 from ha641.symm, show ad568 39 = ad633 39 from ha642.symm, show ad578 40 = ad633 40 from ha643.symm, show ad589 41 = ad633 41 from ha644.symm, show ad600 42 = ad633 42 from ha645.symm, show ad611 43 = ad633 43 from ha646.symm, show ad622 44 = ad633 44 from ha647.symm]; rfl
  have hall5_w636 : ∀ k : Nat, 1 ≤ k → k ≤ 37 → w636 k = wS5 k := fun k h1 h2 => (hne638 k (by omega)).trans ((hne632 k (by omega)).trans ((hne627 k (by omega)).trans ((hne621 k (by omega)).trans ((hne616 k (by omega)).trans ((hne610 k (by omega)).trans ((hne605 k (by omega)).trans ((hne599 k (by omega)).trans ((hne594 k (by omega)).trans ((hne588 k (by omega)).trans ((hne583 k (by omega)).trans ((hne577 k (by omega)).trans ((hne573 k (by omega)).trans ((hne567 k (by omega)).trans ((hne563 k (by omega)).trans ((hne557 k (by omega)))))))))))))))))
  have hw649 : w636 1 = .inl (G.2.1 0, 5, .inl (fun _ => 0)) := (hall5_w636 1 (by decide) (by decide)).trans f5_1
  have hw650 : w636 2 = .inl (G.2.1 0, 5, .inl (fun _ => 0)) := (hall5_w636 2 (by decide) (by decide)).trans f5_2
  have hw651 : w636 3 = .inl (G.2.1 1, 5, .inl (fun _ => 0)) := (hall5_w636 3 (by decide) (by decide)).trans f5_3
  have hw652 : w636 4 = .inl (G.2.1 0, 24, .inl (fun _ => 0)) := (hall5_w636 4 (by decide) (by decide)).trans f5_4
  have hw653 : w636 5 = .inl (G.2.1 0, 8, .inl (fun _ => 0)) := (hall5_w636 5 (by decide) (by decide)).trans f5_5
  have hw654 : w636 6 = .inl (G.2.1 0, 30, .inl (fun _ => 0)) := (hall5_w636 6 (by decide) (by decide)).trans f5_6
  have hw655 : w636 7 = .inl (G.2.1 0, 30, .inl (fun _ => 0)) := (hall5_w636 7 (by decide) (by decide)).trans f5_7
  have hw656 : w636 8 = .inl (G.2.1 0, 30, .inl (fun _ => 0)) := (hall5_w636 8 (by decide) (by decide)).trans f5_8
  have hw657 : w636 9 = .inl (G.2.1 0, 20, .inl (fun _ => 0)) := (hall5_w636 9 (by decide) (by decide)).trans f5_9
  have hw658 : w636 10 = .inl (G.2.1 0, 20, .inl (fun _ => 0)) := (hall5_w636 10 (by decide) (by decide)).trans f5_10
  have hw659 : w636 11 = .inl (G.2.1 0, 20, .inl (fun _ => 0)) := (hall5_w636 11 (by decide) (by decide)).trans f5_11
  have hw660 : w636 12 = .inl (G.2.1 0, 20, .inl (fun _ => 0)) := (hall5_w636 12 (by decide) (by decide)).trans f5_12
  have hw661 : w636 13 = .inl (G.2.1 0, 6, .inl (fun _ => 0)) := (hall5_w636 13 (by decide) (by decide)).trans f5_13
  have hw662 : w636 14 = .inl (G.2.1 0, 6, .inl (fun _ => 0)) := (hall5_w636 14 (by decide) (by decide)).trans f5_14
  have hw663 : w636 15 = .inl (G.2.1 0, 6, .inl (fun _ => 0)) := (hall5_w636 15 (by decide) (by decide)).trans f5_15
  have hw664 : w636 16 = .inl (G.2.1 0, 6, .inl (fun _ => 0)) := (hall5_w636 16 (by decide) (by decide)).trans f5_16
  have hw665 : w636 17 = .inl (G.2.1 0, 6, .inl (fun _ => 0)) := (hall5_w636 17 (by decide) (by decide)).trans f5_17
  have hw666 : w636 18 = .inl (G.2.1 0, 6, .inl (fun _ => 0)) := (hall5_w636 18 (by decide) (by decide)).trans f5_18
  have hw667 : w636 19 = .inl (G.2.1 0, 6, .inl (fun _ => 0)) := (hall5_w636 19 (by decide) (by decide)).trans f5_19
  have hw668 : w636 20 = .inl (G.2.1 0, 24, .inl (fun _ => 0)) := (hall5_w636 20 (by decide) (by decide)).trans f5_20
  have hw669 : w636 21 = .inl (G.2.1 0, 24, .inl (fun _ => 0)) := (hall5_w636 21 (by decide) (by decide)).trans f5_21
  have hw670 : w636 22 = .inl (G.2.1 0, 6, .inl (fun _ => 0)) := (hall5_w636 22 (by decide) (by decide)).trans f5_22
  have hw671 : w636 23 = .inl (G.2.1 0, 72, .inl (fun _ => 0)) := (hall5_w636 23 (by decide) (by decide)).trans f5_23
  have hw672 : w636 24 = .inl (G.2.1 0, 72, .inl (fun _ => 0)) := (hall5_w636 24 (by decide) (by decide)).trans f5_24
  have hw673 : w636 25 = .inl (G.2.1 0, 72, .inl (fun _ => 0)) := (hall5_w636 25 (by decide) (by decide)).trans f5_25
  have hw674 : w636 26 = .inl (G.2.1 0, 6, .inl (fun _ => 0)) := (hall5_w636 26 (by decide) (by decide)).trans f5_26
  have hw675 : w636 27 = .inl (G.2.1 0, 30, .inl (fun _ => 0)) := (hall5_w636 27 (by decide) (by decide)).trans f5_27
  have hw676 : w636 28 = .inl (G.2.1 0, 30, .inl (fun _ => 0)) := (hall5_w636 28 (by decide) (by decide)).trans f5_28
  have hw677 : w636 29 = .inl (G.2.1 0, 30, .inl (fun _ => 0)) := (hall5_w636 29 (by decide) (by decide)).trans f5_29
  have hw678 : w636 30 = .inl (G.2.1 1, 6, .inl (fun _ => 0)) := (hall5_w636 30 (by decide) (by decide)).trans f5_30
  have hw679 : w636 31 = .inl (G.2.1 0, 6, .inl (fun _ => 0)) := (hall5_w636 31 (by decide) (by decide)).trans f5_31
  have hw680 : w636 32 = .inl (G.2.1 0, 24, .inl (fun _ => 0)) := (hall5_w636 32 (by decide) (by decide)).trans f5_32
  have hw681 : w636 33 = .inl (G.2.1 0, 24, .inl (fun _ => 0)) := (hall5_w636 33 (by decide) (by decide)).trans f5_33
  have hw682 : w636 34 = .inl (G.2.1 0, 100, .inl (fun _ => 0)) := (hall5_w636 34 (by decide) (by decide)).trans f5_34
  have hw683 : w636 35 = .inl (G.2.1 0, 1700, .inl (fun _ => 0)) := (hall5_w636 35 (by decide) (by decide)).trans f5_35
  have hw684 : w636 36 = .inl (G.2.1 0, 17, .inl (fun _ => 0)) := (hall5_w636 36 (by decide) (by decide)).trans f5_36
  have hw685 : w636 37 = .inl (G.2.1 0, 100, .inl (fun _ => 0)) := (hall5_w636 37 (by decide) (by decide)).trans f5_37
  have hw686 : w636 38 = .inl (G.2.1 0, 13, .inl (fun _ => 0)) := (hne638 38 (nn_ne rfl)).trans ((hne632 38 (nn_ne rfl)).trans ((hne627 38 (nn_ne rfl)).trans ((hne621 38 (nn_ne rfl)).trans ((hne616 38 (nn_ne rfl)).trans ((hne610 38 (nn_ne rfl)).trans ((hne605 38 (nn_ne rfl)).trans ((hne599 38 (nn_ne rfl)).trans ((hne594 38 (nn_ne rfl)).trans ((hne588 38 (nn_ne rfl)).trans ((hne583 38 (nn_ne rfl)).trans ((hne577 38 (nn_ne rfl)).trans ((hne573 38 (nn_ne rfl)).trans ((hne567 38 (nn_ne rfl)).trans ((hne563 38 (nn_ne rfl)).trans (hw556)))))))))))))))
  have hw687 : w636 39 = .inl (G.2.1 0, 6, .inl (fun _ => 0)) := (hne638 39 (nn_ne rfl)).trans ((hne632 39 (nn_ne rfl)).trans ((hne627 39 (nn_ne rfl)).trans ((hne621 39 (nn_ne rfl)).trans ((hne616 39 (nn_ne rfl)).trans ((hne610 39 (nn_ne rfl)).trans ((hne605 39 (nn_ne rfl)).trans ((hne599 39 (nn_ne rfl)).trans ((hne594 39 (nn_ne rfl)).trans ((hne588 39 (nn_ne rfl)).trans ((hne583 39 (nn_ne rfl)).trans ((hne577 39 (nn_ne rfl)).trans ((hne573 39 (nn_ne rfl)).trans (hw566)))))))))))))
  have hw688 : w636 40 = .inl (G.2.1 0, 6, .inl (fun _ => 0)) := (hne638 40 (nn_ne rfl)).trans ((hne632 40 (nn_ne rfl)).trans ((hne627 40 (nn_ne rfl)).trans ((hne621 40 (nn_ne rfl)).trans ((hne616 40 (nn_ne rfl)).trans ((hne610 40 (nn_ne rfl)).trans ((hne605 40 (nn_ne rfl)).trans ((hne599 40 (nn_ne rfl)).trans ((hne594 40 (nn_ne rfl)).trans ((hne588 40 (nn_ne rfl)).trans ((hne583 40 (nn_ne rfl)).trans (hw576)))))))))))
  have hw689 : w636 41 = .inl (G.2.1 0, 6, .inl (fun _ => 0)) := (hne638 41 (nn_ne rfl)).trans ((hne632 41 (nn_ne rfl)).trans ((hne627 41 (nn_ne rfl)).trans ((hne621 41 (nn_ne rfl)).trans ((hne616 41 (nn_ne rfl)).trans ((hne610 41 (nn_ne rfl)).trans ((hne605 41 (nn_ne rfl)).trans ((hne599 41 (nn_ne rfl)).trans ((hne594 41 (nn_ne rfl)).trans (hw587)))))))))
  have hw690 : w636 42 = .inl (G.2.1 0, 6, .inl (fun _ => 0)) := (hne638 42 (nn_ne rfl)).trans ((hne632 42 (nn_ne rfl)).trans ((hne627 42 (nn_ne rfl)).trans ((hne621 42 (nn_ne rfl)).trans ((hne616 42 (nn_ne rfl)).trans ((hne610 42 (nn_ne rfl)).trans ((hne605 42 (nn_ne rfl)).trans (hw598)))))))
  have hw691 : w636 43 = .inl (G.2.1 0, 6, .inl (fun _ => 0)) := (hne638 43 (nn_ne rfl)).trans ((hne632 43 (nn_ne rfl)).trans ((hne627 43 (nn_ne rfl)).trans ((hne621 43 (nn_ne rfl)).trans ((hne616 43 (nn_ne rfl)).trans (hw609)))))
  have hw692 : w636 44 = .inl (G.2.1 0, 6, .inl (fun _ => 0)) := (hne638 44 (nn_ne rfl)).trans ((hne632 44 (nn_ne rfl)).trans ((hne627 44 (nn_ne rfl)).trans (hw620)))
  have hw693 : w636 45 = .inl (G.2.1 0, 6, .inl (fun _ => 0)) := (hne638 45 (nn_ne rfl)).trans (hw631)
  exact kk H locs ad633 w636 ls (fun k hk => (((((((((ha634 k (by omega)).trans (ha623 k (by omega))).trans (ha612 k (by omega))).trans (ha601 k (by omega))).trans (ha590 k (by omega))).trans (ha579 k (by omega))).trans (ha569 k (by omega))).trans (ha559 k (by omega)))).trans (hz5 k (by omega))) hw648 hw649 hw650 hw651 hw652 hw653 hw654 hw655 hw656 hw657 hw658 hw659 hw660 hw661 hw662 hw663 hw664 hw665 hw666 hw667 hw668 hw669 hw670 hw671 hw672 hw673 hw674 hw675 hw676 hw677 hw678 hw679 hw680 hw681 hw682 hw683 hw684 hw685 hw686 hw687 hw688 hw689 hw690 hw691 hw692 hw693 hH hl

def mo_7 (G : tw_G) (a : Nat → Nat) : List Value := [.int (0 : Int32), .int (2 : Int32), .int (1 : Int32), .ref (a 1), .ref (a 2), .ref (a 3), .ref (a 4), .ref (a 5), .int (0 : Int32), .ref (a 6), .ref (a 7), .ref (a 8), .int (0 : Int32), .ref (a 9), .ref (a 10), .ref (a 11), .ref (a 12), .int (0 : Int32), .ref (a 13), .ref (a 14), .ref (a 15), .ref (a 16), .ref (a 17), .ref (a 18), .ref (a 19), .ref (a 20), .ref (a 21), .ref (a 22), .ref (a 23), .ref (a 24), .ref (a 25), .ref (a 26), .ref (a 27), .ref (a 28), .ref (a 29), .ref (a 30), .ref (a 31), .ref (a 32), .ref (a 33), .ref (a 34), .int (0 : Int32), .int (0 : Int32), .int (0 : Int32), .ref (G.2.2 (100 + 10)), .ref (a 35), .ref (a 36), .ref (a 37), .int (0 : Int32), .ref (a 38), .ref (a 39), .ref (a 40), .ref (a 41), .ref (a 42), .ref (a 43), .ref (a 44), .ref (a 45), .ref (a 46), .ref (a 47), .ref (a 48), .ref (a 49), .ref (a 50), .ref (a 51), .ref (a 52), .ref (a 53), .null, .null, .null, .null, .null, .null, .int (0 : Int32), .null, .int (0 : Int32), .null, .null, .int (0 : Int32), .null, .null, .null, .null, .null, .null, .int (0 : Int32), .null, .null, .null, .null, .null, .int (0 : Int32), .int (0 : Int32), .int (0 : Int32), .null, .null, .null, .null, .null, .null]
theorem mo_7_c {G : tw_G} {a b : Nat → Nat} (h : ∀ j, j < 54 → a j = b j) : mo_7 G a = mo_7 G b := by
  unfold mo_7
  rw [h 1 (by decide), h 2 (by decide), h 3 (by decide), h 4 (by decide), h 5 (by decide), h 6 (by decide), h 7 (by decide), h 8 (by decide), h 9 (by decide), h 10 (by decide), h 11 (by decide), h 12 (by decide), h 13 (by decide), h 14 (by decide), h 15 (by decide), h 16 (by decide), h 17 (by decide), h 18 (by decide), h 19 (by decide), h 20 (by decide), h 21 (by decide), h 22 (by decide), h 23 (by decide), h 24 (by decide), h 25 (by decide), h 26 (by decide), h 27 (by decide), h 28 (by decide), h 29 (by decide), h 30 (by decide), h 31 (by decide), h 32 (by decide), h 33 (by decide), h 34 (by decide), h 35 (by decide), h 36 (by decide), h 37 (by decide), h 38 (by decide), h 39 (by decide), h 40 (by decide), h 41 (by decide), h 42 (by decide), h 43 (by decide), h 44 (by decide), h 45 (by decide), h 46 (by decide), h 47 (by decide), h 48 (by decide), h 49 (by decide), h 50 (by decide), h 51 (by decide), h 52 (by decide), h 53 (by decide)]
theorem hmo_7 (G : tw_G) (a : Nat → Nat) : 96 < (mo_7 G a).length := Nat.le_of_ble_eq_true rfl
set_option maxHeartbeats 20000000 in
set_option maxRecDepth 100000 in
theorem c_X12_init_s7 {p : Program} {l : Launch} {e : Env} {s : State} {m : MethodId} {args : Array Value} {below : List Frame} {meth : Method} {c : Code} {G : tw_G} {A : Nat → Prop} {Q : State → Prop} {H : Heap} {locs : List Loc} {ls : Array Slot} {ad adS6 : Nat → Nat} {wS6 : Nat → va_E} (F : tw_F p m c cX12_init 2 s args RX12 G A) (hin : meth.name = "<init>") (hz6 : ∀ k, k < 1 → adS6 k = ad k) (f6_0 : wS6 0 = .inr (12, mo_6 G adS6)) (f6_1 : wS6 1 = .inl (G.2.1 0, 5, .inl (fun _ => 0))) (f6_2 : wS6 2 = .inl (G.2.1 0, 5, .inl (fun _ => 0))) (f6_3 : wS6 3 = .inl (G.2.1 1, 5, .inl (fun _ => 0))) (f6_4 : wS6 4 = .inl (G.2.1 0, 24, .inl (fun _ => 0))) (f6_5 : wS6 5 = .inl (G.2.1 0, 8, .inl (fun _ => 0))) (f6_6 : wS6 6 = .inl (G.2.1 0, 30, .inl (fun _ => 0))) (f6_7 : wS6 7 = .inl (G.2.1 0, 30, .inl (fun _ => 0))) (f6_8 : wS6 8 = .inl (G.2.1 0, 30, .inl (fun _ => 0))) (f6_9 : wS6 9 = .inl (G.2.1 0, 20, .inl (fun _ => 0))) (f6_10 : wS6 10 = .inl (G.2.1 0, 20, .inl (fun _ => 0))) (f6_11 : wS6 11 = .inl (G.2.1 0, 20, .inl (fun _ => 0))) (f6_12 : wS6 12 = .inl (G.2.1 0, 20, .inl (fun _ => 0))) (f6_13 : wS6 13 = .inl (G.2.1 0, 6, .inl (fun _ => 0))) (f6_14 : wS6 14 = .inl (G.2.1 0, 6, .inl (fun _ => 0))) (f6_15 : wS6 15 = .inl (G.2.1 0, 6, .inl (fun _ => 0))) (f6_16 : wS6 16 = .inl (G.2.1 0, 6, .inl (fun _ => 0))) (f6_17 : wS6 17 = .inl (G.2.1 0, 6, .inl (fun _ => 0))) (f6_18 : wS6 18 = .inl (G.2.1 0, 6, .inl (fun _ => 0))) (f6_19 : wS6 19 = .inl (G.2.1 0, 6, .inl (fun _ => 0))) (f6_20 : wS6 20 = .inl (G.2.1 0, 24, .inl (fun _ => 0))) (f6_21 : wS6 21 = .inl (G.2.1 0, 24, .inl (fun _ => 0))) (f6_22 : wS6 22 = .inl (G.2.1 0, 6, .inl (fun _ => 0))) (f6_23 : wS6 23 = .inl (G.2.1 0, 72, .inl (fun _ => 0))) (f6_24 : wS6 24 = .inl (G.2.1 0, 72, .inl (fun _ => 0))) (f6_25 : wS6 25 = .inl (G.2.1 0, 72, .inl (fun _ => 0))) (f6_26 : wS6 26 = .inl (G.2.1 0, 6, .inl (fun _ => 0))) (f6_27 : wS6 27 = .inl (G.2.1 0, 30, .inl (fun _ => 0))) (f6_28 : wS6 28 = .inl (G.2.1 0, 30, .inl (fun _ => 0))) (f6_29 : wS6 29 = .inl (G.2.1 0, 30, .inl (fun _ => 0))) (f6_30 : wS6 30 = .inl (G.2.1 1, 6, .inl (fun _ => 0))) (f6_31 : wS6 31 = .inl (G.2.1 0, 6, .inl (fun _ => 0))) (f6_32 : wS6 32 = .inl (G.2.1 0, 24, .inl (fun _ => 0))) (f6_33 : wS6 33 = .inl (G.2.1 0, 24, .inl (fun _ => 0))) (f6_34 : wS6 34 = .inl (G.2.1 0, 100, .inl (fun _ => 0))) (f6_35 : wS6 35 = .inl (G.2.1 0, 1700, .inl (fun _ => 0))) (f6_36 : wS6 36 = .inl (G.2.1 0, 17, .inl (fun _ => 0))) (f6_37 : wS6 37 = .inl (G.2.1 0, 100, .inl (fun _ => 0))) (f6_38 : wS6 38 = .inl (G.2.1 0, 13, .inl (fun _ => 0))) (f6_39 : wS6 39 = .inl (G.2.1 0, 6, .inl (fun _ => 0))) (f6_40 : wS6 40 = .inl (G.2.1 0, 6, .inl (fun _ => 0))) (f6_41 : wS6 41 = .inl (G.2.1 0, 6, .inl (fun _ => 0))) (f6_42 : wS6 42 = .inl (G.2.1 0, 6, .inl (fun _ => 0))) (f6_43 : wS6 43 = .inl (G.2.1 0, 6, .inl (fun _ => 0))) (f6_44 : wS6 44 = .inl (G.2.1 0, 6, .inl (fun _ => 0))) (f6_45 : wS6 45 = .inl (G.2.1 0, 6, .inl (fun _ => 0))) (hH : tw_H G 46 adS6 wS6 A s H locs) (hl : lv_has ls 2 [(0, .ref (ad 0))]) (kk : ∀ (H : Heap) (locs : List Loc) (ad1 : Nat → Nat) (w1 : Nat → va_E) (ls : Array Slot), (∀ k, k < 1 → ad1 k = ad k) → w1 0 = .inr (12, mo_7 G ad1) → w1 1 = .inl (G.2.1 0, 5, .inl (fun _ => 0)) → w1 2 = .inl (G.2.1 0, 5, .inl (fun _ => 0)) → w1 3 = .inl (G.2.1 1, 5, .inl (fun _ => 0)) → w1 4 = .inl (G.2.1 0, 24, .inl (fun _ => 0)) → w1 5 = .inl (G.2.1 0, 8, .inl (fun _ => 0)) → w1 6 = .inl (G.2.1 0, 30, .inl (fun _ => 0)) → w1 7 = .inl (G.2.1 0, 30, .inl (fun _ => 0)) → w1 8 = .inl (G.2.1 0, 30, .inl (fun _ => 0)) → w1 9 = .inl (G.2.1 0, 20, .inl (fun _ => 0)) → w1 10 = .inl (G.2.1 0, 20, .inl (fun _ => 0)) → w1 11 = .inl (G.2.1 0, 20, .inl (fun _ => 0)) → w1 12 = .inl (G.2.1 0, 20, .inl (fun _ => 0)) → w1 13 = .inl (G.2.1 0, 6, .inl (fun _ => 0)) → w1 14 = .inl (G.2.1 0, 6, .inl (fun _ => 0)) → w1 15 = .inl (G.2.1 0, 6, .inl (fun _ => 0)) → w1 16 = .inl (G.2.1 0, 6, .inl (fun _ => 0)) → w1 17 = .inl (G.2.1 0, 6, .inl (fun _ => 0)) → w1 18 = .inl (G.2.1 0, 6, .inl (fun _ => 0)) → w1 19 = .inl (G.2.1 0, 6, .inl (fun _ => 0)) → w1 20 = .inl (G.2.1 0, 24, .inl (fun _ => 0)) → w1 21 = .inl (G.2.1 0, 24, .inl (fun _ => 0)) → w1 22 = .inl (G.2.1 0, 6, .inl (fun _ => 0)) → w1 23 = .inl (G.2.1 0, 72, .inl (fun _ => 0)) → w1 24 = .inl (G.2.1 0, 72, .inl (fun _ => 0)) → w1 25 = .inl (G.2.1 0, 72, .inl (fun _ => 0)) → w1 26 = .inl (G.2.1 0, 6, .inl (fun _ => 0)) → w1 27 = .inl (G.2.1 0, 30, .inl (fun _ => 0)) → w1 28 = .inl (G.2.1 0, 30, .inl (fun _ => 0)) → w1 29 = .inl (G.2.1 0, 30, .inl (fun _ => 0)) → w1 30 = .inl (G.2.1 1, 6, .inl (fun _ => 0)) → w1 31 = .inl (G.2.1 0, 6, .inl (fun _ => 0)) → w1 32 = .inl (G.2.1 0, 24, .inl (fun _ => 0)) → w1 33 = .inl (G.2.1 0, 24, .inl (fun _ => 0)) → w1 34 = .inl (G.2.1 0, 100, .inl (fun _ => 0)) → w1 35 = .inl (G.2.1 0, 1700, .inl (fun _ => 0)) → w1 36 = .inl (G.2.1 0, 17, .inl (fun _ => 0)) → w1 37 = .inl (G.2.1 0, 100, .inl (fun _ => 0)) → w1 38 = .inl (G.2.1 0, 13, .inl (fun _ => 0)) → w1 39 = .inl (G.2.1 0, 6, .inl (fun _ => 0)) → w1 40 = .inl (G.2.1 0, 6, .inl (fun _ => 0)) → w1 41 = .inl (G.2.1 0, 6, .inl (fun _ => 0)) → w1 42 = .inl (G.2.1 0, 6, .inl (fun _ => 0)) → w1 43 = .inl (G.2.1 0, 6, .inl (fun _ => 0)) → w1 44 = .inl (G.2.1 0, 6, .inl (fun _ => 0)) → w1 45 = .inl (G.2.1 0, 6, .inl (fun _ => 0)) → w1 46 = .inl (G.2.1 0, 24, .inl (fun _ => 0)) → w1 47 = .inl (G.2.1 0, 6, .inl (fun _ => 0)) → w1 48 = .inl (G.2.1 0, 6, .inl (fun _ => 0)) → w1 49 = .inl (G.2.1 0, 6, .inl (fun _ => 0)) → w1 50 = .inl (G.2.1 0, 6, .inl (fun _ => 0)) → w1 51 = .inl (G.2.1 0, 6, .inl (fun _ => 0)) → w1 52 = .inl (G.2.1 0, 6, .inl (fun _ => 0)) → w1 53 = .inl (G.2.1 0, 6, .inl (fun _ => 0)) → tw_H G 54 ad1 w1 A s H locs → lv_has ls 2 [(0, .ref (ad 0))] → W p l e ({ frames := 1, cells := 79, slots := 3514, locals := 23 }) s m args below meth c H locs 53 2723 Q (F0 m 443 ls [])) : W p l e ({ frames := 1, cells := 79, slots := 3514, locals := 23 }) s m args below meth c H locs 45 2657 Q (F0 m 379 ls []) := by
  have hx := F.1.1
  have hb := F.1.2.1
  have hown := F.1.2.2.2.1
  have hts := F.1.2.2.2.2
  refine lv_aload_n hx hb dX12_init_379 rfl (lv_at hl 0 rfl) ?_
  refine lv_bipush (v := 24) hx hb dX12_init_380 (by decide) ?_
  refine tw_newa (t := 0) (atype := .int) (ty := .int) (n' := 24) (a0 := (24, .inl (fun _ => 0))) F hH rfl (fun C h => by cases h) (tw_gl kw_47 rfl) rfl (fun _ => rfl) (by decide) (Nat.le_of_ble_eq_true rfl) (Nat.le_of_ble_eq_true rfl) (Nat.le_of_ble_eq_true rfl) dX12_init_382 (fun H locs ad697 w694 ha698 hw695 hne696 hH => ?_)
  have hw699 : w694 0 = .inr (12, (mo_6 G adS6)) := (hne696 0 (nn_ne rfl)).trans (f6_0)
  refine tw_putF (r := 0) F hH kf_RX12_360 kp_X12_56 hin rfl ((ha698 0 (nn_lt rfl)).trans (hz6 0 (nn_lt rfl))) (by decide) hw699 (Nat.lt_of_le_of_lt (by decide) (hmo_6 G adS6)) rfl rfl dX12_init_384 (fun H locs w700 hw701 hne702 hH => ?_)
  obtain ⟨fs703, efs703⟩ : ∃ z : List Value, z = List.set (mo_6 G adS6) 56 (.ref (ad697 46)) := ⟨_, rfl⟩
  rw [← efs703] at hw701
  have hfs703 : 96 < fs703.length := by rw [efs703, List.length_set]; exact (hmo_6 G adS6)
  refine lv_aload_n hx hb dX12_init_387 rfl (lv_at hl 0 rfl) ?_
  refine lv_bipush (v := 6) hx hb dX12_init_388 (by decide) ?_
  refine tw_newa (t := 0) (atype := .int) (ty := .int) (n' := 6) (a0 := (6, .inl (fun _ => 0))) F hH rfl (fun C h => by cases h) (tw_gl kw_47 rfl) rfl (fun _ => rfl) (by decide) (Nat.le_of_ble_eq_true rfl) (Nat.le_of_ble_eq_true rfl) (Nat.le_of_ble_eq_true rfl) dX12_init_390 (fun H locs ad707 w704 ha708 hw705 hne706 hH => ?_)
  have hw709 : w704 0 = .inr (12, fs703) := (hne706 0 (nn_ne rfl)).trans (hw701)
  refine tw_putF (r := 0) F hH kf_RX12_336 kp_X12_57 hin rfl (((ha708 0 (nn_lt rfl)).trans (ha698 0 (nn_lt rfl))).trans (hz6 0 (nn_lt rfl))) (by decide) hw709 (Nat.lt_of_le_of_lt (by decide) hfs703) rfl rfl dX12_init_392 (fun H locs w710 hw711 hne712 hH => ?_)
  obtain ⟨fs713, efs713⟩ : ∃ z : List Value, z = List.set fs703 57 (.ref (ad707 47)) := ⟨_, rfl⟩
  rw [← efs713] at hw711
  have hfs713 : 96 < fs713.length := by rw [efs713, List.length_set]; exact hfs703
  refine lv_aload_n hx hb dX12_init_395 rfl (lv_at hl 0 rfl) ?_
  refine lv_bipush (v := 6) hx hb dX12_init_396 (by decide) ?_
  refine tw_newa (t := 0) (atype := .int) (ty := .int) (n' := 6) (a0 := (6, .inl (fun _ => 0))) F hH rfl (fun C h => by cases h) (tw_gl kw_47 rfl) rfl (fun _ => rfl) (by decide) (Nat.le_of_ble_eq_true rfl) (Nat.le_of_ble_eq_true rfl) (Nat.le_of_ble_eq_true rfl) dX12_init_398 (fun H locs ad717 w714 ha718 hw715 hne716 hH => ?_)
  have hw719 : w714 0 = .inr (12, fs713) := (hne716 0 (nn_ne rfl)).trans (hw711)
  have ha723 : ad717 0 = ad 0 := ((((ha718 0 (nn_lt rfl)).trans (ha708 0 (nn_lt rfl))).trans (ha698 0 (nn_lt rfl))).trans (hz6 0 (nn_lt rfl)))
  refine tw_putF (r := 0) F hH kf_RX12_339 kp_X12_58 hin rfl ha723 (by decide) hw719 (Nat.lt_of_le_of_lt (by decide) hfs713) rfl rfl dX12_init_400 (fun H locs w720 hw721 hne722 hH => ?_)
  obtain ⟨fs724, efs724⟩ : ∃ z : List Value, z = List.set fs713 58 (.ref (ad717 48)) := ⟨_, rfl⟩
  rw [← efs724] at hw721
  have hfs724 : 96 < fs724.length := by rw [efs724, List.length_set]; exact hfs713
  refine lv_aload_n hx hb dX12_init_403 rfl (lv_at hl 0 rfl) ?_
  refine lv_bipush (v := 6) hx hb dX12_init_404 (by decide) ?_
  refine tw_newa (t := 0) (atype := .int) (ty := .int) (n' := 6) (a0 := (6, .inl (fun _ => 0))) F hH rfl (fun C h => by cases h) (tw_gl kw_47 rfl) rfl (fun _ => rfl) (by decide) (Nat.le_of_ble_eq_true rfl) (Nat.le_of_ble_eq_true rfl) (Nat.le_of_ble_eq_true rfl) dX12_init_406 (fun H locs ad728 w725 ha729 hw726 hne727 hH => ?_)
  have hw730 : w725 0 = .inr (12, fs724) := (hne727 0 (nn_ne rfl)).trans (hw721)
  have ha734 : ad728 0 = ad 0 := ((ha729 0 (nn_lt rfl)).trans ha723)
  refine tw_putF (r := 0) F hH kf_RX12_342 kp_X12_59 hin rfl ha734 (by decide) hw730 (Nat.lt_of_le_of_lt (by decide) hfs724) rfl rfl dX12_init_408 (fun H locs w731 hw732 hne733 hH => ?_)
  obtain ⟨fs735, efs735⟩ : ∃ z : List Value, z = List.set fs724 59 (.ref (ad728 49)) := ⟨_, rfl⟩
  rw [← efs735] at hw732
  have hfs735 : 96 < fs735.length := by rw [efs735, List.length_set]; exact hfs724
  refine lv_aload_n hx hb dX12_init_411 rfl (lv_at hl 0 rfl) ?_
  refine lv_bipush (v := 6) hx hb dX12_init_412 (by decide) ?_
  refine tw_newa (t := 0) (atype := .int) (ty := .int) (n' := 6) (a0 := (6, .inl (fun _ => 0))) F hH rfl (fun C h => by cases h) (tw_gl kw_47 rfl) rfl (fun _ => rfl) (by decide) (Nat.le_of_ble_eq_true rfl) (Nat.le_of_ble_eq_true rfl) (Nat.le_of_ble_eq_true rfl) dX12_init_414 (fun H locs ad739 w736 ha740 hw737 hne738 hH => ?_)
  have hw741 : w736 0 = .inr (12, fs735) := (hne738 0 (nn_ne rfl)).trans (hw732)
  have ha745 : ad739 0 = ad 0 := ((ha740 0 (nn_lt rfl)).trans ha734)
  refine tw_putF (r := 0) F hH kf_RX12_345 kp_X12_60 hin rfl ha745 (by decide) hw741 (Nat.lt_of_le_of_lt (by decide) hfs735) rfl rfl dX12_init_416 (fun H locs w742 hw743 hne744 hH => ?_)
  obtain ⟨fs746, efs746⟩ : ∃ z : List Value, z = List.set fs735 60 (.ref (ad739 50)) := ⟨_, rfl⟩
  rw [← efs746] at hw743
  have hfs746 : 96 < fs746.length := by rw [efs746, List.length_set]; exact hfs735
  refine lv_aload_n hx hb dX12_init_419 rfl (lv_at hl 0 rfl) ?_
  refine lv_bipush (v := 6) hx hb dX12_init_420 (by decide) ?_
  refine tw_newa (t := 0) (atype := .int) (ty := .int) (n' := 6) (a0 := (6, .inl (fun _ => 0))) F hH rfl (fun C h => by cases h) (tw_gl kw_47 rfl) rfl (fun _ => rfl) (by decide) (Nat.le_of_ble_eq_true rfl) (Nat.le_of_ble_eq_true rfl) (Nat.le_of_ble_eq_true rfl) dX12_init_422 (fun H locs ad750 w747 ha751 hw748 hne749 hH => ?_)
  have hw752 : w747 0 = .inr (12, fs746) := (hne749 0 (nn_ne rfl)).trans (hw743)
  have ha756 : ad750 0 = ad 0 := ((ha751 0 (nn_lt rfl)).trans ha745)
  refine tw_putF (r := 0) F hH kf_RX12_348 kp_X12_61 hin rfl ha756 (by decide) hw752 (Nat.lt_of_le_of_lt (by decide) hfs746) rfl rfl dX12_init_424 (fun H locs w753 hw754 hne755 hH => ?_)
  obtain ⟨fs757, efs757⟩ : ∃ z : List Value, z = List.set fs746 61 (.ref (ad750 51)) := ⟨_, rfl⟩
  rw [← efs757] at hw754
  have hfs757 : 96 < fs757.length := by rw [efs757, List.length_set]; exact hfs746
  refine lv_aload_n hx hb dX12_init_427 rfl (lv_at hl 0 rfl) ?_
  refine lv_bipush (v := 6) hx hb dX12_init_428 (by decide) ?_
  refine tw_newa (t := 0) (atype := .int) (ty := .int) (n' := 6) (a0 := (6, .inl (fun _ => 0))) F hH rfl (fun C h => by cases h) (tw_gl kw_47 rfl) rfl (fun _ => rfl) (by decide) (Nat.le_of_ble_eq_true rfl) (Nat.le_of_ble_eq_true rfl) (Nat.le_of_ble_eq_true rfl) dX12_init_430 (fun H locs ad761 w758 ha762 hw759 hne760 hH => ?_)
  have hw763 : w758 0 = .inr (12, fs757) := (hne760 0 (nn_ne rfl)).trans (hw754)
  have ha767 : ad761 0 = ad 0 := ((ha762 0 (nn_lt rfl)).trans ha756)
  refine tw_putF (r := 0) F hH kf_RX12_351 kp_X12_62 hin rfl ha767 (by decide) hw763 (Nat.lt_of_le_of_lt (by decide) hfs757) rfl rfl dX12_init_432 (fun H locs w764 hw765 hne766 hH => ?_)
  obtain ⟨fs768, efs768⟩ : ∃ z : List Value, z = List.set fs757 62 (.ref (ad761 52)) := ⟨_, rfl⟩
  rw [← efs768] at hw765
  have hfs768 : 96 < fs768.length := by rw [efs768, List.length_set]; exact hfs757
  refine lv_aload_n hx hb dX12_init_435 rfl (lv_at hl 0 rfl) ?_
  refine lv_bipush (v := 6) hx hb dX12_init_436 (by decide) ?_
  refine tw_newa (t := 0) (atype := .int) (ty := .int) (n' := 6) (a0 := (6, .inl (fun _ => 0))) F hH rfl (fun C h => by cases h) (tw_gl kw_47 rfl) rfl (fun _ => rfl) (by decide) (Nat.le_of_ble_eq_true rfl) (Nat.le_of_ble_eq_true rfl) (Nat.le_of_ble_eq_true rfl) dX12_init_438 (fun H locs ad772 w769 ha773 hw770 hne771 hH => ?_)
  have hw774 : w769 0 = .inr (12, fs768) := (hne771 0 (nn_ne rfl)).trans (hw765)
  have ha778 : ad772 0 = ad 0 := ((ha773 0 (nn_lt rfl)).trans ha767)
  refine tw_putF (r := 0) F hH kf_RX12_354 kp_X12_63 hin rfl ha778 (by decide) hw774 (Nat.lt_of_le_of_lt (by decide) hfs768) rfl rfl dX12_init_440 (fun H locs w775 hw776 hne777 hH => ?_)
  obtain ⟨fs779, efs779⟩ : ∃ z : List Value, z = List.set fs768 63 (.ref (ad772 53)) := ⟨_, rfl⟩
  rw [← efs779] at hw776
  have hfs779 : 96 < fs779.length := by rw [efs779, List.length_set]; exact hfs768
  have ha780 : ad772 46 = ad697 46 := (((((((ha773 46 (nn_lt rfl)).trans (ha762 46 (nn_lt rfl))).trans (ha751 46 (nn_lt rfl))).trans (ha740 46 (nn_lt rfl))).trans (ha729 46 (nn_lt rfl))).trans (ha718 46 (nn_lt rfl))).trans (ha708 46 (nn_lt rfl)))
  have ha781 : ad772 47 = ad707 47 := ((((((ha773 47 (nn_lt rfl)).trans (ha762 47 (nn_lt rfl))).trans (ha751 47 (nn_lt rfl))).trans (ha740 47 (nn_lt rfl))).trans (ha729 47 (nn_lt rfl))).trans (ha718 47 (nn_lt rfl)))
  have ha782 : ad772 48 = ad717 48 := (((((ha773 48 (nn_lt rfl)).trans (ha762 48 (nn_lt rfl))).trans (ha751 48 (nn_lt rfl))).trans (ha740 48 (nn_lt rfl))).trans (ha729 48 (nn_lt rfl)))
  have ha783 : ad772 49 = ad728 49 := ((((ha773 49 (nn_lt rfl)).trans (ha762 49 (nn_lt rfl))).trans (ha751 49 (nn_lt rfl))).trans (ha740 49 (nn_lt rfl)))
  have ha784 : ad772 50 = ad739 50 := (((ha773 50 (nn_lt rfl)).trans (ha762 50 (nn_lt rfl))).trans (ha751 50 (nn_lt rfl)))
  have ha785 : ad772 51 = ad750 51 := ((ha773 51 (nn_lt rfl)).trans (ha762 51 (nn_lt rfl)))
  have ha786 : ad772 52 = ad761 52 := (ha773 52 (nn_lt rfl))
  have hw787 : w775 0 = .inr (12, mo_7 G ad772) := by rw [hw776]; rw [efs779, efs768, efs757, efs746, efs735, efs724, efs713, efs703]; rw [mo_6_c (a := adS6) (b := ad772) (fun j hj => ((((((((ha773 j (by omega)).trans (ha762 j (by omega))).trans (ha751 j (by omega))).trans (ha740 j (by omega))).trans (ha729 j (by omega))).trans (ha718 j (by omega))).trans (ha708 j (by omega))).trans (ha698 j (by omega))).symm)]; rw [show ad697 46 = ad772 46 from ha780.symm, show ad707 47 = ad772 47 from ha781.symm, show ad717 48 = ad772 48 from ha782.symm, show ad728 49 = ad772 49 from ha783.symm, show ad739 50 = ad772 50 from ha784.symm, show ad750 51 = ad772 51 from ha785.symm, show ad761 52 = ad772 52 from ha786.symm]; rfl
  have hall6_w775 : ∀ k : Nat, 1 ≤ k → k ≤ 45 → w775 k = wS6 k := fun k h1 h2 => (hne777 k (by omega)).trans ((hne771 k (by omega)).trans ((hne766 k (by omega)).trans ((hne760 k (by omega)).trans ((hne755 k (by omega)).trans ((hne749 k (by omega)).trans ((hne744 k (by omega)).trans ((hne738 k (by omega)).trans ((hne733 k (by omega)).trans ((hne727 k (by omega)).trans ((hne722 k (by omega)).trans ((hne716 k (by omega)).trans ((hne712 k (by omega)).trans ((hne706 k (by omega)).trans ((hne702 k (by omega)).trans ((hne696 k (by omega)))))))))))))))))
  have hw788 : w775 1 = .inl (G.2.1 0, 5, .inl (fun _ => 0)) := (hall6_w775 1 (by decide) (by decide)).trans f6_1
  have hw789 : w775 2 = .inl (G.2.1 0, 5, .inl (fun _ => 0)) := (hall6_w775 2 (by decide) (by decide)).trans f6_2
  have hw790 : w775 3 = .inl (G.2.1 1, 5, .inl (fun _ => 0)) := (hall6_w775 3 (by decide) (by decide)).trans f6_3
  have hw791 : w775 4 = .inl (G.2.1 0, 24, .inl (fun _ => 0)) := (hall6_w775 4 (by decide) (by decide)).trans f6_4
  have hw792 : w775 5 = .inl (G.2.1 0, 8, .inl (fun _ => 0)) := (hall6_w775 5 (by decide) (by decide)).trans f6_5
  have hw793 : w775 6 = .inl (G.2.1 0, 30, .inl (fun _ => 0)) := (hall6_w775 6 (by decide) (by decide)).trans f6_6
  have hw794 : w775 7 = .inl (G.2.1 0, 30, .inl (fun _ => 0)) := (hall6_w775 7 (by decide) (by decide)).trans f6_7
  have hw795 : w775 8 = .inl (G.2.1 0, 30, .inl (fun _ => 0)) := (hall6_w775 8 (by decide) (by decide)).trans f6_8
  have hw796 : w775 9 = .inl (G.2.1 0, 20, .inl (fun _ => 0)) := (hall6_w775 9 (by decide) (by decide)).trans f6_9
  have hw797 : w775 10 = .inl (G.2.1 0, 20, .inl (fun _ => 0)) := (hall6_w775 10 (by decide) (by decide)).trans f6_10
  have hw798 : w775 11 = .inl (G.2.1 0, 20, .inl (fun _ => 0)) := (hall6_w775 11 (by decide) (by decide)).trans f6_11
  have hw799 : w775 12 = .inl (G.2.1 0, 20, .inl (fun _ => 0)) := (hall6_w775 12 (by decide) (by decide)).trans f6_12
  have hw800 : w775 13 = .inl (G.2.1 0, 6, .inl (fun _ => 0)) := (hall6_w775 13 (by decide) (by decide)).trans f6_13
  have hw801 : w775 14 = .inl (G.2.1 0, 6, .inl (fun _ => 0)) := (hall6_w775 14 (by decide) (by decide)).trans f6_14
  have hw802 : w775 15 = .inl (G.2.1 0, 6, .inl (fun _ => 0)) := (hall6_w775 15 (by decide) (by decide)).trans f6_15
  have hw803 : w775 16 = .inl (G.2.1 0, 6, .inl (fun _ => 0)) := (hall6_w775 16 (by decide) (by decide)).trans f6_16
  have hw804 : w775 17 = .inl (G.2.1 0, 6, .inl (fun _ => 0)) := (hall6_w775 17 (by decide) (by decide)).trans f6_17
  have hw805 : w775 18 = .inl (G.2.1 0, 6, .inl (fun _ => 0)) := (hall6_w775 18 (by decide) (by decide)).trans f6_18
  have hw806 : w775 19 = .inl (G.2.1 0, 6, .inl (fun _ => 0)) := (hall6_w775 19 (by decide) (by decide)).trans f6_19
  have hw807 : w775 20 = .inl (G.2.1 0, 24, .inl (fun _ => 0)) := (hall6_w775 20 (by decide) (by decide)).trans f6_20
  have hw808 : w775 21 = .inl (G.2.1 0, 24, .inl (fun _ => 0)) := (hall6_w775 21 (by decide) (by decide)).trans f6_21
  have hw809 : w775 22 = .inl (G.2.1 0, 6, .inl (fun _ => 0)) := (hall6_w775 22 (by decide) (by decide)).trans f6_22
  have hw810 : w775 23 = .inl (G.2.1 0, 72, .inl (fun _ => 0)) := (hall6_w775 23 (by decide) (by decide)).trans f6_23
  have hw811 : w775 24 = .inl (G.2.1 0, 72, .inl (fun _ => 0)) := (hall6_w775 24 (by decide) (by decide)).trans f6_24
  have hw812 : w775 25 = .inl (G.2.1 0, 72, .inl (fun _ => 0)) := (hall6_w775 25 (by decide) (by decide)).trans f6_25
  have hw813 : w775 26 = .inl (G.2.1 0, 6, .inl (fun _ => 0)) := (hall6_w775 26 (by decide) (by decide)).trans f6_26
  have hw814 : w775 27 = .inl (G.2.1 0, 30, .inl (fun _ => 0)) := (hall6_w775 27 (by decide) (by decide)).trans f6_27
  have hw815 : w775 28 = .inl (G.2.1 0, 30, .inl (fun _ => 0)) := (hall6_w775 28 (by decide) (by decide)).trans f6_28
  have hw816 : w775 29 = .inl (G.2.1 0, 30, .inl (fun _ => 0)) := (hall6_w775 29 (by decide) (by decide)).trans f6_29
  have hw817 : w775 30 = .inl (G.2.1 1, 6, .inl (fun _ => 0)) := (hall6_w775 30 (by decide) (by decide)).trans f6_30
  have hw818 : w775 31 = .inl (G.2.1 0, 6, .inl (fun _ => 0)) := (hall6_w775 31 (by decide) (by decide)).trans f6_31
  have hw819 : w775 32 = .inl (G.2.1 0, 24, .inl (fun _ => 0)) := (hall6_w775 32 (by decide) (by decide)).trans f6_32
  have hw820 : w775 33 = .inl (G.2.1 0, 24, .inl (fun _ => 0)) := (hall6_w775 33 (by decide) (by decide)).trans f6_33
  have hw821 : w775 34 = .inl (G.2.1 0, 100, .inl (fun _ => 0)) := (hall6_w775 34 (by decide) (by decide)).trans f6_34
  have hw822 : w775 35 = .inl (G.2.1 0, 1700, .inl (fun _ => 0)) := (hall6_w775 35 (by decide) (by decide)).trans f6_35
  have hw823 : w775 36 = .inl (G.2.1 0, 17, .inl (fun _ => 0)) := (hall6_w775 36 (by decide) (by decide)).trans f6_36
  have hw824 : w775 37 = .inl (G.2.1 0, 100, .inl (fun _ => 0)) := (hall6_w775 37 (by decide) (by decide)).trans f6_37
  have hw825 : w775 38 = .inl (G.2.1 0, 13, .inl (fun _ => 0)) := (hall6_w775 38 (by decide) (by decide)).trans f6_38
  have hw826 : w775 39 = .inl (G.2.1 0, 6, .inl (fun _ => 0)) := (hall6_w775 39 (by decide) (by decide)).trans f6_39
  have hw827 : w775 40 = .inl (G.2.1 0, 6, .inl (fun _ => 0)) := (hall6_w775 40 (by decide) (by decide)).trans f6_40
  have hw828 : w775 41 = .inl (G.2.1 0, 6, .inl (fun _ => 0)) := (hall6_w775 41 (by decide) (by decide)).trans f6_41
  have hw829 : w775 42 = .inl (G.2.1 0, 6, .inl (fun _ => 0)) := (hall6_w775 42 (by decide) (by decide)).trans f6_42
  have hw830 : w775 43 = .inl (G.2.1 0, 6, .inl (fun _ => 0)) := (hall6_w775 43 (by decide) (by decide)).trans f6_43
  have hw831 : w775 44 = .inl (G.2.1 0, 6, .inl (fun _ => 0)) := (hall6_w775 44 (by decide) (by decide)).trans f6_44
  have hw832 : w775 45 = .inl (G.2.1 0, 6, .inl (fun _ => 0)) := (hall6_w775 45 (by decide) (by decide)).trans f6_45
  have hw833 : w775 46 = .inl (G.2.1 0, 24, .inl (fun _ => 0)) := (hne777 46 (nn_ne rfl)).trans ((hne771 46 (nn_ne rfl)).trans ((hne766 46 (nn_ne rfl)).trans ((hne760 46 (nn_ne rfl)).trans ((hne755 46 (nn_ne rfl)).trans ((hne749 46 (nn_ne rfl)).trans ((hne744 46 (nn_ne rfl)).trans ((hne738 46 (nn_ne rfl)).trans ((hne733 46 (nn_ne rfl)).trans ((hne727 46 (nn_ne rfl)).trans ((hne722 46 (nn_ne rfl)).trans ((hne716 46 (nn_ne rfl)).trans ((hne712 46 (nn_ne rfl)).trans ((hne706 46 (nn_ne rfl)).trans ((hne702 46 (nn_ne rfl)).trans (hw695)))))))))))))))
  have hw834 : w775 47 = .inl (G.2.1 0, 6, .inl (fun _ => 0)) := (hne777 47 (nn_ne rfl)).trans ((hne771 47 (nn_ne rfl)).trans ((hne766 47 (nn_ne rfl)).trans ((hne760 47 (nn_ne rfl)).trans ((hne755 47 (nn_ne rfl)).trans ((hne749 47 (nn_ne rfl)).trans ((hne744 47 (nn_ne rfl)).trans ((hne738 47 (nn_ne rfl)).trans ((hne733 47 (nn_ne rfl)).trans ((hne727 47 (nn_ne rfl)).trans ((hne722 47 (nn_ne rfl)).trans ((hne716 47 (nn_ne rfl)).trans ((hne712 47 (nn_ne rfl)).trans (hw705)))))))))))))
  have hw835 : w775 48 = .inl (G.2.1 0, 6, .inl (fun _ => 0)) := (hne777 48 (nn_ne rfl)).trans ((hne771 48 (nn_ne rfl)).trans ((hne766 48 (nn_ne rfl)).trans ((hne760 48 (nn_ne rfl)).trans ((hne755 48 (nn_ne rfl)).trans ((hne749 48 (nn_ne rfl)).trans ((hne744 48 (nn_ne rfl)).trans ((hne738 48 (nn_ne rfl)).trans ((hne733 48 (nn_ne rfl)).trans ((hne727 48 (nn_ne rfl)).trans ((hne722 48 (nn_ne rfl)).trans (hw715)))))))))))
  have hw836 : w775 49 = .inl (G.2.1 0, 6, .inl (fun _ => 0)) := (hne777 49 (nn_ne rfl)).trans ((hne771 49 (nn_ne rfl)).trans ((hne766 49 (nn_ne rfl)).trans ((hne760 49 (nn_ne rfl)).trans ((hne755 49 (nn_ne rfl)).trans ((hne749 49 (nn_ne rfl)).trans ((hne744 49 (nn_ne rfl)).trans ((hne738 49 (nn_ne rfl)).trans ((hne733 49 (nn_ne rfl)).trans (hw726)))))))))
  have hw837 : w775 50 = .inl (G.2.1 0, 6, .inl (fun _ => 0)) := (hne777 50 (nn_ne rfl)).trans ((hne771 50 (nn_ne rfl)).trans ((hne766 50 (nn_ne rfl)).trans ((hne760 50 (nn_ne rfl)).trans ((hne755 50 (nn_ne rfl)).trans ((hne749 50 (nn_ne rfl)).trans ((hne744 50 (nn_ne rfl)).trans (hw737)))))))
  have hw838 : w775 51 = .inl (G.2.1 0, 6, .inl (fun _ => 0)) := (hne777 51 (nn_ne rfl)).trans ((hne771 51 (nn_ne rfl)).trans ((hne766 51 (nn_ne rfl)).trans ((hne760 51 (nn_ne rfl)).trans ((hne755 51 (nn_ne rfl)).trans (hw748)))))
  have hw839 : w775 52 = .inl (G.2.1 0, 6, .inl (fun _ => 0)) := (hne777 52 (nn_ne rfl)).trans ((hne771 52 (nn_ne rfl)).trans ((hne766 52 (nn_ne rfl)).trans (hw759)))
  have hw840 : w775 53 = .inl (G.2.1 0, 6, .inl (fun _ => 0)) := (hne777 53 (nn_ne rfl)).trans (hw770)
  exact kk H locs ad772 w775 ls (fun k hk => (((((((((ha773 k (by omega)).trans (ha762 k (by omega))).trans (ha751 k (by omega))).trans (ha740 k (by omega))).trans (ha729 k (by omega))).trans (ha718 k (by omega))).trans (ha708 k (by omega))).trans (ha698 k (by omega)))).trans (hz6 k (by omega))) hw787 hw788 hw789 hw790 hw791 hw792 hw793 hw794 hw795 hw796 hw797 hw798 hw799 hw800 hw801 hw802 hw803 hw804 hw805 hw806 hw807 hw808 hw809 hw810 hw811 hw812 hw813 hw814 hw815 hw816 hw817 hw818 hw819 hw820 hw821 hw822 hw823 hw824 hw825 hw826 hw827 hw828 hw829 hw830 hw831 hw832 hw833 hw834 hw835 hw836 hw837 hw838 hw839 hw840 hH hl

def mo_8 (G : tw_G) (a : Nat → Nat) : List Value := [.int (0 : Int32), .int (2 : Int32), .int (1 : Int32), .ref (a 1), .ref (a 2), .ref (a 3), .ref (a 4), .ref (a 5), .int (0 : Int32), .ref (a 6), .ref (a 7), .ref (a 8), .int (0 : Int32), .ref (a 9), .ref (a 10), .ref (a 11), .ref (a 12), .int (0 : Int32), .ref (a 13), .ref (a 14), .ref (a 15), .ref (a 16), .ref (a 17), .ref (a 18), .ref (a 19), .ref (a 20), .ref (a 21), .ref (a 22), .ref (a 23), .ref (a 24), .ref (a 25), .ref (a 26), .ref (a 27), .ref (a 28), .ref (a 29), .ref (a 30), .ref (a 31), .ref (a 32), .ref (a 33), .ref (a 34), .int (0 : Int32), .int (0 : Int32), .int (0 : Int32), .ref (G.2.2 (100 + 10)), .ref (a 35), .ref (a 36), .ref (a 37), .int (0 : Int32), .ref (a 38), .ref (a 39), .ref (a 40), .ref (a 41), .ref (a 42), .ref (a 43), .ref (a 44), .ref (a 45), .ref (a 46), .ref (a 47), .ref (a 48), .ref (a 49), .ref (a 50), .ref (a 51), .ref (a 52), .ref (a 53), .ref (a 54), .ref (a 55), .ref (a 56), .ref (a 57), .ref (a 58), .ref (a 59), .int (0 : Int32), .ref (a 60), .int (0 : Int32), .ref (a 61), .null, .int (0 : Int32), .null, .null, .null, .null, .null, .null, .int (0 : Int32), .null, .null, .null, .null, .null, .int (0 : Int32), .int (0 : Int32), .int (0 : Int32), .null, .null, .null, .null, .null, .null]
theorem mo_8_c {G : tw_G} {a b : Nat → Nat} (h : ∀ j, j < 62 → a j = b j) : mo_8 G a = mo_8 G b := by
  unfold mo_8
  rw [h 1 (by decide), h 2 (by decide), h 3 (by decide), h 4 (by decide), h 5 (by decide), h 6 (by decide), h 7 (by decide), h 8 (by decide), h 9 (by decide), h 10 (by decide), h 11 (by decide), h 12 (by decide), h 13 (by decide), h 14 (by decide), h 15 (by decide), h 16 (by decide), h 17 (by decide), h 18 (by decide), h 19 (by decide), h 20 (by decide), h 21 (by decide), h 22 (by decide), h 23 (by decide), h 24 (by decide), h 25 (by decide), h 26 (by decide), h 27 (by decide), h 28 (by decide), h 29 (by decide), h 30 (by decide), h 31 (by decide), h 32 (by decide), h 33 (by decide), h 34 (by decide), h 35 (by decide), h 36 (by decide), h 37 (by decide), h 38 (by decide), h 39 (by decide), h 40 (by decide), h 41 (by decide), h 42 (by decide), h 43 (by decide), h 44 (by decide), h 45 (by decide), h 46 (by decide), h 47 (by decide), h 48 (by decide), h 49 (by decide), h 50 (by decide), h 51 (by decide), h 52 (by decide), h 53 (by decide), h 54 (by decide), h 55 (by decide), h 56 (by decide), h 57 (by decide), h 58 (by decide), h 59 (by decide), h 60 (by decide), h 61 (by decide)]
theorem hmo_8 (G : tw_G) (a : Nat → Nat) : 96 < (mo_8 G a).length := Nat.le_of_ble_eq_true rfl
set_option maxHeartbeats 20000000 in
set_option maxRecDepth 100000 in
theorem c_X12_init_s8 {p : Program} {l : Launch} {e : Env} {s : State} {m : MethodId} {args : Array Value} {below : List Frame} {meth : Method} {c : Code} {G : tw_G} {A : Nat → Prop} {Q : State → Prop} {H : Heap} {locs : List Loc} {ls : Array Slot} {ad adS7 : Nat → Nat} {wS7 : Nat → va_E} (F : tw_F p m c cX12_init 2 s args RX12 G A) (hin : meth.name = "<init>") (hz7 : ∀ k, k < 1 → adS7 k = ad k) (f7_0 : wS7 0 = .inr (12, mo_7 G adS7)) (f7_1 : wS7 1 = .inl (G.2.1 0, 5, .inl (fun _ => 0))) (f7_2 : wS7 2 = .inl (G.2.1 0, 5, .inl (fun _ => 0))) (f7_3 : wS7 3 = .inl (G.2.1 1, 5, .inl (fun _ => 0))) (f7_4 : wS7 4 = .inl (G.2.1 0, 24, .inl (fun _ => 0))) (f7_5 : wS7 5 = .inl (G.2.1 0, 8, .inl (fun _ => 0))) (f7_6 : wS7 6 = .inl (G.2.1 0, 30, .inl (fun _ => 0))) (f7_7 : wS7 7 = .inl (G.2.1 0, 30, .inl (fun _ => 0))) (f7_8 : wS7 8 = .inl (G.2.1 0, 30, .inl (fun _ => 0))) (f7_9 : wS7 9 = .inl (G.2.1 0, 20, .inl (fun _ => 0))) (f7_10 : wS7 10 = .inl (G.2.1 0, 20, .inl (fun _ => 0))) (f7_11 : wS7 11 = .inl (G.2.1 0, 20, .inl (fun _ => 0))) (f7_12 : wS7 12 = .inl (G.2.1 0, 20, .inl (fun _ => 0))) (f7_13 : wS7 13 = .inl (G.2.1 0, 6, .inl (fun _ => 0))) (f7_14 : wS7 14 = .inl (G.2.1 0, 6, .inl (fun _ => 0))) (f7_15 : wS7 15 = .inl (G.2.1 0, 6, .inl (fun _ => 0))) (f7_16 : wS7 16 = .inl (G.2.1 0, 6, .inl (fun _ => 0))) (f7_17 : wS7 17 = .inl (G.2.1 0, 6, .inl (fun _ => 0))) (f7_18 : wS7 18 = .inl (G.2.1 0, 6, .inl (fun _ => 0))) (f7_19 : wS7 19 = .inl (G.2.1 0, 6, .inl (fun _ => 0))) (f7_20 : wS7 20 = .inl (G.2.1 0, 24, .inl (fun _ => 0))) (f7_21 : wS7 21 = .inl (G.2.1 0, 24, .inl (fun _ => 0))) (f7_22 : wS7 22 = .inl (G.2.1 0, 6, .inl (fun _ => 0))) (f7_23 : wS7 23 = .inl (G.2.1 0, 72, .inl (fun _ => 0))) (f7_24 : wS7 24 = .inl (G.2.1 0, 72, .inl (fun _ => 0))) (f7_25 : wS7 25 = .inl (G.2.1 0, 72, .inl (fun _ => 0))) (f7_26 : wS7 26 = .inl (G.2.1 0, 6, .inl (fun _ => 0))) (f7_27 : wS7 27 = .inl (G.2.1 0, 30, .inl (fun _ => 0))) (f7_28 : wS7 28 = .inl (G.2.1 0, 30, .inl (fun _ => 0))) (f7_29 : wS7 29 = .inl (G.2.1 0, 30, .inl (fun _ => 0))) (f7_30 : wS7 30 = .inl (G.2.1 1, 6, .inl (fun _ => 0))) (f7_31 : wS7 31 = .inl (G.2.1 0, 6, .inl (fun _ => 0))) (f7_32 : wS7 32 = .inl (G.2.1 0, 24, .inl (fun _ => 0))) (f7_33 : wS7 33 = .inl (G.2.1 0, 24, .inl (fun _ => 0))) (f7_34 : wS7 34 = .inl (G.2.1 0, 100, .inl (fun _ => 0))) (f7_35 : wS7 35 = .inl (G.2.1 0, 1700, .inl (fun _ => 0))) (f7_36 : wS7 36 = .inl (G.2.1 0, 17, .inl (fun _ => 0))) (f7_37 : wS7 37 = .inl (G.2.1 0, 100, .inl (fun _ => 0))) (f7_38 : wS7 38 = .inl (G.2.1 0, 13, .inl (fun _ => 0))) (f7_39 : wS7 39 = .inl (G.2.1 0, 6, .inl (fun _ => 0))) (f7_40 : wS7 40 = .inl (G.2.1 0, 6, .inl (fun _ => 0))) (f7_41 : wS7 41 = .inl (G.2.1 0, 6, .inl (fun _ => 0))) (f7_42 : wS7 42 = .inl (G.2.1 0, 6, .inl (fun _ => 0))) (f7_43 : wS7 43 = .inl (G.2.1 0, 6, .inl (fun _ => 0))) (f7_44 : wS7 44 = .inl (G.2.1 0, 6, .inl (fun _ => 0))) (f7_45 : wS7 45 = .inl (G.2.1 0, 6, .inl (fun _ => 0))) (f7_46 : wS7 46 = .inl (G.2.1 0, 24, .inl (fun _ => 0))) (f7_47 : wS7 47 = .inl (G.2.1 0, 6, .inl (fun _ => 0))) (f7_48 : wS7 48 = .inl (G.2.1 0, 6, .inl (fun _ => 0))) (f7_49 : wS7 49 = .inl (G.2.1 0, 6, .inl (fun _ => 0))) (f7_50 : wS7 50 = .inl (G.2.1 0, 6, .inl (fun _ => 0))) (f7_51 : wS7 51 = .inl (G.2.1 0, 6, .inl (fun _ => 0))) (f7_52 : wS7 52 = .inl (G.2.1 0, 6, .inl (fun _ => 0))) (f7_53 : wS7 53 = .inl (G.2.1 0, 6, .inl (fun _ => 0))) (hH : tw_H G 54 adS7 wS7 A s H locs) (hl : lv_has ls 2 [(0, .ref (ad 0))]) (kk : ∀ (H : Heap) (locs : List Loc) (ad1 : Nat → Nat) (w1 : Nat → va_E) (ls : Array Slot), (∀ k, k < 1 → ad1 k = ad k) → w1 0 = .inr (12, mo_8 G ad1) → w1 1 = .inl (G.2.1 0, 5, .inl (fun _ => 0)) → w1 2 = .inl (G.2.1 0, 5, .inl (fun _ => 0)) → w1 3 = .inl (G.2.1 1, 5, .inl (fun _ => 0)) → w1 4 = .inl (G.2.1 0, 24, .inl (fun _ => 0)) → w1 5 = .inl (G.2.1 0, 8, .inl (fun _ => 0)) → w1 6 = .inl (G.2.1 0, 30, .inl (fun _ => 0)) → w1 7 = .inl (G.2.1 0, 30, .inl (fun _ => 0)) → w1 8 = .inl (G.2.1 0, 30, .inl (fun _ => 0)) → w1 9 = .inl (G.2.1 0, 20, .inl (fun _ => 0)) → w1 10 = .inl (G.2.1 0, 20, .inl (fun _ => 0)) → w1 11 = .inl (G.2.1 0, 20, .inl (fun _ => 0)) → w1 12 = .inl (G.2.1 0, 20, .inl (fun _ => 0)) → w1 13 = .inl (G.2.1 0, 6, .inl (fun _ => 0)) → w1 14 = .inl (G.2.1 0, 6, .inl (fun _ => 0)) → w1 15 = .inl (G.2.1 0, 6, .inl (fun _ => 0)) → w1 16 = .inl (G.2.1 0, 6, .inl (fun _ => 0)) → w1 17 = .inl (G.2.1 0, 6, .inl (fun _ => 0)) → w1 18 = .inl (G.2.1 0, 6, .inl (fun _ => 0)) → w1 19 = .inl (G.2.1 0, 6, .inl (fun _ => 0)) → w1 20 = .inl (G.2.1 0, 24, .inl (fun _ => 0)) → w1 21 = .inl (G.2.1 0, 24, .inl (fun _ => 0)) → w1 22 = .inl (G.2.1 0, 6, .inl (fun _ => 0)) → w1 23 = .inl (G.2.1 0, 72, .inl (fun _ => 0)) → w1 24 = .inl (G.2.1 0, 72, .inl (fun _ => 0)) → w1 25 = .inl (G.2.1 0, 72, .inl (fun _ => 0)) → w1 26 = .inl (G.2.1 0, 6, .inl (fun _ => 0)) → w1 27 = .inl (G.2.1 0, 30, .inl (fun _ => 0)) → w1 28 = .inl (G.2.1 0, 30, .inl (fun _ => 0)) → w1 29 = .inl (G.2.1 0, 30, .inl (fun _ => 0)) → w1 30 = .inl (G.2.1 1, 6, .inl (fun _ => 0)) → w1 31 = .inl (G.2.1 0, 6, .inl (fun _ => 0)) → w1 32 = .inl (G.2.1 0, 24, .inl (fun _ => 0)) → w1 33 = .inl (G.2.1 0, 24, .inl (fun _ => 0)) → w1 34 = .inl (G.2.1 0, 100, .inl (fun _ => 0)) → w1 35 = .inl (G.2.1 0, 1700, .inl (fun _ => 0)) → w1 36 = .inl (G.2.1 0, 17, .inl (fun _ => 0)) → w1 37 = .inl (G.2.1 0, 100, .inl (fun _ => 0)) → w1 38 = .inl (G.2.1 0, 13, .inl (fun _ => 0)) → w1 39 = .inl (G.2.1 0, 6, .inl (fun _ => 0)) → w1 40 = .inl (G.2.1 0, 6, .inl (fun _ => 0)) → w1 41 = .inl (G.2.1 0, 6, .inl (fun _ => 0)) → w1 42 = .inl (G.2.1 0, 6, .inl (fun _ => 0)) → w1 43 = .inl (G.2.1 0, 6, .inl (fun _ => 0)) → w1 44 = .inl (G.2.1 0, 6, .inl (fun _ => 0)) → w1 45 = .inl (G.2.1 0, 6, .inl (fun _ => 0)) → w1 46 = .inl (G.2.1 0, 24, .inl (fun _ => 0)) → w1 47 = .inl (G.2.1 0, 6, .inl (fun _ => 0)) → w1 48 = .inl (G.2.1 0, 6, .inl (fun _ => 0)) → w1 49 = .inl (G.2.1 0, 6, .inl (fun _ => 0)) → w1 50 = .inl (G.2.1 0, 6, .inl (fun _ => 0)) → w1 51 = .inl (G.2.1 0, 6, .inl (fun _ => 0)) → w1 52 = .inl (G.2.1 0, 6, .inl (fun _ => 0)) → w1 53 = .inl (G.2.1 0, 6, .inl (fun _ => 0)) → w1 54 = .inl (G.2.1 0, 6, .inl (fun _ => 0)) → w1 55 = .inl (G.2.1 0, 360, .inl (fun _ => 0)) → w1 56 = .inl (G.2.1 0, 30, .inl (fun _ => 0)) → w1 57 = .inl (G.2.1 0, 30, .inl (fun _ => 0)) → w1 58 = .inl (G.2.1 0, 4, .inl (fun _ => 0)) → w1 59 = .inl (G.2.1 0, 72, .inl (fun _ => 0)) → w1 60 = .inl (G.2.1 1, 6, .inl (fun _ => 0)) → w1 61 = .inl (G.2.1 0, 10, .inl (fun _ => 0)) → tw_H G 62 ad1 w1 A s H locs → lv_has ls 2 [(0, .ref (ad 0))] → W p l e ({ frames := 1, cells := 79, slots := 3514, locals := 23 }) s m args below meth c H locs 61 3241 Q (F0 m 507 ls [])) : W p l e ({ frames := 1, cells := 79, slots := 3514, locals := 23 }) s m args below meth c H locs 53 2723 Q (F0 m 443 ls []) := by
  have hx := F.1.1
  have hb := F.1.2.1
  have hown := F.1.2.2.2.1
  have hts := F.1.2.2.2.2
  refine lv_aload_n hx hb dX12_init_443 rfl (lv_at hl 0 rfl) ?_
  refine lv_bipush (v := 6) hx hb dX12_init_444 (by decide) ?_
  refine tw_newa (t := 0) (atype := .int) (ty := .int) (n' := 6) (a0 := (6, .inl (fun _ => 0))) F hH rfl (fun C h => by cases h) (tw_gl kw_47 rfl) rfl (fun _ => rfl) (by decide) (Nat.le_of_ble_eq_true rfl) (Nat.le_of_ble_eq_true rfl) (Nat.le_of_ble_eq_true rfl) dX12_init_446 (fun H locs ad844 w841 ha845 hw842 hne843 hH => ?_)
  have hw846 : w841 0 = .inr (12, (mo_7 G adS7)) := (hne843 0 (nn_ne rfl)).trans (f7_0)
  refine tw_putF (r := 0) F hH kf_RX12_357 kp_X12_64 hin rfl ((ha845 0 (nn_lt rfl)).trans (hz7 0 (nn_lt rfl))) (by decide) hw846 (Nat.lt_of_le_of_lt (by decide) (hmo_7 G adS7)) rfl rfl dX12_init_448 (fun H locs w847 hw848 hne849 hH => ?_)
  obtain ⟨fs850, efs850⟩ : ∃ z : List Value, z = List.set (mo_7 G adS7) 64 (.ref (ad844 54)) := ⟨_, rfl⟩
  rw [← efs850] at hw848
  have hfs850 : 96 < fs850.length := by rw [efs850, List.length_set]; exact (hmo_7 G adS7)
  refine lv_aload_n hx hb dX12_init_451 rfl (lv_at hl 0 rfl) ?_
  refine lv_sipush (v := 360) hx hb dX12_init_452 (by decide) ?_
  refine tw_newa (t := 0) (atype := .int) (ty := .int) (n' := 360) (a0 := (360, .inl (fun _ => 0))) F hH rfl (fun C h => by cases h) (tw_gl kw_47 rfl) rfl (fun _ => rfl) (by decide) (Nat.le_of_ble_eq_true rfl) (Nat.le_of_ble_eq_true rfl) (Nat.le_of_ble_eq_true rfl) dX12_init_455 (fun H locs ad854 w851 ha855 hw852 hne853 hH => ?_)
  have hw856 : w851 0 = .inr (12, fs850) := (hne853 0 (nn_ne rfl)).trans (hw848)
  refine tw_putF (r := 0) F hH kf_RX12_363 kp_X12_65 hin rfl (((ha855 0 (nn_lt rfl)).trans (ha845 0 (nn_lt rfl))).trans (hz7 0 (nn_lt rfl))) (by decide) hw856 (Nat.lt_of_le_of_lt (by decide) hfs850) rfl rfl dX12_init_457 (fun H locs w857 hw858 hne859 hH => ?_)
  obtain ⟨fs860, efs860⟩ : ∃ z : List Value, z = List.set fs850 65 (.ref (ad854 55)) := ⟨_, rfl⟩
  rw [← efs860] at hw858
  have hfs860 : 96 < fs860.length := by rw [efs860, List.length_set]; exact hfs850
  refine lv_aload_n hx hb dX12_init_460 rfl (lv_at hl 0 rfl) ?_
  refine lv_bipush (v := 30) hx hb dX12_init_461 (by decide) ?_
  refine tw_newa (t := 0) (atype := .int) (ty := .int) (n' := 30) (a0 := (30, .inl (fun _ => 0))) F hH rfl (fun C h => by cases h) (tw_gl kw_47 rfl) rfl (fun _ => rfl) (by decide) (Nat.le_of_ble_eq_true rfl) (Nat.le_of_ble_eq_true rfl) (Nat.le_of_ble_eq_true rfl) dX12_init_463 (fun H locs ad864 w861 ha865 hw862 hne863 hH => ?_)
  have hw866 : w861 0 = .inr (12, fs860) := (hne863 0 (nn_ne rfl)).trans (hw858)
  have ha870 : ad864 0 = ad 0 := ((((ha865 0 (nn_lt rfl)).trans (ha855 0 (nn_lt rfl))).trans (ha845 0 (nn_lt rfl))).trans (hz7 0 (nn_lt rfl)))
  refine tw_putF (r := 0) F hH kf_RX12_366 kp_X12_66 hin rfl ha870 (by decide) hw866 (Nat.lt_of_le_of_lt (by decide) hfs860) rfl rfl dX12_init_465 (fun H locs w867 hw868 hne869 hH => ?_)
  obtain ⟨fs871, efs871⟩ : ∃ z : List Value, z = List.set fs860 66 (.ref (ad864 56)) := ⟨_, rfl⟩
  rw [← efs871] at hw868
  have hfs871 : 96 < fs871.length := by rw [efs871, List.length_set]; exact hfs860
  refine lv_aload_n hx hb dX12_init_468 rfl (lv_at hl 0 rfl) ?_
  refine lv_bipush (v := 30) hx hb dX12_init_469 (by decide) ?_
  refine tw_newa (t := 0) (atype := .int) (ty := .int) (n' := 30) (a0 := (30, .inl (fun _ => 0))) F hH rfl (fun C h => by cases h) (tw_gl kw_47 rfl) rfl (fun _ => rfl) (by decide) (Nat.le_of_ble_eq_true rfl) (Nat.le_of_ble_eq_true rfl) (Nat.le_of_ble_eq_true rfl) dX12_init_471 (fun H locs ad875 w872 ha876 hw873 hne874 hH => ?_)
  have hw877 : w872 0 = .inr (12, fs871) := (hne874 0 (nn_ne rfl)).trans (hw868)
  have ha881 : ad875 0 = ad 0 := ((ha876 0 (nn_lt rfl)).trans ha870)
  refine tw_putF (r := 0) F hH kf_RX12_405 kp_X12_67 hin rfl ha881 (by decide) hw877 (Nat.lt_of_le_of_lt (by decide) hfs871) rfl rfl dX12_init_473 (fun H locs w878 hw879 hne880 hH => ?_)
  obtain ⟨fs882, efs882⟩ : ∃ z : List Value, z = List.set fs871 67 (.ref (ad875 57)) := ⟨_, rfl⟩
  rw [← efs882] at hw879
  have hfs882 : 96 < fs882.length := by rw [efs882, List.length_set]; exact hfs871
  refine lv_aload_n hx hb dX12_init_476 rfl (lv_at hl 0 rfl) ?_
  refine lv_iconst (v := 4) hx hb dX12_init_477 (by decide) ?_
  refine tw_newa (t := 0) (atype := .int) (ty := .int) (n' := 4) (a0 := (4, .inl (fun _ => 0))) F hH rfl (fun C h => by cases h) (tw_gl kw_47 rfl) rfl (fun _ => rfl) (by decide) (Nat.le_of_ble_eq_true rfl) (Nat.le_of_ble_eq_true rfl) (Nat.le_of_ble_eq_true rfl) dX12_init_478 (fun H locs ad886 w883 ha887 hw884 hne885 hH => ?_)
  have hw888 : w883 0 = .inr (12, fs882) := (hne885 0 (nn_ne rfl)).trans (hw879)
  have ha892 : ad886 0 = ad 0 := ((ha887 0 (nn_lt rfl)).trans ha881)
  refine tw_putF (r := 0) F hH kf_RX12_315 kp_X12_68 hin rfl ha892 (by decide) hw888 (Nat.lt_of_le_of_lt (by decide) hfs882) rfl rfl dX12_init_480 (fun H locs w889 hw890 hne891 hH => ?_)
  obtain ⟨fs893, efs893⟩ : ∃ z : List Value, z = List.set fs882 68 (.ref (ad886 58)) := ⟨_, rfl⟩
  rw [← efs893] at hw890
  have hfs893 : 96 < fs893.length := by rw [efs893, List.length_set]; exact hfs882
  refine lv_aload_n hx hb dX12_init_483 rfl (lv_at hl 0 rfl) ?_
  refine lv_bipush (v := 72) hx hb dX12_init_484 (by decide) ?_
  refine tw_newa (t := 0) (atype := .int) (ty := .int) (n' := 72) (a0 := (72, .inl (fun _ => 0))) F hH rfl (fun C h => by cases h) (tw_gl kw_47 rfl) rfl (fun _ => rfl) (by decide) (Nat.le_of_ble_eq_true rfl) (Nat.le_of_ble_eq_true rfl) (Nat.le_of_ble_eq_true rfl) dX12_init_486 (fun H locs ad897 w894 ha898 hw895 hne896 hH => ?_)
  have hw899 : w894 0 = .inr (12, fs893) := (hne896 0 (nn_ne rfl)).trans (hw890)
  have ha903 : ad897 0 = ad 0 := ((ha898 0 (nn_lt rfl)).trans ha892)
  refine tw_putF (r := 0) F hH kf_RX12_369 kp_X12_69 hin rfl ha903 (by decide) hw899 (Nat.lt_of_le_of_lt (by decide) hfs893) rfl rfl dX12_init_488 (fun H locs w900 hw901 hne902 hH => ?_)
  obtain ⟨fs904, efs904⟩ : ∃ z : List Value, z = List.set fs893 69 (.ref (ad897 59)) := ⟨_, rfl⟩
  rw [← efs904] at hw901
  have hfs904 : 96 < fs904.length := by rw [efs904, List.length_set]; exact hfs893
  refine lv_aload_n hx hb dX12_init_491 rfl (lv_at hl 0 rfl) ?_
  refine lv_bipush (v := 6) hx hb dX12_init_492 (by decide) ?_
  refine tw_newa (t := 1) (atype := .boolean) (ty := .boolean) (n' := 6) (a0 := (6, .inl (fun _ => 0))) F hH rfl (fun C h => by cases h) (tw_gl kw_83 rfl) rfl (fun _ => rfl) (by decide) (Nat.le_of_ble_eq_true rfl) (Nat.le_of_ble_eq_true rfl) (Nat.le_of_ble_eq_true rfl) dX12_init_494 (fun H locs ad908 w905 ha909 hw906 hne907 hH => ?_)
  have hw910 : w905 0 = .inr (12, fs904) := (hne907 0 (nn_ne rfl)).trans (hw901)
  have ha914 : ad908 0 = ad 0 := ((ha909 0 (nn_lt rfl)).trans ha903)
  refine tw_putF (r := 0) F hH kf_RX12_429 kp_X12_71 hin rfl ha914 (by decide) hw910 (Nat.lt_of_le_of_lt (by decide) hfs904) rfl rfl dX12_init_496 (fun H locs w911 hw912 hne913 hH => ?_)
  obtain ⟨fs915, efs915⟩ : ∃ z : List Value, z = List.set fs904 71 (.ref (ad908 60)) := ⟨_, rfl⟩
  rw [← efs915] at hw912
  have hfs915 : 96 < fs915.length := by rw [efs915, List.length_set]; exact hfs904
  refine lv_aload_n hx hb dX12_init_499 rfl (lv_at hl 0 rfl) ?_
  refine lv_bipush (v := 10) hx hb dX12_init_500 (by decide) ?_
  refine tw_newa (t := 0) (atype := .int) (ty := .int) (n' := 10) (a0 := (10, .inl (fun _ => 0))) F hH rfl (fun C h => by cases h) (tw_gl kw_47 rfl) rfl (fun _ => rfl) (by decide) (Nat.le_of_ble_eq_true rfl) (Nat.le_of_ble_eq_true rfl) (Nat.le_of_ble_eq_true rfl) dX12_init_502 (fun H locs ad919 w916 ha920 hw917 hne918 hH => ?_)
  have hw921 : w916 0 = .inr (12, fs915) := (hne918 0 (nn_ne rfl)).trans (hw912)
  have ha925 : ad919 0 = ad 0 := ((ha920 0 (nn_lt rfl)).trans ha914)
  refine tw_putF (r := 0) F hH kf_RX12_465 kp_X12_73 hin rfl ha925 (by decide) hw921 (Nat.lt_of_le_of_lt (by decide) hfs915) rfl rfl dX12_init_504 (fun H locs w922 hw923 hne924 hH => ?_)
  obtain ⟨fs926, efs926⟩ : ∃ z : List Value, z = List.set fs915 73 (.ref (ad919 61)) := ⟨_, rfl⟩
  rw [← efs926] at hw923
  have hfs926 : 96 < fs926.length := by rw [efs926, List.length_set]; exact hfs915
  have ha927 : ad919 54 = ad844 54 := (((((((ha920 54 (nn_lt rfl)).trans (ha909 54 (nn_lt rfl))).trans (ha898 54 (nn_lt rfl))).trans (ha887 54 (nn_lt rfl))).trans (ha876 54 (nn_lt rfl))).trans (ha865 54 (nn_lt rfl))).trans (ha855 54 (nn_lt rfl)))
  have ha928 : ad919 55 = ad854 55 := ((((((ha920 55 (nn_lt rfl)).trans (ha909 55 (nn_lt rfl))).trans (ha898 55 (nn_lt rfl))).trans (ha887 55 (nn_lt rfl))).trans (ha876 55 (nn_lt rfl))).trans (ha865 55 (nn_lt rfl)))
  have ha929 : ad919 56 = ad864 56 := (((((ha920 56 (nn_lt rfl)).trans (ha909 56 (nn_lt rfl))).trans (ha898 56 (nn_lt rfl))).trans (ha887 56 (nn_lt rfl))).trans (ha876 56 (nn_lt rfl)))
  have ha930 : ad919 57 = ad875 57 := ((((ha920 57 (nn_lt rfl)).trans (ha909 57 (nn_lt rfl))).trans (ha898 57 (nn_lt rfl))).trans (ha887 57 (nn_lt rfl)))
  have ha931 : ad919 58 = ad886 58 := (((ha920 58 (nn_lt rfl)).trans (ha909 58 (nn_lt rfl))).trans (ha898 58 (nn_lt rfl)))
  have ha932 : ad919 59 = ad897 59 := ((ha920 59 (nn_lt rfl)).trans (ha909 59 (nn_lt rfl)))
  have ha933 : ad919 60 = ad908 60 := (ha920 60 (nn_lt rfl))
  have hw934 : w922 0 = .inr (12, mo_8 G ad919) := by rw [hw923]; rw [efs926, efs915, efs904, efs893, efs882, efs871, efs860, efs850]; rw [mo_7_c (a := adS7) (b := ad919) (fun j hj => ((((((((ha920 j (by omega)).trans (ha909 j (by omega))).trans (ha898 j (by omega))).trans (ha887 j (by omega))).trans (ha876 j (by omega))).trans (ha865 j (by omega))).trans (ha855 j (by omega))).trans (ha845 j (by omega))).symm)]; rw [show ad844 54 = ad919 54 from ha927.symm, show ad854 55 = ad919 55 from ha928.symm, show ad864 56 = ad919 56 from ha929.symm, show ad875 57 = ad919 57 from ha930.symm, show ad886 58 = ad919 58 from ha931.symm, show ad897 59 = ad919 59 from ha932.symm, show ad908 60 = ad919 60 from ha933.symm]; rfl
  have hall7_w922 : ∀ k : Nat, 1 ≤ k → k ≤ 53 → w922 k = wS7 k := fun k h1 h2 => (hne924 k (by omega)).trans ((hne918 k (by omega)).trans ((hne913 k (by omega)).trans ((hne907 k (by omega)).trans ((hne902 k (by omega)).trans ((hne896 k (by omega)).trans ((hne891 k (by omega)).trans ((hne885 k (by omega)).trans ((hne880 k (by omega)).trans ((hne874 k (by omega)).trans ((hne869 k (by omega)).trans ((hne863 k (by omega)).trans ((hne859 k (by omega)).trans ((hne853 k (by omega)).trans ((hne849 k (by omega)).trans ((hne843 k (by omega)))))))))))))))))
  have hw935 : w922 1 = .inl (G.2.1 0, 5, .inl (fun _ => 0)) := (hall7_w922 1 (by decide) (by decide)).trans f7_1
  have hw936 : w922 2 = .inl (G.2.1 0, 5, .inl (fun _ => 0)) := (hall7_w922 2 (by decide) (by decide)).trans f7_2
  have hw937 : w922 3 = .inl (G.2.1 1, 5, .inl (fun _ => 0)) := (hall7_w922 3 (by decide) (by decide)).trans f7_3
  have hw938 : w922 4 = .inl (G.2.1 0, 24, .inl (fun _ => 0)) := (hall7_w922 4 (by decide) (by decide)).trans f7_4
  have hw939 : w922 5 = .inl (G.2.1 0, 8, .inl (fun _ => 0)) := (hall7_w922 5 (by decide) (by decide)).trans f7_5
  have hw940 : w922 6 = .inl (G.2.1 0, 30, .inl (fun _ => 0)) := (hall7_w922 6 (by decide) (by decide)).trans f7_6
  have hw941 : w922 7 = .inl (G.2.1 0, 30, .inl (fun _ => 0)) := (hall7_w922 7 (by decide) (by decide)).trans f7_7
  have hw942 : w922 8 = .inl (G.2.1 0, 30, .inl (fun _ => 0)) := (hall7_w922 8 (by decide) (by decide)).trans f7_8
  have hw943 : w922 9 = .inl (G.2.1 0, 20, .inl (fun _ => 0)) := (hall7_w922 9 (by decide) (by decide)).trans f7_9
  have hw944 : w922 10 = .inl (G.2.1 0, 20, .inl (fun _ => 0)) := (hall7_w922 10 (by decide) (by decide)).trans f7_10
  have hw945 : w922 11 = .inl (G.2.1 0, 20, .inl (fun _ => 0)) := (hall7_w922 11 (by decide) (by decide)).trans f7_11
  have hw946 : w922 12 = .inl (G.2.1 0, 20, .inl (fun _ => 0)) := (hall7_w922 12 (by decide) (by decide)).trans f7_12
  have hw947 : w922 13 = .inl (G.2.1 0, 6, .inl (fun _ => 0)) := (hall7_w922 13 (by decide) (by decide)).trans f7_13
  have hw948 : w922 14 = .inl (G.2.1 0, 6, .inl (fun _ => 0)) := (hall7_w922 14 (by decide) (by decide)).trans f7_14
  have hw949 : w922 15 = .inl (G.2.1 0, 6, .inl (fun _ => 0)) := (hall7_w922 15 (by decide) (by decide)).trans f7_15
  have hw950 : w922 16 = .inl (G.2.1 0, 6, .inl (fun _ => 0)) := (hall7_w922 16 (by decide) (by decide)).trans f7_16
  have hw951 : w922 17 = .inl (G.2.1 0, 6, .inl (fun _ => 0)) := (hall7_w922 17 (by decide) (by decide)).trans f7_17
  have hw952 : w922 18 = .inl (G.2.1 0, 6, .inl (fun _ => 0)) := (hall7_w922 18 (by decide) (by decide)).trans f7_18
  have hw953 : w922 19 = .inl (G.2.1 0, 6, .inl (fun _ => 0)) := (hall7_w922 19 (by decide) (by decide)).trans f7_19
  have hw954 : w922 20 = .inl (G.2.1 0, 24, .inl (fun _ => 0)) := (hall7_w922 20 (by decide) (by decide)).trans f7_20
  have hw955 : w922 21 = .inl (G.2.1 0, 24, .inl (fun _ => 0)) := (hall7_w922 21 (by decide) (by decide)).trans f7_21
  have hw956 : w922 22 = .inl (G.2.1 0, 6, .inl (fun _ => 0)) := (hall7_w922 22 (by decide) (by decide)).trans f7_22
  have hw957 : w922 23 = .inl (G.2.1 0, 72, .inl (fun _ => 0)) := (hall7_w922 23 (by decide) (by decide)).trans f7_23
  have hw958 : w922 24 = .inl (G.2.1 0, 72, .inl (fun _ => 0)) := (hall7_w922 24 (by decide) (by decide)).trans f7_24
  have hw959 : w922 25 = .inl (G.2.1 0, 72, .inl (fun _ => 0)) := (hall7_w922 25 (by decide) (by decide)).trans f7_25
  have hw960 : w922 26 = .inl (G.2.1 0, 6, .inl (fun _ => 0)) := (hall7_w922 26 (by decide) (by decide)).trans f7_26
  have hw961 : w922 27 = .inl (G.2.1 0, 30, .inl (fun _ => 0)) := (hall7_w922 27 (by decide) (by decide)).trans f7_27
  have hw962 : w922 28 = .inl (G.2.1 0, 30, .inl (fun _ => 0)) := (hall7_w922 28 (by decide) (by decide)).trans f7_28
  have hw963 : w922 29 = .inl (G.2.1 0, 30, .inl (fun _ => 0)) := (hall7_w922 29 (by decide) (by decide)).trans f7_29
  have hw964 : w922 30 = .inl (G.2.1 1, 6, .inl (fun _ => 0)) := (hall7_w922 30 (by decide) (by decide)).trans f7_30
  have hw965 : w922 31 = .inl (G.2.1 0, 6, .inl (fun _ => 0)) := (hall7_w922 31 (by decide) (by decide)).trans f7_31
  have hw966 : w922 32 = .inl (G.2.1 0, 24, .inl (fun _ => 0)) := (hall7_w922 32 (by decide) (by decide)).trans f7_32
  have hw967 : w922 33 = .inl (G.2.1 0, 24, .inl (fun _ => 0)) := (hall7_w922 33 (by decide) (by decide)).trans f7_33
  have hw968 : w922 34 = .inl (G.2.1 0, 100, .inl (fun _ => 0)) := (hall7_w922 34 (by decide) (by decide)).trans f7_34
  have hw969 : w922 35 = .inl (G.2.1 0, 1700, .inl (fun _ => 0)) := (hall7_w922 35 (by decide) (by decide)).trans f7_35
  have hw970 : w922 36 = .inl (G.2.1 0, 17, .inl (fun _ => 0)) := (hall7_w922 36 (by decide) (by decide)).trans f7_36
  have hw971 : w922 37 = .inl (G.2.1 0, 100, .inl (fun _ => 0)) := (hall7_w922 37 (by decide) (by decide)).trans f7_37
  have hw972 : w922 38 = .inl (G.2.1 0, 13, .inl (fun _ => 0)) := (hall7_w922 38 (by decide) (by decide)).trans f7_38
  have hw973 : w922 39 = .inl (G.2.1 0, 6, .inl (fun _ => 0)) := (hall7_w922 39 (by decide) (by decide)).trans f7_39
  have hw974 : w922 40 = .inl (G.2.1 0, 6, .inl (fun _ => 0)) := (hall7_w922 40 (by decide) (by decide)).trans f7_40
  have hw975 : w922 41 = .inl (G.2.1 0, 6, .inl (fun _ => 0)) := (hall7_w922 41 (by decide) (by decide)).trans f7_41
  have hw976 : w922 42 = .inl (G.2.1 0, 6, .inl (fun _ => 0)) := (hall7_w922 42 (by decide) (by decide)).trans f7_42
  have hw977 : w922 43 = .inl (G.2.1 0, 6, .inl (fun _ => 0)) := (hall7_w922 43 (by decide) (by decide)).trans f7_43
  have hw978 : w922 44 = .inl (G.2.1 0, 6, .inl (fun _ => 0)) := (hall7_w922 44 (by decide) (by decide)).trans f7_44
  have hw979 : w922 45 = .inl (G.2.1 0, 6, .inl (fun _ => 0)) := (hall7_w922 45 (by decide) (by decide)).trans f7_45
  have hw980 : w922 46 = .inl (G.2.1 0, 24, .inl (fun _ => 0)) := (hall7_w922 46 (by decide) (by decide)).trans f7_46
  have hw981 : w922 47 = .inl (G.2.1 0, 6, .inl (fun _ => 0)) := (hall7_w922 47 (by decide) (by decide)).trans f7_47
  have hw982 : w922 48 = .inl (G.2.1 0, 6, .inl (fun _ => 0)) := (hall7_w922 48 (by decide) (by decide)).trans f7_48
  have hw983 : w922 49 = .inl (G.2.1 0, 6, .inl (fun _ => 0)) := (hall7_w922 49 (by decide) (by decide)).trans f7_49
  have hw984 : w922 50 = .inl (G.2.1 0, 6, .inl (fun _ => 0)) := (hall7_w922 50 (by decide) (by decide)).trans f7_50
  have hw985 : w922 51 = .inl (G.2.1 0, 6, .inl (fun _ => 0)) := (hall7_w922 51 (by decide) (by decide)).trans f7_51
  have hw986 : w922 52 = .inl (G.2.1 0, 6, .inl (fun _ => 0)) := (hall7_w922 52 (by decide) (by decide)).trans f7_52
  have hw987 : w922 53 = .inl (G.2.1 0, 6, .inl (fun _ => 0)) := (hall7_w922 53 (by decide) (by decide)).trans f7_53
  have hw988 : w922 54 = .inl (G.2.1 0, 6, .inl (fun _ => 0)) := (hne924 54 (nn_ne rfl)).trans ((hne918 54 (nn_ne rfl)).trans ((hne913 54 (nn_ne rfl)).trans ((hne907 54 (nn_ne rfl)).trans ((hne902 54 (nn_ne rfl)).trans ((hne896 54 (nn_ne rfl)).trans ((hne891 54 (nn_ne rfl)).trans ((hne885 54 (nn_ne rfl)).trans ((hne880 54 (nn_ne rfl)).trans ((hne874 54 (nn_ne rfl)).trans ((hne869 54 (nn_ne rfl)).trans ((hne863 54 (nn_ne rfl)).trans ((hne859 54 (nn_ne rfl)).trans ((hne853 54 (nn_ne rfl)).trans ((hne849 54 (nn_ne rfl)).trans (hw842)))))))))))))))
  have hw989 : w922 55 = .inl (G.2.1 0, 360, .inl (fun _ => 0)) := (hne924 55 (nn_ne rfl)).trans ((hne918 55 (nn_ne rfl)).trans ((hne913 55 (nn_ne rfl)).trans ((hne907 55 (nn_ne rfl)).trans ((hne902 55 (nn_ne rfl)).trans ((hne896 55 (nn_ne rfl)).trans ((hne891 55 (nn_ne rfl)).trans ((hne885 55 (nn_ne rfl)).trans ((hne880 55 (nn_ne rfl)).trans ((hne874 55 (nn_ne rfl)).trans ((hne869 55 (nn_ne rfl)).trans ((hne863 55 (nn_ne rfl)).trans ((hne859 55 (nn_ne rfl)).trans (hw852)))))))))))))
  have hw990 : w922 56 = .inl (G.2.1 0, 30, .inl (fun _ => 0)) := (hne924 56 (nn_ne rfl)).trans ((hne918 56 (nn_ne rfl)).trans ((hne913 56 (nn_ne rfl)).trans ((hne907 56 (nn_ne rfl)).trans ((hne902 56 (nn_ne rfl)).trans ((hne896 56 (nn_ne rfl)).trans ((hne891 56 (nn_ne rfl)).trans ((hne885 56 (nn_ne rfl)).trans ((hne880 56 (nn_ne rfl)).trans ((hne874 56 (nn_ne rfl)).trans ((hne869 56 (nn_ne rfl)).trans (hw862)))))))))))
  have hw991 : w922 57 = .inl (G.2.1 0, 30, .inl (fun _ => 0)) := (hne924 57 (nn_ne rfl)).trans ((hne918 57 (nn_ne rfl)).trans ((hne913 57 (nn_ne rfl)).trans ((hne907 57 (nn_ne rfl)).trans ((hne902 57 (nn_ne rfl)).trans ((hne896 57 (nn_ne rfl)).trans ((hne891 57 (nn_ne rfl)).trans ((hne885 57 (nn_ne rfl)).trans ((hne880 57 (nn_ne rfl)).trans (hw873)))))))))
  have hw992 : w922 58 = .inl (G.2.1 0, 4, .inl (fun _ => 0)) := (hne924 58 (nn_ne rfl)).trans ((hne918 58 (nn_ne rfl)).trans ((hne913 58 (nn_ne rfl)).trans ((hne907 58 (nn_ne rfl)).trans ((hne902 58 (nn_ne rfl)).trans ((hne896 58 (nn_ne rfl)).trans ((hne891 58 (nn_ne rfl)).trans (hw884)))))))
  have hw993 : w922 59 = .inl (G.2.1 0, 72, .inl (fun _ => 0)) := (hne924 59 (nn_ne rfl)).trans ((hne918 59 (nn_ne rfl)).trans ((hne913 59 (nn_ne rfl)).trans ((hne907 59 (nn_ne rfl)).trans ((hne902 59 (nn_ne rfl)).trans (hw895)))))
  have hw994 : w922 60 = .inl (G.2.1 1, 6, .inl (fun _ => 0)) := (hne924 60 (nn_ne rfl)).trans ((hne918 60 (nn_ne rfl)).trans ((hne913 60 (nn_ne rfl)).trans (hw906)))
  have hw995 : w922 61 = .inl (G.2.1 0, 10, .inl (fun _ => 0)) := (hne924 61 (nn_ne rfl)).trans (hw917)
  exact kk H locs ad919 w922 ls (fun k hk => (((((((((ha920 k (by omega)).trans (ha909 k (by omega))).trans (ha898 k (by omega))).trans (ha887 k (by omega))).trans (ha876 k (by omega))).trans (ha865 k (by omega))).trans (ha855 k (by omega))).trans (ha845 k (by omega)))).trans (hz7 k (by omega))) hw934 hw935 hw936 hw937 hw938 hw939 hw940 hw941 hw942 hw943 hw944 hw945 hw946 hw947 hw948 hw949 hw950 hw951 hw952 hw953 hw954 hw955 hw956 hw957 hw958 hw959 hw960 hw961 hw962 hw963 hw964 hw965 hw966 hw967 hw968 hw969 hw970 hw971 hw972 hw973 hw974 hw975 hw976 hw977 hw978 hw979 hw980 hw981 hw982 hw983 hw984 hw985 hw986 hw987 hw988 hw989 hw990 hw991 hw992 hw993 hw994 hw995 hH hl

def mo_9 (G : tw_G) (a : Nat → Nat) : List Value := [.int (0 : Int32), .int (2 : Int32), .int (1 : Int32), .ref (a 1), .ref (a 2), .ref (a 3), .ref (a 4), .ref (a 5), .int (0 : Int32), .ref (a 6), .ref (a 7), .ref (a 8), .int (0 : Int32), .ref (a 9), .ref (a 10), .ref (a 11), .ref (a 12), .int (0 : Int32), .ref (a 13), .ref (a 14), .ref (a 15), .ref (a 16), .ref (a 17), .ref (a 18), .ref (a 19), .ref (a 20), .ref (a 21), .ref (a 22), .ref (a 23), .ref (a 24), .ref (a 25), .ref (a 26), .ref (a 27), .ref (a 28), .ref (a 29), .ref (a 30), .ref (a 31), .ref (a 32), .ref (a 33), .ref (a 34), .int (0 : Int32), .int (0 : Int32), .int (0 : Int32), .ref (G.2.2 (100 + 10)), .ref (a 35), .ref (a 36), .ref (a 37), .int (0 : Int32), .ref (a 38), .ref (a 39), .ref (a 40), .ref (a 41), .ref (a 42), .ref (a 43), .ref (a 44), .ref (a 45), .ref (a 46), .ref (a 47), .ref (a 48), .ref (a 49), .ref (a 50), .ref (a 51), .ref (a 52), .ref (a 53), .ref (a 54), .ref (a 55), .ref (a 56), .ref (a 57), .ref (a 58), .ref (a 59), .int (0 : Int32), .ref (a 60), .int (0 : Int32), .ref (a 61), .ref (a 62), .int (0 : Int32), .ref (a 63), .ref (a 64), .ref (a 65), .ref (a 66), .ref (a 67), .ref (a 68), .int (0 : Int32), .ref (a 69), .null, .null, .null, .null, .int (0 : Int32), .int (0 : Int32), .int (0 : Int32), .null, .null, .null, .null, .null, .null]
theorem mo_9_c {G : tw_G} {a b : Nat → Nat} (h : ∀ j, j < 70 → a j = b j) : mo_9 G a = mo_9 G b := by
  unfold mo_9
  rw [h 1 (by decide), h 2 (by decide), h 3 (by decide), h 4 (by decide), h 5 (by decide), h 6 (by decide), h 7 (by decide), h 8 (by decide), h 9 (by decide), h 10 (by decide), h 11 (by decide), h 12 (by decide), h 13 (by decide), h 14 (by decide), h 15 (by decide), h 16 (by decide), h 17 (by decide), h 18 (by decide), h 19 (by decide), h 20 (by decide), h 21 (by decide), h 22 (by decide), h 23 (by decide), h 24 (by decide), h 25 (by decide), h 26 (by decide), h 27 (by decide), h 28 (by decide), h 29 (by decide), h 30 (by decide), h 31 (by decide), h 32 (by decide), h 33 (by decide), h 34 (by decide), h 35 (by decide), h 36 (by decide), h 37 (by decide), h 38 (by decide), h 39 (by decide), h 40 (by decide), h 41 (by decide), h 42 (by decide), h 43 (by decide), h 44 (by decide), h 45 (by decide), h 46 (by decide), h 47 (by decide), h 48 (by decide), h 49 (by decide), h 50 (by decide), h 51 (by decide), h 52 (by decide), h 53 (by decide), h 54 (by decide), h 55 (by decide), h 56 (by decide), h 57 (by decide), h 58 (by decide), h 59 (by decide), h 60 (by decide), h 61 (by decide), h 62 (by decide), h 63 (by decide), h 64 (by decide), h 65 (by decide), h 66 (by decide), h 67 (by decide), h 68 (by decide), h 69 (by decide)]
theorem hmo_9 (G : tw_G) (a : Nat → Nat) : 96 < (mo_9 G a).length := Nat.le_of_ble_eq_true rfl
set_option maxHeartbeats 20000000 in
set_option maxRecDepth 100000 in
theorem c_X12_init_s9 {p : Program} {l : Launch} {e : Env} {s : State} {m : MethodId} {args : Array Value} {below : List Frame} {meth : Method} {c : Code} {G : tw_G} {A : Nat → Prop} {Q : State → Prop} {H : Heap} {locs : List Loc} {ls : Array Slot} {ad adS8 : Nat → Nat} {wS8 : Nat → va_E} (F : tw_F p m c cX12_init 2 s args RX12 G A) (hin : meth.name = "<init>") (hz8 : ∀ k, k < 1 → adS8 k = ad k) (f8_0 : wS8 0 = .inr (12, mo_8 G adS8)) (f8_1 : wS8 1 = .inl (G.2.1 0, 5, .inl (fun _ => 0))) (f8_2 : wS8 2 = .inl (G.2.1 0, 5, .inl (fun _ => 0))) (f8_3 : wS8 3 = .inl (G.2.1 1, 5, .inl (fun _ => 0))) (f8_4 : wS8 4 = .inl (G.2.1 0, 24, .inl (fun _ => 0))) (f8_5 : wS8 5 = .inl (G.2.1 0, 8, .inl (fun _ => 0))) (f8_6 : wS8 6 = .inl (G.2.1 0, 30, .inl (fun _ => 0))) (f8_7 : wS8 7 = .inl (G.2.1 0, 30, .inl (fun _ => 0))) (f8_8 : wS8 8 = .inl (G.2.1 0, 30, .inl (fun _ => 0))) (f8_9 : wS8 9 = .inl (G.2.1 0, 20, .inl (fun _ => 0))) (f8_10 : wS8 10 = .inl (G.2.1 0, 20, .inl (fun _ => 0))) (f8_11 : wS8 11 = .inl (G.2.1 0, 20, .inl (fun _ => 0))) (f8_12 : wS8 12 = .inl (G.2.1 0, 20, .inl (fun _ => 0))) (f8_13 : wS8 13 = .inl (G.2.1 0, 6, .inl (fun _ => 0))) (f8_14 : wS8 14 = .inl (G.2.1 0, 6, .inl (fun _ => 0))) (f8_15 : wS8 15 = .inl (G.2.1 0, 6, .inl (fun _ => 0))) (f8_16 : wS8 16 = .inl (G.2.1 0, 6, .inl (fun _ => 0))) (f8_17 : wS8 17 = .inl (G.2.1 0, 6, .inl (fun _ => 0))) (f8_18 : wS8 18 = .inl (G.2.1 0, 6, .inl (fun _ => 0))) (f8_19 : wS8 19 = .inl (G.2.1 0, 6, .inl (fun _ => 0))) (f8_20 : wS8 20 = .inl (G.2.1 0, 24, .inl (fun _ => 0))) (f8_21 : wS8 21 = .inl (G.2.1 0, 24, .inl (fun _ => 0))) (f8_22 : wS8 22 = .inl (G.2.1 0, 6, .inl (fun _ => 0))) (f8_23 : wS8 23 = .inl (G.2.1 0, 72, .inl (fun _ => 0))) (f8_24 : wS8 24 = .inl (G.2.1 0, 72, .inl (fun _ => 0))) (f8_25 : wS8 25 = .inl (G.2.1 0, 72, .inl (fun _ => 0))) (f8_26 : wS8 26 = .inl (G.2.1 0, 6, .inl (fun _ => 0))) (f8_27 : wS8 27 = .inl (G.2.1 0, 30, .inl (fun _ => 0))) (f8_28 : wS8 28 = .inl (G.2.1 0, 30, .inl (fun _ => 0))) (f8_29 : wS8 29 = .inl (G.2.1 0, 30, .inl (fun _ => 0))) (f8_30 : wS8 30 = .inl (G.2.1 1, 6, .inl (fun _ => 0))) (f8_31 : wS8 31 = .inl (G.2.1 0, 6, .inl (fun _ => 0))) (f8_32 : wS8 32 = .inl (G.2.1 0, 24, .inl (fun _ => 0))) (f8_33 : wS8 33 = .inl (G.2.1 0, 24, .inl (fun _ => 0))) (f8_34 : wS8 34 = .inl (G.2.1 0, 100, .inl (fun _ => 0))) (f8_35 : wS8 35 = .inl (G.2.1 0, 1700, .inl (fun _ => 0))) (f8_36 : wS8 36 = .inl (G.2.1 0, 17, .inl (fun _ => 0))) (f8_37 : wS8 37 = .inl (G.2.1 0, 100, .inl (fun _ => 0))) (f8_38 : wS8 38 = .inl (G.2.1 0, 13, .inl (fun _ => 0))) (f8_39 : wS8 39 = .inl (G.2.1 0, 6, .inl (fun _ => 0))) (f8_40 : wS8 40 = .inl (G.2.1 0, 6, .inl (fun _ => 0))) (f8_41 : wS8 41 = .inl (G.2.1 0, 6, .inl (fun _ => 0))) (f8_42 : wS8 42 = .inl (G.2.1 0, 6, .inl (fun _ => 0))) (f8_43 : wS8 43 = .inl (G.2.1 0, 6, .inl (fun _ => 0))) (f8_44 : wS8 44 = .inl (G.2.1 0, 6, .inl (fun _ => 0))) (f8_45 : wS8 45 = .inl (G.2.1 0, 6, .inl (fun _ => 0))) (f8_46 : wS8 46 = .inl (G.2.1 0, 24, .inl (fun _ => 0))) (f8_47 : wS8 47 = .inl (G.2.1 0, 6, .inl (fun _ => 0))) (f8_48 : wS8 48 = .inl (G.2.1 0, 6, .inl (fun _ => 0))) (f8_49 : wS8 49 = .inl (G.2.1 0, 6, .inl (fun _ => 0))) (f8_50 : wS8 50 = .inl (G.2.1 0, 6, .inl (fun _ => 0))) (f8_51 : wS8 51 = .inl (G.2.1 0, 6, .inl (fun _ => 0))) (f8_52 : wS8 52 = .inl (G.2.1 0, 6, .inl (fun _ => 0))) (f8_53 : wS8 53 = .inl (G.2.1 0, 6, .inl (fun _ => 0))) (f8_54 : wS8 54 = .inl (G.2.1 0, 6, .inl (fun _ => 0))) (f8_55 : wS8 55 = .inl (G.2.1 0, 360, .inl (fun _ => 0))) (f8_56 : wS8 56 = .inl (G.2.1 0, 30, .inl (fun _ => 0))) (f8_57 : wS8 57 = .inl (G.2.1 0, 30, .inl (fun _ => 0))) (f8_58 : wS8 58 = .inl (G.2.1 0, 4, .inl (fun _ => 0))) (f8_59 : wS8 59 = .inl (G.2.1 0, 72, .inl (fun _ => 0))) (f8_60 : wS8 60 = .inl (G.2.1 1, 6, .inl (fun _ => 0))) (f8_61 : wS8 61 = .inl (G.2.1 0, 10, .inl (fun _ => 0))) (hH : tw_H G 62 adS8 wS8 A s H locs) (hl : lv_has ls 2 [(0, .ref (ad 0))]) (kk : ∀ (H : Heap) (locs : List Loc) (ad1 : Nat → Nat) (w1 : Nat → va_E) (ls : Array Slot), (∀ k, k < 1 → ad1 k = ad k) → w1 0 = .inr (12, mo_9 G ad1) → w1 1 = .inl (G.2.1 0, 5, .inl (fun _ => 0)) → w1 2 = .inl (G.2.1 0, 5, .inl (fun _ => 0)) → w1 3 = .inl (G.2.1 1, 5, .inl (fun _ => 0)) → w1 4 = .inl (G.2.1 0, 24, .inl (fun _ => 0)) → w1 5 = .inl (G.2.1 0, 8, .inl (fun _ => 0)) → w1 6 = .inl (G.2.1 0, 30, .inl (fun _ => 0)) → w1 7 = .inl (G.2.1 0, 30, .inl (fun _ => 0)) → w1 8 = .inl (G.2.1 0, 30, .inl (fun _ => 0)) → w1 9 = .inl (G.2.1 0, 20, .inl (fun _ => 0)) → w1 10 = .inl (G.2.1 0, 20, .inl (fun _ => 0)) → w1 11 = .inl (G.2.1 0, 20, .inl (fun _ => 0)) → w1 12 = .inl (G.2.1 0, 20, .inl (fun _ => 0)) → w1 13 = .inl (G.2.1 0, 6, .inl (fun _ => 0)) → w1 14 = .inl (G.2.1 0, 6, .inl (fun _ => 0)) → w1 15 = .inl (G.2.1 0, 6, .inl (fun _ => 0)) → w1 16 = .inl (G.2.1 0, 6, .inl (fun _ => 0)) → w1 17 = .inl (G.2.1 0, 6, .inl (fun _ => 0)) → w1 18 = .inl (G.2.1 0, 6, .inl (fun _ => 0)) → w1 19 = .inl (G.2.1 0, 6, .inl (fun _ => 0)) → w1 20 = .inl (G.2.1 0, 24, .inl (fun _ => 0)) → w1 21 = .inl (G.2.1 0, 24, .inl (fun _ => 0)) → w1 22 = .inl (G.2.1 0, 6, .inl (fun _ => 0)) → w1 23 = .inl (G.2.1 0, 72, .inl (fun _ => 0)) → w1 24 = .inl (G.2.1 0, 72, .inl (fun _ => 0)) → w1 25 = .inl (G.2.1 0, 72, .inl (fun _ => 0)) → w1 26 = .inl (G.2.1 0, 6, .inl (fun _ => 0)) → w1 27 = .inl (G.2.1 0, 30, .inl (fun _ => 0)) → w1 28 = .inl (G.2.1 0, 30, .inl (fun _ => 0)) → w1 29 = .inl (G.2.1 0, 30, .inl (fun _ => 0)) → w1 30 = .inl (G.2.1 1, 6, .inl (fun _ => 0)) → w1 31 = .inl (G.2.1 0, 6, .inl (fun _ => 0)) → w1 32 = .inl (G.2.1 0, 24, .inl (fun _ => 0)) → w1 33 = .inl (G.2.1 0, 24, .inl (fun _ => 0)) → w1 34 = .inl (G.2.1 0, 100, .inl (fun _ => 0)) → w1 35 = .inl (G.2.1 0, 1700, .inl (fun _ => 0)) → w1 36 = .inl (G.2.1 0, 17, .inl (fun _ => 0)) → w1 37 = .inl (G.2.1 0, 100, .inl (fun _ => 0)) → w1 38 = .inl (G.2.1 0, 13, .inl (fun _ => 0)) → w1 39 = .inl (G.2.1 0, 6, .inl (fun _ => 0)) → w1 40 = .inl (G.2.1 0, 6, .inl (fun _ => 0)) → w1 41 = .inl (G.2.1 0, 6, .inl (fun _ => 0)) → w1 42 = .inl (G.2.1 0, 6, .inl (fun _ => 0)) → w1 43 = .inl (G.2.1 0, 6, .inl (fun _ => 0)) → w1 44 = .inl (G.2.1 0, 6, .inl (fun _ => 0)) → w1 45 = .inl (G.2.1 0, 6, .inl (fun _ => 0)) → w1 46 = .inl (G.2.1 0, 24, .inl (fun _ => 0)) → w1 47 = .inl (G.2.1 0, 6, .inl (fun _ => 0)) → w1 48 = .inl (G.2.1 0, 6, .inl (fun _ => 0)) → w1 49 = .inl (G.2.1 0, 6, .inl (fun _ => 0)) → w1 50 = .inl (G.2.1 0, 6, .inl (fun _ => 0)) → w1 51 = .inl (G.2.1 0, 6, .inl (fun _ => 0)) → w1 52 = .inl (G.2.1 0, 6, .inl (fun _ => 0)) → w1 53 = .inl (G.2.1 0, 6, .inl (fun _ => 0)) → w1 54 = .inl (G.2.1 0, 6, .inl (fun _ => 0)) → w1 55 = .inl (G.2.1 0, 360, .inl (fun _ => 0)) → w1 56 = .inl (G.2.1 0, 30, .inl (fun _ => 0)) → w1 57 = .inl (G.2.1 0, 30, .inl (fun _ => 0)) → w1 58 = .inl (G.2.1 0, 4, .inl (fun _ => 0)) → w1 59 = .inl (G.2.1 0, 72, .inl (fun _ => 0)) → w1 60 = .inl (G.2.1 1, 6, .inl (fun _ => 0)) → w1 61 = .inl (G.2.1 0, 10, .inl (fun _ => 0)) → w1 62 = .inl (G.2.1 0, 11, .inl (fun _ => 0)) → w1 63 = .inl (G.2.1 0, 20, .inl (fun _ => 0)) → w1 64 = .inl (G.2.1 0, 20, .inl (fun _ => 0)) → w1 65 = .inl (G.2.1 0, 20, .inl (fun _ => 0)) → w1 66 = .inl (G.2.1 0, 20, .inl (fun _ => 0)) → w1 67 = .inl (G.2.1 1, 6, .inl (fun _ => 0)) → w1 68 = .inl (G.2.1 0, 6, .inl (fun _ => 0)) → w1 69 = .inl (G.2.1 0, 6, .inl (fun _ => 0)) → tw_H G 70 ad1 w1 A s H locs → lv_has ls 2 [(0, .ref (ad 0))] → W p l e ({ frames := 1, cells := 79, slots := 3514, locals := 23 }) s m args below meth c H locs 69 3350 Q (F0 m 571 ls [])) : W p l e ({ frames := 1, cells := 79, slots := 3514, locals := 23 }) s m args below meth c H locs 61 3241 Q (F0 m 507 ls []) := by
  have hx := F.1.1
  have hb := F.1.2.1
  have hown := F.1.2.2.2.1
  have hts := F.1.2.2.2.2
  refine lv_aload_n hx hb dX12_init_507 rfl (lv_at hl 0 rfl) ?_
  refine lv_bipush (v := 11) hx hb dX12_init_508 (by decide) ?_
  refine tw_newa (t := 0) (atype := .int) (ty := .int) (n' := 11) (a0 := (11, .inl (fun _ => 0))) F hH rfl (fun C h => by cases h) (tw_gl kw_47 rfl) rfl (fun _ => rfl) (by decide) (Nat.le_of_ble_eq_true rfl) (Nat.le_of_ble_eq_true rfl) (Nat.le_of_ble_eq_true rfl) dX12_init_510 (fun H locs ad999 w996 ha1000 hw997 hne998 hH => ?_)
  have hw1001 : w996 0 = .inr (12, (mo_8 G adS8)) := (hne998 0 (nn_ne rfl)).trans (f8_0)
  refine tw_putF (r := 0) F hH kf_RX12_269 kp_X12_74 hin rfl ((ha1000 0 (nn_lt rfl)).trans (hz8 0 (nn_lt rfl))) (by decide) hw1001 (Nat.lt_of_le_of_lt (by decide) (hmo_8 G adS8)) rfl rfl dX12_init_512 (fun H locs w1002 hw1003 hne1004 hH => ?_)
  obtain ⟨fs1005, efs1005⟩ : ∃ z : List Value, z = List.set (mo_8 G adS8) 74 (.ref (ad999 62)) := ⟨_, rfl⟩
  rw [← efs1005] at hw1003
  have hfs1005 : 96 < fs1005.length := by rw [efs1005, List.length_set]; exact (hmo_8 G adS8)
  refine lv_aload_n hx hb dX12_init_515 rfl (lv_at hl 0 rfl) ?_
  refine lv_bipush (v := 20) hx hb dX12_init_516 (by decide) ?_
  refine tw_newa (t := 0) (atype := .int) (ty := .int) (n' := 20) (a0 := (20, .inl (fun _ => 0))) F hH rfl (fun C h => by cases h) (tw_gl kw_47 rfl) rfl (fun _ => rfl) (by decide) (Nat.le_of_ble_eq_true rfl) (Nat.le_of_ble_eq_true rfl) (Nat.le_of_ble_eq_true rfl) dX12_init_518 (fun H locs ad1009 w1006 ha1010 hw1007 hne1008 hH => ?_)
  have hw1011 : w1006 0 = .inr (12, fs1005) := (hne1008 0 (nn_ne rfl)).trans (hw1003)
  refine tw_putF (r := 0) F hH kf_RX12_472 kp_X12_76 hin rfl (((ha1010 0 (nn_lt rfl)).trans (ha1000 0 (nn_lt rfl))).trans (hz8 0 (nn_lt rfl))) (by decide) hw1011 (Nat.lt_of_le_of_lt (by decide) hfs1005) rfl rfl dX12_init_520 (fun H locs w1012 hw1013 hne1014 hH => ?_)
  obtain ⟨fs1015, efs1015⟩ : ∃ z : List Value, z = List.set fs1005 76 (.ref (ad1009 63)) := ⟨_, rfl⟩
  rw [← efs1015] at hw1013
  have hfs1015 : 96 < fs1015.length := by rw [efs1015, List.length_set]; exact hfs1005
  refine lv_aload_n hx hb dX12_init_523 rfl (lv_at hl 0 rfl) ?_
  refine lv_bipush (v := 20) hx hb dX12_init_524 (by decide) ?_
  refine tw_newa (t := 0) (atype := .int) (ty := .int) (n' := 20) (a0 := (20, .inl (fun _ => 0))) F hH rfl (fun C h => by cases h) (tw_gl kw_47 rfl) rfl (fun _ => rfl) (by decide) (Nat.le_of_ble_eq_true rfl) (Nat.le_of_ble_eq_true rfl) (Nat.le_of_ble_eq_true rfl) dX12_init_526 (fun H locs ad1019 w1016 ha1020 hw1017 hne1018 hH => ?_)
  have hw1021 : w1016 0 = .inr (12, fs1015) := (hne1018 0 (nn_ne rfl)).trans (hw1013)
  have ha1025 : ad1019 0 = ad 0 := ((((ha1020 0 (nn_lt rfl)).trans (ha1010 0 (nn_lt rfl))).trans (ha1000 0 (nn_lt rfl))).trans (hz8 0 (nn_lt rfl)))
  refine tw_putF (r := 0) F hH kf_RX12_475 kp_X12_77 hin rfl ha1025 (by decide) hw1021 (Nat.lt_of_le_of_lt (by decide) hfs1015) rfl rfl dX12_init_528 (fun H locs w1022 hw1023 hne1024 hH => ?_)
  obtain ⟨fs1026, efs1026⟩ : ∃ z : List Value, z = List.set fs1015 77 (.ref (ad1019 64)) := ⟨_, rfl⟩
  rw [← efs1026] at hw1023
  have hfs1026 : 96 < fs1026.length := by rw [efs1026, List.length_set]; exact hfs1015
  refine lv_aload_n hx hb dX12_init_531 rfl (lv_at hl 0 rfl) ?_
  refine lv_bipush (v := 20) hx hb dX12_init_532 (by decide) ?_
  refine tw_newa (t := 0) (atype := .int) (ty := .int) (n' := 20) (a0 := (20, .inl (fun _ => 0))) F hH rfl (fun C h => by cases h) (tw_gl kw_47 rfl) rfl (fun _ => rfl) (by decide) (Nat.le_of_ble_eq_true rfl) (Nat.le_of_ble_eq_true rfl) (Nat.le_of_ble_eq_true rfl) dX12_init_534 (fun H locs ad1030 w1027 ha1031 hw1028 hne1029 hH => ?_)
  have hw1032 : w1027 0 = .inr (12, fs1026) := (hne1029 0 (nn_ne rfl)).trans (hw1023)
  have ha1036 : ad1030 0 = ad 0 := ((ha1031 0 (nn_lt rfl)).trans ha1025)
  refine tw_putF (r := 0) F hH kf_RX12_478 kp_X12_78 hin rfl ha1036 (by decide) hw1032 (Nat.lt_of_le_of_lt (by decide) hfs1026) rfl rfl dX12_init_536 (fun H locs w1033 hw1034 hne1035 hH => ?_)
  obtain ⟨fs1037, efs1037⟩ : ∃ z : List Value, z = List.set fs1026 78 (.ref (ad1030 65)) := ⟨_, rfl⟩
  rw [← efs1037] at hw1034
  have hfs1037 : 96 < fs1037.length := by rw [efs1037, List.length_set]; exact hfs1026
  refine lv_aload_n hx hb dX12_init_539 rfl (lv_at hl 0 rfl) ?_
  refine lv_bipush (v := 20) hx hb dX12_init_540 (by decide) ?_
  refine tw_newa (t := 0) (atype := .int) (ty := .int) (n' := 20) (a0 := (20, .inl (fun _ => 0))) F hH rfl (fun C h => by cases h) (tw_gl kw_47 rfl) rfl (fun _ => rfl) (by decide) (Nat.le_of_ble_eq_true rfl) (Nat.le_of_ble_eq_true rfl) (Nat.le_of_ble_eq_true rfl) dX12_init_542 (fun H locs ad1041 w1038 ha1042 hw1039 hne1040 hH => ?_)
  have hw1043 : w1038 0 = .inr (12, fs1037) := (hne1040 0 (nn_ne rfl)).trans (hw1034)
  have ha1047 : ad1041 0 = ad 0 := ((ha1042 0 (nn_lt rfl)).trans ha1036)
  refine tw_putF (r := 0) F hH kf_RX12_481 kp_X12_79 hin rfl ha1047 (by decide) hw1043 (Nat.lt_of_le_of_lt (by decide) hfs1037) rfl rfl dX12_init_544 (fun H locs w1044 hw1045 hne1046 hH => ?_)
  obtain ⟨fs1048, efs1048⟩ : ∃ z : List Value, z = List.set fs1037 79 (.ref (ad1041 66)) := ⟨_, rfl⟩
  rw [← efs1048] at hw1045
  have hfs1048 : 96 < fs1048.length := by rw [efs1048, List.length_set]; exact hfs1037
  refine lv_aload_n hx hb dX12_init_547 rfl (lv_at hl 0 rfl) ?_
  refine lv_bipush (v := 6) hx hb dX12_init_548 (by decide) ?_
  refine tw_newa (t := 1) (atype := .boolean) (ty := .boolean) (n' := 6) (a0 := (6, .inl (fun _ => 0))) F hH rfl (fun C h => by cases h) (tw_gl kw_83 rfl) rfl (fun _ => rfl) (by decide) (Nat.le_of_ble_eq_true rfl) (Nat.le_of_ble_eq_true rfl) (Nat.le_of_ble_eq_true rfl) dX12_init_550 (fun H locs ad1052 w1049 ha1053 hw1050 hne1051 hH => ?_)
  have hw1054 : w1049 0 = .inr (12, fs1048) := (hne1051 0 (nn_ne rfl)).trans (hw1045)
  have ha1058 : ad1052 0 = ad 0 := ((ha1053 0 (nn_lt rfl)).trans ha1047)
  refine tw_putF (r := 0) F hH kf_RX12_490 kp_X12_80 hin rfl ha1058 (by decide) hw1054 (Nat.lt_of_le_of_lt (by decide) hfs1048) rfl rfl dX12_init_552 (fun H locs w1055 hw1056 hne1057 hH => ?_)
  obtain ⟨fs1059, efs1059⟩ : ∃ z : List Value, z = List.set fs1048 80 (.ref (ad1052 67)) := ⟨_, rfl⟩
  rw [← efs1059] at hw1056
  have hfs1059 : 96 < fs1059.length := by rw [efs1059, List.length_set]; exact hfs1048
  refine lv_aload_n hx hb dX12_init_555 rfl (lv_at hl 0 rfl) ?_
  refine lv_bipush (v := 6) hx hb dX12_init_556 (by decide) ?_
  refine tw_newa (t := 0) (atype := .int) (ty := .int) (n' := 6) (a0 := (6, .inl (fun _ => 0))) F hH rfl (fun C h => by cases h) (tw_gl kw_47 rfl) rfl (fun _ => rfl) (by decide) (Nat.le_of_ble_eq_true rfl) (Nat.le_of_ble_eq_true rfl) (Nat.le_of_ble_eq_true rfl) dX12_init_558 (fun H locs ad1063 w1060 ha1064 hw1061 hne1062 hH => ?_)
  have hw1065 : w1060 0 = .inr (12, fs1059) := (hne1062 0 (nn_ne rfl)).trans (hw1056)
  have ha1069 : ad1063 0 = ad 0 := ((ha1064 0 (nn_lt rfl)).trans ha1058)
  refine tw_putF (r := 0) F hH kf_RX12_493 kp_X12_81 hin rfl ha1069 (by decide) hw1065 (Nat.lt_of_le_of_lt (by decide) hfs1059) rfl rfl dX12_init_560 (fun H locs w1066 hw1067 hne1068 hH => ?_)
  obtain ⟨fs1070, efs1070⟩ : ∃ z : List Value, z = List.set fs1059 81 (.ref (ad1063 68)) := ⟨_, rfl⟩
  rw [← efs1070] at hw1067
  have hfs1070 : 96 < fs1070.length := by rw [efs1070, List.length_set]; exact hfs1059
  refine lv_aload_n hx hb dX12_init_563 rfl (lv_at hl 0 rfl) ?_
  refine lv_bipush (v := 6) hx hb dX12_init_564 (by decide) ?_
  refine tw_newa (t := 0) (atype := .int) (ty := .int) (n' := 6) (a0 := (6, .inl (fun _ => 0))) F hH rfl (fun C h => by cases h) (tw_gl kw_47 rfl) rfl (fun _ => rfl) (by decide) (Nat.le_of_ble_eq_true rfl) (Nat.le_of_ble_eq_true rfl) (Nat.le_of_ble_eq_true rfl) dX12_init_566 (fun H locs ad1074 w1071 ha1075 hw1072 hne1073 hH => ?_)
  have hw1076 : w1071 0 = .inr (12, fs1070) := (hne1073 0 (nn_ne rfl)).trans (hw1067)
  have ha1080 : ad1074 0 = ad 0 := ((ha1075 0 (nn_lt rfl)).trans ha1069)
  refine tw_putF (r := 0) F hH kf_RX12_508 kp_X12_83 hin rfl ha1080 (by decide) hw1076 (Nat.lt_of_le_of_lt (by decide) hfs1070) rfl rfl dX12_init_568 (fun H locs w1077 hw1078 hne1079 hH => ?_)
  obtain ⟨fs1081, efs1081⟩ : ∃ z : List Value, z = List.set fs1070 83 (.ref (ad1074 69)) := ⟨_, rfl⟩
  rw [← efs1081] at hw1078
  have hfs1081 : 96 < fs1081.length := by rw [efs1081, List.length_set]; exact hfs1070
  have ha1082 : ad1074 62 = ad999 62 := (((((((ha1075 62 (nn_lt rfl)).trans (ha1064 62 (nn_lt rfl))).trans (ha1053 62 (nn_lt rfl))).trans (ha1042 62 (nn_lt rfl))).trans (ha1031 62 (nn_lt rfl))).trans (ha1020 62 (nn_lt rfl))).trans (ha1010 62 (nn_lt rfl)))
  have ha1083 : ad1074 63 = ad1009 63 := ((((((ha1075 63 (nn_lt rfl)).trans (ha1064 63 (nn_lt rfl))).trans (ha1053 63 (nn_lt rfl))).trans (ha1042 63 (nn_lt rfl))).trans (ha1031 63 (nn_lt rfl))).trans (ha1020 63 (nn_lt rfl)))
  have ha1084 : ad1074 64 = ad1019 64 := (((((ha1075 64 (nn_lt rfl)).trans (ha1064 64 (nn_lt rfl))).trans (ha1053 64 (nn_lt rfl))).trans (ha1042 64 (nn_lt rfl))).trans (ha1031 64 (nn_lt rfl)))
  have ha1085 : ad1074 65 = ad1030 65 := ((((ha1075 65 (nn_lt rfl)).trans (ha1064 65 (nn_lt rfl))).trans (ha1053 65 (nn_lt rfl))).trans (ha1042 65 (nn_lt rfl)))
  have ha1086 : ad1074 66 = ad1041 66 := (((ha1075 66 (nn_lt rfl)).trans (ha1064 66 (nn_lt rfl))).trans (ha1053 66 (nn_lt rfl)))
  have ha1087 : ad1074 67 = ad1052 67 := ((ha1075 67 (nn_lt rfl)).trans (ha1064 67 (nn_lt rfl)))
  have ha1088 : ad1074 68 = ad1063 68 := (ha1075 68 (nn_lt rfl))
  have hw1089 : w1077 0 = .inr (12, mo_9 G ad1074) := by rw [hw1078]; rw [efs1081, efs1070, efs1059, efs1048, efs1037, efs1026, efs1015, efs1005]; rw [mo_8_c (a := adS8) (b := ad1074) (fun j hj => ((((((((ha1075 j (by omega)).trans (ha1064 j (by omega))).trans (ha1053 j (by omega))).trans (ha1042 j (by omega))).trans (ha1031 j (by omega))).trans (ha1020 j (by omega))).trans (ha1010 j (by omega))).trans (ha1000 j (by omega))).symm)]; rw [show ad999 62 = ad1074 62 from ha1082.symm, show ad1009 63 = ad1074 63 from ha1083.symm, show ad1019 64 = ad1074 64 from ha1084.symm, show ad1030 65 = ad1074 65 from ha1085.symm, show ad1041 66 = ad1074 66 from ha1086.symm, show ad1052 67 = ad1074 67 from ha1087.symm, show ad1063 68 = ad1074 68 from ha1088.symm]; rfl
  have hall8_w1077 : ∀ k : Nat, 1 ≤ k → k ≤ 61 → w1077 k = wS8 k := fun k h1 h2 => (hne1079 k (by omega)).trans ((hne1073 k (by omega)).trans ((hne1068 k (by omega)).trans ((hne1062 k (by omega)).trans ((hne1057 k (by omega)).trans ((hne1051 k (by omega)).trans ((hne1046 k (by omega)).trans ((hne1040 k (by omega)).trans ((hne1035 k (by omega)).trans ((hne1029 k (by omega)).trans ((hne1024 k (by omega)).trans ((hne1018 k (by omega)).trans ((hne1014 k (by omega)).trans ((hne1008 k (by omega)).trans ((hne1004 k (by omega)).trans ((hne998 k (by omega)))))))))))))))))
  have hw1090 : w1077 1 = .inl (G.2.1 0, 5, .inl (fun _ => 0)) := (hall8_w1077 1 (by decide) (by decide)).trans f8_1
  have hw1091 : w1077 2 = .inl (G.2.1 0, 5, .inl (fun _ => 0)) := (hall8_w1077 2 (by decide) (by decide)).trans f8_2
  have hw1092 : w1077 3 = .inl (G.2.1 1, 5, .inl (fun _ => 0)) := (hall8_w1077 3 (by decide) (by decide)).trans f8_3
  have hw1093 : w1077 4 = .inl (G.2.1 0, 24, .inl (fun _ => 0)) := (hall8_w1077 4 (by decide) (by decide)).trans f8_4
  have hw1094 : w1077 5 = .inl (G.2.1 0, 8, .inl (fun _ => 0)) := (hall8_w1077 5 (by decide) (by decide)).trans f8_5
  have hw1095 : w1077 6 = .inl (G.2.1 0, 30, .inl (fun _ => 0)) := (hall8_w1077 6 (by decide) (by decide)).trans f8_6
  have hw1096 : w1077 7 = .inl (G.2.1 0, 30, .inl (fun _ => 0)) := (hall8_w1077 7 (by decide) (by decide)).trans f8_7
  have hw1097 : w1077 8 = .inl (G.2.1 0, 30, .inl (fun _ => 0)) := (hall8_w1077 8 (by decide) (by decide)).trans f8_8
  have hw1098 : w1077 9 = .inl (G.2.1 0, 20, .inl (fun _ => 0)) := (hall8_w1077 9 (by decide) (by decide)).trans f8_9
  have hw1099 : w1077 10 = .inl (G.2.1 0, 20, .inl (fun _ => 0)) := (hall8_w1077 10 (by decide) (by decide)).trans f8_10
  have hw1100 : w1077 11 = .inl (G.2.1 0, 20, .inl (fun _ => 0)) := (hall8_w1077 11 (by decide) (by decide)).trans f8_11
  have hw1101 : w1077 12 = .inl (G.2.1 0, 20, .inl (fun _ => 0)) := (hall8_w1077 12 (by decide) (by decide)).trans f8_12
  have hw1102 : w1077 13 = .inl (G.2.1 0, 6, .inl (fun _ => 0)) := (hall8_w1077 13 (by decide) (by decide)).trans f8_13
  have hw1103 : w1077 14 = .inl (G.2.1 0, 6, .inl (fun _ => 0)) := (hall8_w1077 14 (by decide) (by decide)).trans f8_14
  have hw1104 : w1077 15 = .inl (G.2.1 0, 6, .inl (fun _ => 0)) := (hall8_w1077 15 (by decide) (by decide)).trans f8_15
  have hw1105 : w1077 16 = .inl (G.2.1 0, 6, .inl (fun _ => 0)) := (hall8_w1077 16 (by decide) (by decide)).trans f8_16
  have hw1106 : w1077 17 = .inl (G.2.1 0, 6, .inl (fun _ => 0)) := (hall8_w1077 17 (by decide) (by decide)).trans f8_17
  have hw1107 : w1077 18 = .inl (G.2.1 0, 6, .inl (fun _ => 0)) := (hall8_w1077 18 (by decide) (by decide)).trans f8_18
  have hw1108 : w1077 19 = .inl (G.2.1 0, 6, .inl (fun _ => 0)) := (hall8_w1077 19 (by decide) (by decide)).trans f8_19
  have hw1109 : w1077 20 = .inl (G.2.1 0, 24, .inl (fun _ => 0)) := (hall8_w1077 20 (by decide) (by decide)).trans f8_20
  have hw1110 : w1077 21 = .inl (G.2.1 0, 24, .inl (fun _ => 0)) := (hall8_w1077 21 (by decide) (by decide)).trans f8_21
  have hw1111 : w1077 22 = .inl (G.2.1 0, 6, .inl (fun _ => 0)) := (hall8_w1077 22 (by decide) (by decide)).trans f8_22
  have hw1112 : w1077 23 = .inl (G.2.1 0, 72, .inl (fun _ => 0)) := (hall8_w1077 23 (by decide) (by decide)).trans f8_23
  have hw1113 : w1077 24 = .inl (G.2.1 0, 72, .inl (fun _ => 0)) := (hall8_w1077 24 (by decide) (by decide)).trans f8_24
  have hw1114 : w1077 25 = .inl (G.2.1 0, 72, .inl (fun _ => 0)) := (hall8_w1077 25 (by decide) (by decide)).trans f8_25
  have hw1115 : w1077 26 = .inl (G.2.1 0, 6, .inl (fun _ => 0)) := (hall8_w1077 26 (by decide) (by decide)).trans f8_26
  have hw1116 : w1077 27 = .inl (G.2.1 0, 30, .inl (fun _ => 0)) := (hall8_w1077 27 (by decide) (by decide)).trans f8_27
  have hw1117 : w1077 28 = .inl (G.2.1 0, 30, .inl (fun _ => 0)) := (hall8_w1077 28 (by decide) (by decide)).trans f8_28
  have hw1118 : w1077 29 = .inl (G.2.1 0, 30, .inl (fun _ => 0)) := (hall8_w1077 29 (by decide) (by decide)).trans f8_29
  have hw1119 : w1077 30 = .inl (G.2.1 1, 6, .inl (fun _ => 0)) := (hall8_w1077 30 (by decide) (by decide)).trans f8_30
  have hw1120 : w1077 31 = .inl (G.2.1 0, 6, .inl (fun _ => 0)) := (hall8_w1077 31 (by decide) (by decide)).trans f8_31
  have hw1121 : w1077 32 = .inl (G.2.1 0, 24, .inl (fun _ => 0)) := (hall8_w1077 32 (by decide) (by decide)).trans f8_32
  have hw1122 : w1077 33 = .inl (G.2.1 0, 24, .inl (fun _ => 0)) := (hall8_w1077 33 (by decide) (by decide)).trans f8_33
  have hw1123 : w1077 34 = .inl (G.2.1 0, 100, .inl (fun _ => 0)) := (hall8_w1077 34 (by decide) (by decide)).trans f8_34
  have hw1124 : w1077 35 = .inl (G.2.1 0, 1700, .inl (fun _ => 0)) := (hall8_w1077 35 (by decide) (by decide)).trans f8_35
  have hw1125 : w1077 36 = .inl (G.2.1 0, 17, .inl (fun _ => 0)) := (hall8_w1077 36 (by decide) (by decide)).trans f8_36
  have hw1126 : w1077 37 = .inl (G.2.1 0, 100, .inl (fun _ => 0)) := (hall8_w1077 37 (by decide) (by decide)).trans f8_37
  have hw1127 : w1077 38 = .inl (G.2.1 0, 13, .inl (fun _ => 0)) := (hall8_w1077 38 (by decide) (by decide)).trans f8_38
  have hw1128 : w1077 39 = .inl (G.2.1 0, 6, .inl (fun _ => 0)) := (hall8_w1077 39 (by decide) (by decide)).trans f8_39
  have hw1129 : w1077 40 = .inl (G.2.1 0, 6, .inl (fun _ => 0)) := (hall8_w1077 40 (by decide) (by decide)).trans f8_40
  have hw1130 : w1077 41 = .inl (G.2.1 0, 6, .inl (fun _ => 0)) := (hall8_w1077 41 (by decide) (by decide)).trans f8_41
  have hw1131 : w1077 42 = .inl (G.2.1 0, 6, .inl (fun _ => 0)) := (hall8_w1077 42 (by decide) (by decide)).trans f8_42
  have hw1132 : w1077 43 = .inl (G.2.1 0, 6, .inl (fun _ => 0)) := (hall8_w1077 43 (by decide) (by decide)).trans f8_43
  have hw1133 : w1077 44 = .inl (G.2.1 0, 6, .inl (fun _ => 0)) := (hall8_w1077 44 (by decide) (by decide)).trans f8_44
  have hw1134 : w1077 45 = .inl (G.2.1 0, 6, .inl (fun _ => 0)) := (hall8_w1077 45 (by decide) (by decide)).trans f8_45
  have hw1135 : w1077 46 = .inl (G.2.1 0, 24, .inl (fun _ => 0)) := (hall8_w1077 46 (by decide) (by decide)).trans f8_46
  have hw1136 : w1077 47 = .inl (G.2.1 0, 6, .inl (fun _ => 0)) := (hall8_w1077 47 (by decide) (by decide)).trans f8_47
  have hw1137 : w1077 48 = .inl (G.2.1 0, 6, .inl (fun _ => 0)) := (hall8_w1077 48 (by decide) (by decide)).trans f8_48
  have hw1138 : w1077 49 = .inl (G.2.1 0, 6, .inl (fun _ => 0)) := (hall8_w1077 49 (by decide) (by decide)).trans f8_49
  have hw1139 : w1077 50 = .inl (G.2.1 0, 6, .inl (fun _ => 0)) := (hall8_w1077 50 (by decide) (by decide)).trans f8_50
  have hw1140 : w1077 51 = .inl (G.2.1 0, 6, .inl (fun _ => 0)) := (hall8_w1077 51 (by decide) (by decide)).trans f8_51
  have hw1141 : w1077 52 = .inl (G.2.1 0, 6, .inl (fun _ => 0)) := (hall8_w1077 52 (by decide) (by decide)).trans f8_52
  have hw1142 : w1077 53 = .inl (G.2.1 0, 6, .inl (fun _ => 0)) := (hall8_w1077 53 (by decide) (by decide)).trans f8_53
  have hw1143 : w1077 54 = .inl (G.2.1 0, 6, .inl (fun _ => 0)) := (hall8_w1077 54 (by decide) (by decide)).trans f8_54
  have hw1144 : w1077 55 = .inl (G.2.1 0, 360, .inl (fun _ => 0)) := (hall8_w1077 55 (by decide) (by decide)).trans f8_55
  have hw1145 : w1077 56 = .inl (G.2.1 0, 30, .inl (fun _ => 0)) := (hall8_w1077 56 (by decide) (by decide)).trans f8_56
  have hw1146 : w1077 57 = .inl (G.2.1 0, 30, .inl (fun _ => 0)) := (hall8_w1077 57 (by decide) (by decide)).trans f8_57
  have hw1147 : w1077 58 = .inl (G.2.1 0, 4, .inl (fun _ => 0)) := (hall8_w1077 58 (by decide) (by decide)).trans f8_58
  have hw1148 : w1077 59 = .inl (G.2.1 0, 72, .inl (fun _ => 0)) := (hall8_w1077 59 (by decide) (by decide)).trans f8_59
  have hw1149 : w1077 60 = .inl (G.2.1 1, 6, .inl (fun _ => 0)) := (hall8_w1077 60 (by decide) (by decide)).trans f8_60
  have hw1150 : w1077 61 = .inl (G.2.1 0, 10, .inl (fun _ => 0)) := (hall8_w1077 61 (by decide) (by decide)).trans f8_61
  have hw1151 : w1077 62 = .inl (G.2.1 0, 11, .inl (fun _ => 0)) := (hne1079 62 (nn_ne rfl)).trans ((hne1073 62 (nn_ne rfl)).trans ((hne1068 62 (nn_ne rfl)).trans ((hne1062 62 (nn_ne rfl)).trans ((hne1057 62 (nn_ne rfl)).trans ((hne1051 62 (nn_ne rfl)).trans ((hne1046 62 (nn_ne rfl)).trans ((hne1040 62 (nn_ne rfl)).trans ((hne1035 62 (nn_ne rfl)).trans ((hne1029 62 (nn_ne rfl)).trans ((hne1024 62 (nn_ne rfl)).trans ((hne1018 62 (nn_ne rfl)).trans ((hne1014 62 (nn_ne rfl)).trans ((hne1008 62 (nn_ne rfl)).trans ((hne1004 62 (nn_ne rfl)).trans (hw997)))))))))))))))
  have hw1152 : w1077 63 = .inl (G.2.1 0, 20, .inl (fun _ => 0)) := (hne1079 63 (nn_ne rfl)).trans ((hne1073 63 (nn_ne rfl)).trans ((hne1068 63 (nn_ne rfl)).trans ((hne1062 63 (nn_ne rfl)).trans ((hne1057 63 (nn_ne rfl)).trans ((hne1051 63 (nn_ne rfl)).trans ((hne1046 63 (nn_ne rfl)).trans ((hne1040 63 (nn_ne rfl)).trans ((hne1035 63 (nn_ne rfl)).trans ((hne1029 63 (nn_ne rfl)).trans ((hne1024 63 (nn_ne rfl)).trans ((hne1018 63 (nn_ne rfl)).trans ((hne1014 63 (nn_ne rfl)).trans (hw1007)))))))))))))
  have hw1153 : w1077 64 = .inl (G.2.1 0, 20, .inl (fun _ => 0)) := (hne1079 64 (nn_ne rfl)).trans ((hne1073 64 (nn_ne rfl)).trans ((hne1068 64 (nn_ne rfl)).trans ((hne1062 64 (nn_ne rfl)).trans ((hne1057 64 (nn_ne rfl)).trans ((hne1051 64 (nn_ne rfl)).trans ((hne1046 64 (nn_ne rfl)).trans ((hne1040 64 (nn_ne rfl)).trans ((hne1035 64 (nn_ne rfl)).trans ((hne1029 64 (nn_ne rfl)).trans ((hne1024 64 (nn_ne rfl)).trans (hw1017)))))))))))
  have hw1154 : w1077 65 = .inl (G.2.1 0, 20, .inl (fun _ => 0)) := (hne1079 65 (nn_ne rfl)).trans ((hne1073 65 (nn_ne rfl)).trans ((hne1068 65 (nn_ne rfl)).trans ((hne1062 65 (nn_ne rfl)).trans ((hne1057 65 (nn_ne rfl)).trans ((hne1051 65 (nn_ne rfl)).trans ((hne1046 65 (nn_ne rfl)).trans ((hne1040 65 (nn_ne rfl)).trans ((hne1035 65 (nn_ne rfl)).trans (hw1028)))))))))
  have hw1155 : w1077 66 = .inl (G.2.1 0, 20, .inl (fun _ => 0)) := (hne1079 66 (nn_ne rfl)).trans ((hne1073 66 (nn_ne rfl)).trans ((hne1068 66 (nn_ne rfl)).trans ((hne1062 66 (nn_ne rfl)).trans ((hne1057 66 (nn_ne rfl)).trans ((hne1051 66 (nn_ne rfl)).trans ((hne1046 66 (nn_ne rfl)).trans (hw1039)))))))
  have hw1156 : w1077 67 = .inl (G.2.1 1, 6, .inl (fun _ => 0)) := (hne1079 67 (nn_ne rfl)).trans ((hne1073 67 (nn_ne rfl)).trans ((hne1068 67 (nn_ne rfl)).trans ((hne1062 67 (nn_ne rfl)).trans ((hne1057 67 (nn_ne rfl)).trans (hw1050)))))
  have hw1157 : w1077 68 = .inl (G.2.1 0, 6, .inl (fun _ => 0)) := (hne1079 68 (nn_ne rfl)).trans ((hne1073 68 (nn_ne rfl)).trans ((hne1068 68 (nn_ne rfl)).trans (hw1061)))
  have hw1158 : w1077 69 = .inl (G.2.1 0, 6, .inl (fun _ => 0)) := (hne1079 69 (nn_ne rfl)).trans (hw1072)
  exact kk H locs ad1074 w1077 ls (fun k hk => (((((((((ha1075 k (by omega)).trans (ha1064 k (by omega))).trans (ha1053 k (by omega))).trans (ha1042 k (by omega))).trans (ha1031 k (by omega))).trans (ha1020 k (by omega))).trans (ha1010 k (by omega))).trans (ha1000 k (by omega)))).trans (hz8 k (by omega))) hw1089 hw1090 hw1091 hw1092 hw1093 hw1094 hw1095 hw1096 hw1097 hw1098 hw1099 hw1100 hw1101 hw1102 hw1103 hw1104 hw1105 hw1106 hw1107 hw1108 hw1109 hw1110 hw1111 hw1112 hw1113 hw1114 hw1115 hw1116 hw1117 hw1118 hw1119 hw1120 hw1121 hw1122 hw1123 hw1124 hw1125 hw1126 hw1127 hw1128 hw1129 hw1130 hw1131 hw1132 hw1133 hw1134 hw1135 hw1136 hw1137 hw1138 hw1139 hw1140 hw1141 hw1142 hw1143 hw1144 hw1145 hw1146 hw1147 hw1148 hw1149 hw1150 hw1151 hw1152 hw1153 hw1154 hw1155 hw1156 hw1157 hw1158 hH hl

def mo_10 (G : tw_G) (a : Nat → Nat) : List Value := [.int (0 : Int32), .int (2 : Int32), .int (1 : Int32), .ref (a 1), .ref (a 2), .ref (a 3), .ref (a 4), .ref (a 5), .int (0 : Int32), .ref (a 6), .ref (a 7), .ref (a 8), .int (0 : Int32), .ref (a 9), .ref (a 10), .ref (a 11), .ref (a 12), .int (0 : Int32), .ref (a 13), .ref (a 14), .ref (a 15), .ref (a 16), .ref (a 17), .ref (a 18), .ref (a 19), .ref (a 20), .ref (a 21), .ref (a 22), .ref (a 23), .ref (a 24), .ref (a 25), .ref (a 26), .ref (a 27), .ref (a 28), .ref (a 29), .ref (a 30), .ref (a 31), .ref (a 32), .ref (a 33), .ref (a 34), .int (0 : Int32), .int (0 : Int32), .int (0 : Int32), .ref (G.2.2 (100 + 10)), .ref (a 35), .ref (a 36), .ref (a 37), .int (0 : Int32), .ref (a 38), .ref (a 39), .ref (a 40), .ref (a 41), .ref (a 42), .ref (a 43), .ref (a 44), .ref (a 45), .ref (a 46), .ref (a 47), .ref (a 48), .ref (a 49), .ref (a 50), .ref (a 51), .ref (a 52), .ref (a 53), .ref (a 54), .ref (a 55), .ref (a 56), .ref (a 57), .ref (a 58), .ref (a 59), .int (0 : Int32), .ref (a 60), .int (0 : Int32), .ref (a 61), .ref (a 62), .int (0 : Int32), .ref (a 63), .ref (a 64), .ref (a 65), .ref (a 66), .ref (a 67), .ref (a 68), .int (0 : Int32), .ref (a 69), .ref (a 70), .ref (a 71), .ref (a 72), .ref (a 73), .int (0 : Int32), .int (0 : Int32), .int (0 : Int32), .ref (a 74), .ref (a 75), .ref (a 76), .ref (a 77), .null, .null]
theorem mo_10_c {G : tw_G} {a b : Nat → Nat} (h : ∀ j, j < 78 → a j = b j) : mo_10 G a = mo_10 G b := by
  unfold mo_10
  rw [h 1 (by decide), h 2 (by decide), h 3 (by decide), h 4 (by decide), h 5 (by decide), h 6 (by decide), h 7 (by decide), h 8 (by decide), h 9 (by decide), h 10 (by decide), h 11 (by decide), h 12 (by decide), h 13 (by decide), h 14 (by decide), h 15 (by decide), h 16 (by decide), h 17 (by decide), h 18 (by decide), h 19 (by decide), h 20 (by decide), h 21 (by decide), h 22 (by decide), h 23 (by decide), h 24 (by decide), h 25 (by decide), h 26 (by decide), h 27 (by decide), h 28 (by decide), h 29 (by decide), h 30 (by decide), h 31 (by decide), h 32 (by decide), h 33 (by decide), h 34 (by decide), h 35 (by decide), h 36 (by decide), h 37 (by decide), h 38 (by decide), h 39 (by decide), h 40 (by decide), h 41 (by decide), h 42 (by decide), h 43 (by decide), h 44 (by decide), h 45 (by decide), h 46 (by decide), h 47 (by decide), h 48 (by decide), h 49 (by decide), h 50 (by decide), h 51 (by decide), h 52 (by decide), h 53 (by decide), h 54 (by decide), h 55 (by decide), h 56 (by decide), h 57 (by decide), h 58 (by decide), h 59 (by decide), h 60 (by decide), h 61 (by decide), h 62 (by decide), h 63 (by decide), h 64 (by decide), h 65 (by decide), h 66 (by decide), h 67 (by decide), h 68 (by decide), h 69 (by decide), h 70 (by decide), h 71 (by decide), h 72 (by decide), h 73 (by decide), h 74 (by decide), h 75 (by decide), h 76 (by decide), h 77 (by decide)]
theorem hmo_10 (G : tw_G) (a : Nat → Nat) : 96 < (mo_10 G a).length := Nat.le_of_ble_eq_true rfl
set_option maxHeartbeats 20000000 in
set_option maxRecDepth 100000 in
theorem c_X12_init_s10 {p : Program} {l : Launch} {e : Env} {s : State} {m : MethodId} {args : Array Value} {below : List Frame} {meth : Method} {c : Code} {G : tw_G} {A : Nat → Prop} {Q : State → Prop} {H : Heap} {locs : List Loc} {ls : Array Slot} {ad adS9 : Nat → Nat} {wS9 : Nat → va_E} (F : tw_F p m c cX12_init 2 s args RX12 G A) (hin : meth.name = "<init>") (hz9 : ∀ k, k < 1 → adS9 k = ad k) (f9_0 : wS9 0 = .inr (12, mo_9 G adS9)) (f9_1 : wS9 1 = .inl (G.2.1 0, 5, .inl (fun _ => 0))) (f9_2 : wS9 2 = .inl (G.2.1 0, 5, .inl (fun _ => 0))) (f9_3 : wS9 3 = .inl (G.2.1 1, 5, .inl (fun _ => 0))) (f9_4 : wS9 4 = .inl (G.2.1 0, 24, .inl (fun _ => 0))) (f9_5 : wS9 5 = .inl (G.2.1 0, 8, .inl (fun _ => 0))) (f9_6 : wS9 6 = .inl (G.2.1 0, 30, .inl (fun _ => 0))) (f9_7 : wS9 7 = .inl (G.2.1 0, 30, .inl (fun _ => 0))) (f9_8 : wS9 8 = .inl (G.2.1 0, 30, .inl (fun _ => 0))) (f9_9 : wS9 9 = .inl (G.2.1 0, 20, .inl (fun _ => 0))) (f9_10 : wS9 10 = .inl (G.2.1 0, 20, .inl (fun _ => 0))) (f9_11 : wS9 11 = .inl (G.2.1 0, 20, .inl (fun _ => 0))) (f9_12 : wS9 12 = .inl (G.2.1 0, 20, .inl (fun _ => 0))) (f9_13 : wS9 13 = .inl (G.2.1 0, 6, .inl (fun _ => 0))) (f9_14 : wS9 14 = .inl (G.2.1 0, 6, .inl (fun _ => 0))) (f9_15 : wS9 15 = .inl (G.2.1 0, 6, .inl (fun _ => 0))) (f9_16 : wS9 16 = .inl (G.2.1 0, 6, .inl (fun _ => 0))) (f9_17 : wS9 17 = .inl (G.2.1 0, 6, .inl (fun _ => 0))) (f9_18 : wS9 18 = .inl (G.2.1 0, 6, .inl (fun _ => 0))) (f9_19 : wS9 19 = .inl (G.2.1 0, 6, .inl (fun _ => 0))) (f9_20 : wS9 20 = .inl (G.2.1 0, 24, .inl (fun _ => 0))) (f9_21 : wS9 21 = .inl (G.2.1 0, 24, .inl (fun _ => 0))) (f9_22 : wS9 22 = .inl (G.2.1 0, 6, .inl (fun _ => 0))) (f9_23 : wS9 23 = .inl (G.2.1 0, 72, .inl (fun _ => 0))) (f9_24 : wS9 24 = .inl (G.2.1 0, 72, .inl (fun _ => 0))) (f9_25 : wS9 25 = .inl (G.2.1 0, 72, .inl (fun _ => 0))) (f9_26 : wS9 26 = .inl (G.2.1 0, 6, .inl (fun _ => 0))) (f9_27 : wS9 27 = .inl (G.2.1 0, 30, .inl (fun _ => 0))) (f9_28 : wS9 28 = .inl (G.2.1 0, 30, .inl (fun _ => 0))) (f9_29 : wS9 29 = .inl (G.2.1 0, 30, .inl (fun _ => 0))) (f9_30 : wS9 30 = .inl (G.2.1 1, 6, .inl (fun _ => 0))) (f9_31 : wS9 31 = .inl (G.2.1 0, 6, .inl (fun _ => 0))) (f9_32 : wS9 32 = .inl (G.2.1 0, 24, .inl (fun _ => 0))) (f9_33 : wS9 33 = .inl (G.2.1 0, 24, .inl (fun _ => 0))) (f9_34 : wS9 34 = .inl (G.2.1 0, 100, .inl (fun _ => 0))) (f9_35 : wS9 35 = .inl (G.2.1 0, 1700, .inl (fun _ => 0))) (f9_36 : wS9 36 = .inl (G.2.1 0, 17, .inl (fun _ => 0))) (f9_37 : wS9 37 = .inl (G.2.1 0, 100, .inl (fun _ => 0))) (f9_38 : wS9 38 = .inl (G.2.1 0, 13, .inl (fun _ => 0))) (f9_39 : wS9 39 = .inl (G.2.1 0, 6, .inl (fun _ => 0))) (f9_40 : wS9 40 = .inl (G.2.1 0, 6, .inl (fun _ => 0))) (f9_41 : wS9 41 = .inl (G.2.1 0, 6, .inl (fun _ => 0))) (f9_42 : wS9 42 = .inl (G.2.1 0, 6, .inl (fun _ => 0))) (f9_43 : wS9 43 = .inl (G.2.1 0, 6, .inl (fun _ => 0))) (f9_44 : wS9 44 = .inl (G.2.1 0, 6, .inl (fun _ => 0))) (f9_45 : wS9 45 = .inl (G.2.1 0, 6, .inl (fun _ => 0))) (f9_46 : wS9 46 = .inl (G.2.1 0, 24, .inl (fun _ => 0))) (f9_47 : wS9 47 = .inl (G.2.1 0, 6, .inl (fun _ => 0))) (f9_48 : wS9 48 = .inl (G.2.1 0, 6, .inl (fun _ => 0))) (f9_49 : wS9 49 = .inl (G.2.1 0, 6, .inl (fun _ => 0))) (f9_50 : wS9 50 = .inl (G.2.1 0, 6, .inl (fun _ => 0))) (f9_51 : wS9 51 = .inl (G.2.1 0, 6, .inl (fun _ => 0))) (f9_52 : wS9 52 = .inl (G.2.1 0, 6, .inl (fun _ => 0))) (f9_53 : wS9 53 = .inl (G.2.1 0, 6, .inl (fun _ => 0))) (f9_54 : wS9 54 = .inl (G.2.1 0, 6, .inl (fun _ => 0))) (f9_55 : wS9 55 = .inl (G.2.1 0, 360, .inl (fun _ => 0))) (f9_56 : wS9 56 = .inl (G.2.1 0, 30, .inl (fun _ => 0))) (f9_57 : wS9 57 = .inl (G.2.1 0, 30, .inl (fun _ => 0))) (f9_58 : wS9 58 = .inl (G.2.1 0, 4, .inl (fun _ => 0))) (f9_59 : wS9 59 = .inl (G.2.1 0, 72, .inl (fun _ => 0))) (f9_60 : wS9 60 = .inl (G.2.1 1, 6, .inl (fun _ => 0))) (f9_61 : wS9 61 = .inl (G.2.1 0, 10, .inl (fun _ => 0))) (f9_62 : wS9 62 = .inl (G.2.1 0, 11, .inl (fun _ => 0))) (f9_63 : wS9 63 = .inl (G.2.1 0, 20, .inl (fun _ => 0))) (f9_64 : wS9 64 = .inl (G.2.1 0, 20, .inl (fun _ => 0))) (f9_65 : wS9 65 = .inl (G.2.1 0, 20, .inl (fun _ => 0))) (f9_66 : wS9 66 = .inl (G.2.1 0, 20, .inl (fun _ => 0))) (f9_67 : wS9 67 = .inl (G.2.1 1, 6, .inl (fun _ => 0))) (f9_68 : wS9 68 = .inl (G.2.1 0, 6, .inl (fun _ => 0))) (f9_69 : wS9 69 = .inl (G.2.1 0, 6, .inl (fun _ => 0))) (hH : tw_H G 70 adS9 wS9 A s H locs) (hl : lv_has ls 2 [(0, .ref (ad 0))]) (kk : ∀ (H : Heap) (locs : List Loc) (ad1 : Nat → Nat) (w1 : Nat → va_E) (ls : Array Slot), (∀ k, k < 1 → ad1 k = ad k) → w1 0 = .inr (12, mo_10 G ad1) → w1 1 = .inl (G.2.1 0, 5, .inl (fun _ => 0)) → w1 2 = .inl (G.2.1 0, 5, .inl (fun _ => 0)) → w1 3 = .inl (G.2.1 1, 5, .inl (fun _ => 0)) → w1 4 = .inl (G.2.1 0, 24, .inl (fun _ => 0)) → w1 5 = .inl (G.2.1 0, 8, .inl (fun _ => 0)) → w1 6 = .inl (G.2.1 0, 30, .inl (fun _ => 0)) → w1 7 = .inl (G.2.1 0, 30, .inl (fun _ => 0)) → w1 8 = .inl (G.2.1 0, 30, .inl (fun _ => 0)) → w1 9 = .inl (G.2.1 0, 20, .inl (fun _ => 0)) → w1 10 = .inl (G.2.1 0, 20, .inl (fun _ => 0)) → w1 11 = .inl (G.2.1 0, 20, .inl (fun _ => 0)) → w1 12 = .inl (G.2.1 0, 20, .inl (fun _ => 0)) → w1 13 = .inl (G.2.1 0, 6, .inl (fun _ => 0)) → w1 14 = .inl (G.2.1 0, 6, .inl (fun _ => 0)) → w1 15 = .inl (G.2.1 0, 6, .inl (fun _ => 0)) → w1 16 = .inl (G.2.1 0, 6, .inl (fun _ => 0)) → w1 17 = .inl (G.2.1 0, 6, .inl (fun _ => 0)) → w1 18 = .inl (G.2.1 0, 6, .inl (fun _ => 0)) → w1 19 = .inl (G.2.1 0, 6, .inl (fun _ => 0)) → w1 20 = .inl (G.2.1 0, 24, .inl (fun _ => 0)) → w1 21 = .inl (G.2.1 0, 24, .inl (fun _ => 0)) → w1 22 = .inl (G.2.1 0, 6, .inl (fun _ => 0)) → w1 23 = .inl (G.2.1 0, 72, .inl (fun _ => 0)) → w1 24 = .inl (G.2.1 0, 72, .inl (fun _ => 0)) → w1 25 = .inl (G.2.1 0, 72, .inl (fun _ => 0)) → w1 26 = .inl (G.2.1 0, 6, .inl (fun _ => 0)) → w1 27 = .inl (G.2.1 0, 30, .inl (fun _ => 0)) → w1 28 = .inl (G.2.1 0, 30, .inl (fun _ => 0)) → w1 29 = .inl (G.2.1 0, 30, .inl (fun _ => 0)) → w1 30 = .inl (G.2.1 1, 6, .inl (fun _ => 0)) → w1 31 = .inl (G.2.1 0, 6, .inl (fun _ => 0)) → w1 32 = .inl (G.2.1 0, 24, .inl (fun _ => 0)) → w1 33 = .inl (G.2.1 0, 24, .inl (fun _ => 0)) → w1 34 = .inl (G.2.1 0, 100, .inl (fun _ => 0)) → w1 35 = .inl (G.2.1 0, 1700, .inl (fun _ => 0)) → w1 36 = .inl (G.2.1 0, 17, .inl (fun _ => 0)) → w1 37 = .inl (G.2.1 0, 100, .inl (fun _ => 0)) → w1 38 = .inl (G.2.1 0, 13, .inl (fun _ => 0)) → w1 39 = .inl (G.2.1 0, 6, .inl (fun _ => 0)) → w1 40 = .inl (G.2.1 0, 6, .inl (fun _ => 0)) → w1 41 = .inl (G.2.1 0, 6, .inl (fun _ => 0)) → w1 42 = .inl (G.2.1 0, 6, .inl (fun _ => 0)) → w1 43 = .inl (G.2.1 0, 6, .inl (fun _ => 0)) → w1 44 = .inl (G.2.1 0, 6, .inl (fun _ => 0)) → w1 45 = .inl (G.2.1 0, 6, .inl (fun _ => 0)) → w1 46 = .inl (G.2.1 0, 24, .inl (fun _ => 0)) → w1 47 = .inl (G.2.1 0, 6, .inl (fun _ => 0)) → w1 48 = .inl (G.2.1 0, 6, .inl (fun _ => 0)) → w1 49 = .inl (G.2.1 0, 6, .inl (fun _ => 0)) → w1 50 = .inl (G.2.1 0, 6, .inl (fun _ => 0)) → w1 51 = .inl (G.2.1 0, 6, .inl (fun _ => 0)) → w1 52 = .inl (G.2.1 0, 6, .inl (fun _ => 0)) → w1 53 = .inl (G.2.1 0, 6, .inl (fun _ => 0)) → w1 54 = .inl (G.2.1 0, 6, .inl (fun _ => 0)) → w1 55 = .inl (G.2.1 0, 360, .inl (fun _ => 0)) → w1 56 = .inl (G.2.1 0, 30, .inl (fun _ => 0)) → w1 57 = .inl (G.2.1 0, 30, .inl (fun _ => 0)) → w1 58 = .inl (G.2.1 0, 4, .inl (fun _ => 0)) → w1 59 = .inl (G.2.1 0, 72, .inl (fun _ => 0)) → w1 60 = .inl (G.2.1 1, 6, .inl (fun _ => 0)) → w1 61 = .inl (G.2.1 0, 10, .inl (fun _ => 0)) → w1 62 = .inl (G.2.1 0, 11, .inl (fun _ => 0)) → w1 63 = .inl (G.2.1 0, 20, .inl (fun _ => 0)) → w1 64 = .inl (G.2.1 0, 20, .inl (fun _ => 0)) → w1 65 = .inl (G.2.1 0, 20, .inl (fun _ => 0)) → w1 66 = .inl (G.2.1 0, 20, .inl (fun _ => 0)) → w1 67 = .inl (G.2.1 1, 6, .inl (fun _ => 0)) → w1 68 = .inl (G.2.1 0, 6, .inl (fun _ => 0)) → w1 69 = .inl (G.2.1 0, 6, .inl (fun _ => 0)) → w1 70 = .inl (G.2.1 0, 30, .inl (fun _ => 0)) → w1 71 = .inl (G.2.1 0, 30, .inl (fun _ => 0)) → w1 72 = .inl (G.2.1 0, 30, .inl (fun _ => 0)) → w1 73 = .inl (G.2.1 0, 6, .inl (fun _ => 0)) → w1 74 = .inl (G.2.1 0, 2, .inl (fun _ => 0)) → w1 75 = .inl (G.2.1 0, 2, .inl (fun _ => 0)) → w1 76 = .inl (G.2.1 0, 16, .inl (fun _ => 0)) → w1 77 = .inl (G.2.1 0, 16, .inl (fun _ => 0)) → tw_H G 78 ad1 w1 A s H locs → lv_has ls 2 [(0, .ref (ad 0))] → W p l e ({ frames := 1, cells := 79, slots := 3514, locals := 23 }) s m args below meth c H locs 77 3482 Q (F0 m 633 ls [])) : W p l e ({ frames := 1, cells := 79, slots := 3514, locals := 23 }) s m args below meth c H locs 69 3350 Q (F0 m 571 ls []) := by
  have hx := F.1.1
  have hb := F.1.2.1
  have hown := F.1.2.2.2.1
  have hts := F.1.2.2.2.2
  refine lv_aload_n hx hb dX12_init_571 rfl (lv_at hl 0 rfl) ?_
  refine lv_bipush (v := 30) hx hb dX12_init_572 (by decide) ?_
  refine tw_newa (t := 0) (atype := .int) (ty := .int) (n' := 30) (a0 := (30, .inl (fun _ => 0))) F hH rfl (fun C h => by cases h) (tw_gl kw_47 rfl) rfl (fun _ => rfl) (by decide) (Nat.le_of_ble_eq_true rfl) (Nat.le_of_ble_eq_true rfl) (Nat.le_of_ble_eq_true rfl) dX12_init_574 (fun H locs ad1162 w1159 ha1163 hw1160 hne1161 hH => ?_)
  have hw1164 : w1159 0 = .inr (12, (mo_9 G adS9)) := (hne1161 0 (nn_ne rfl)).trans (f9_0)
  refine tw_putF (r := 0) F hH kf_RX12_511 kp_X12_84 hin rfl ((ha1163 0 (nn_lt rfl)).trans (hz9 0 (nn_lt rfl))) (by decide) hw1164 (Nat.lt_of_le_of_lt (by decide) (hmo_9 G adS9)) rfl rfl dX12_init_576 (fun H locs w1165 hw1166 hne1167 hH => ?_)
  obtain ⟨fs1168, efs1168⟩ : ∃ z : List Value, z = List.set (mo_9 G adS9) 84 (.ref (ad1162 70)) := ⟨_, rfl⟩
  rw [← efs1168] at hw1166
  have hfs1168 : 96 < fs1168.length := by rw [efs1168, List.length_set]; exact (hmo_9 G adS9)
  refine lv_aload_n hx hb dX12_init_579 rfl (lv_at hl 0 rfl) ?_
  refine lv_bipush (v := 30) hx hb dX12_init_580 (by decide) ?_
  refine tw_newa (t := 0) (atype := .int) (ty := .int) (n' := 30) (a0 := (30, .inl (fun _ => 0))) F hH rfl (fun C h => by cases h) (tw_gl kw_47 rfl) rfl (fun _ => rfl) (by decide) (Nat.le_of_ble_eq_true rfl) (Nat.le_of_ble_eq_true rfl) (Nat.le_of_ble_eq_true rfl) dX12_init_582 (fun H locs ad1172 w1169 ha1173 hw1170 hne1171 hH => ?_)
  have hw1174 : w1169 0 = .inr (12, fs1168) := (hne1171 0 (nn_ne rfl)).trans (hw1166)
  refine tw_putF (r := 0) F hH kf_RX12_514 kp_X12_85 hin rfl (((ha1173 0 (nn_lt rfl)).trans (ha1163 0 (nn_lt rfl))).trans (hz9 0 (nn_lt rfl))) (by decide) hw1174 (Nat.lt_of_le_of_lt (by decide) hfs1168) rfl rfl dX12_init_584 (fun H locs w1175 hw1176 hne1177 hH => ?_)
  obtain ⟨fs1178, efs1178⟩ : ∃ z : List Value, z = List.set fs1168 85 (.ref (ad1172 71)) := ⟨_, rfl⟩
  rw [← efs1178] at hw1176
  have hfs1178 : 96 < fs1178.length := by rw [efs1178, List.length_set]; exact hfs1168
  refine lv_aload_n hx hb dX12_init_587 rfl (lv_at hl 0 rfl) ?_
  refine lv_bipush (v := 30) hx hb dX12_init_588 (by decide) ?_
  refine tw_newa (t := 0) (atype := .int) (ty := .int) (n' := 30) (a0 := (30, .inl (fun _ => 0))) F hH rfl (fun C h => by cases h) (tw_gl kw_47 rfl) rfl (fun _ => rfl) (by decide) (Nat.le_of_ble_eq_true rfl) (Nat.le_of_ble_eq_true rfl) (Nat.le_of_ble_eq_true rfl) dX12_init_590 (fun H locs ad1182 w1179 ha1183 hw1180 hne1181 hH => ?_)
  have hw1184 : w1179 0 = .inr (12, fs1178) := (hne1181 0 (nn_ne rfl)).trans (hw1176)
  have ha1188 : ad1182 0 = ad 0 := ((((ha1183 0 (nn_lt rfl)).trans (ha1173 0 (nn_lt rfl))).trans (ha1163 0 (nn_lt rfl))).trans (hz9 0 (nn_lt rfl)))
  refine tw_putF (r := 0) F hH kf_RX12_517 kp_X12_86 hin rfl ha1188 (by decide) hw1184 (Nat.lt_of_le_of_lt (by decide) hfs1178) rfl rfl dX12_init_592 (fun H locs w1185 hw1186 hne1187 hH => ?_)
  obtain ⟨fs1189, efs1189⟩ : ∃ z : List Value, z = List.set fs1178 86 (.ref (ad1182 72)) := ⟨_, rfl⟩
  rw [← efs1189] at hw1186
  have hfs1189 : 96 < fs1189.length := by rw [efs1189, List.length_set]; exact hfs1178
  refine lv_aload_n hx hb dX12_init_595 rfl (lv_at hl 0 rfl) ?_
  refine lv_bipush (v := 6) hx hb dX12_init_596 (by decide) ?_
  refine tw_newa (t := 0) (atype := .int) (ty := .int) (n' := 6) (a0 := (6, .inl (fun _ => 0))) F hH rfl (fun C h => by cases h) (tw_gl kw_47 rfl) rfl (fun _ => rfl) (by decide) (Nat.le_of_ble_eq_true rfl) (Nat.le_of_ble_eq_true rfl) (Nat.le_of_ble_eq_true rfl) dX12_init_598 (fun H locs ad1193 w1190 ha1194 hw1191 hne1192 hH => ?_)
  have hw1195 : w1190 0 = .inr (12, fs1189) := (hne1192 0 (nn_ne rfl)).trans (hw1186)
  have ha1199 : ad1193 0 = ad 0 := ((ha1194 0 (nn_lt rfl)).trans ha1188)
  refine tw_putF (r := 0) F hH kf_RX12_520 kp_X12_87 hin rfl ha1199 (by decide) hw1195 (Nat.lt_of_le_of_lt (by decide) hfs1189) rfl rfl dX12_init_600 (fun H locs w1196 hw1197 hne1198 hH => ?_)
  obtain ⟨fs1200, efs1200⟩ : ∃ z : List Value, z = List.set fs1189 87 (.ref (ad1193 73)) := ⟨_, rfl⟩
  rw [← efs1200] at hw1197
  have hfs1200 : 96 < fs1200.length := by rw [efs1200, List.length_set]; exact hfs1189
  refine lv_aload_n hx hb dX12_init_603 rfl (lv_at hl 0 rfl) ?_
  refine lv_iconst (v := 2) hx hb dX12_init_604 (by decide) ?_
  refine tw_newa (t := 0) (atype := .int) (ty := .int) (n' := 2) (a0 := (2, .inl (fun _ => 0))) F hH rfl (fun C h => by cases h) (tw_gl kw_47 rfl) rfl (fun _ => rfl) (by decide) (Nat.le_of_ble_eq_true rfl) (Nat.le_of_ble_eq_true rfl) (Nat.le_of_ble_eq_true rfl) dX12_init_605 (fun H locs ad1204 w1201 ha1205 hw1202 hne1203 hH => ?_)
  have hw1206 : w1201 0 = .inr (12, fs1200) := (hne1203 0 (nn_ne rfl)).trans (hw1197)
  have ha1210 : ad1204 0 = ad 0 := ((ha1205 0 (nn_lt rfl)).trans ha1199)
  refine tw_putF (r := 0) F hH kf_RX12_537 kp_X12_91 hin rfl ha1210 (by decide) hw1206 (Nat.lt_of_le_of_lt (by decide) hfs1200) rfl rfl dX12_init_607 (fun H locs w1207 hw1208 hne1209 hH => ?_)
  obtain ⟨fs1211, efs1211⟩ : ∃ z : List Value, z = List.set fs1200 91 (.ref (ad1204 74)) := ⟨_, rfl⟩
  rw [← efs1211] at hw1208
  have hfs1211 : 96 < fs1211.length := by rw [efs1211, List.length_set]; exact hfs1200
  refine lv_aload_n hx hb dX12_init_610 rfl (lv_at hl 0 rfl) ?_
  refine lv_iconst (v := 2) hx hb dX12_init_611 (by decide) ?_
  refine tw_newa (t := 0) (atype := .int) (ty := .int) (n' := 2) (a0 := (2, .inl (fun _ => 0))) F hH rfl (fun C h => by cases h) (tw_gl kw_47 rfl) rfl (fun _ => rfl) (by decide) (Nat.le_of_ble_eq_true rfl) (Nat.le_of_ble_eq_true rfl) (Nat.le_of_ble_eq_true rfl) dX12_init_612 (fun H locs ad1215 w1212 ha1216 hw1213 hne1214 hH => ?_)
  have hw1217 : w1212 0 = .inr (12, fs1211) := (hne1214 0 (nn_ne rfl)).trans (hw1208)
  have ha1221 : ad1215 0 = ad 0 := ((ha1216 0 (nn_lt rfl)).trans ha1210)
  refine tw_putF (r := 0) F hH kf_RX12_540 kp_X12_92 hin rfl ha1221 (by decide) hw1217 (Nat.lt_of_le_of_lt (by decide) hfs1211) rfl rfl dX12_init_614 (fun H locs w1218 hw1219 hne1220 hH => ?_)
  obtain ⟨fs1222, efs1222⟩ : ∃ z : List Value, z = List.set fs1211 92 (.ref (ad1215 75)) := ⟨_, rfl⟩
  rw [← efs1222] at hw1219
  have hfs1222 : 96 < fs1222.length := by rw [efs1222, List.length_set]; exact hfs1211
  refine lv_aload_n hx hb dX12_init_617 rfl (lv_at hl 0 rfl) ?_
  refine lv_bipush (v := 16) hx hb dX12_init_618 (by decide) ?_
  refine tw_newa (t := 0) (atype := .int) (ty := .int) (n' := 16) (a0 := (16, .inl (fun _ => 0))) F hH rfl (fun C h => by cases h) (tw_gl kw_47 rfl) rfl (fun _ => rfl) (by decide) (Nat.le_of_ble_eq_true rfl) (Nat.le_of_ble_eq_true rfl) (Nat.le_of_ble_eq_true rfl) dX12_init_620 (fun H locs ad1226 w1223 ha1227 hw1224 hne1225 hH => ?_)
  have hw1228 : w1223 0 = .inr (12, fs1222) := (hne1225 0 (nn_ne rfl)).trans (hw1219)
  have ha1232 : ad1226 0 = ad 0 := ((ha1227 0 (nn_lt rfl)).trans ha1221)
  refine tw_putF (r := 0) F hH kf_RX12_569 kp_X12_93 hin rfl ha1232 (by decide) hw1228 (Nat.lt_of_le_of_lt (by decide) hfs1222) rfl rfl dX12_init_622 (fun H locs w1229 hw1230 hne1231 hH => ?_)
  obtain ⟨fs1233, efs1233⟩ : ∃ z : List Value, z = List.set fs1222 93 (.ref (ad1226 76)) := ⟨_, rfl⟩
  rw [← efs1233] at hw1230
  have hfs1233 : 96 < fs1233.length := by rw [efs1233, List.length_set]; exact hfs1222
  refine lv_aload_n hx hb dX12_init_625 rfl (lv_at hl 0 rfl) ?_
  refine lv_bipush (v := 16) hx hb dX12_init_626 (by decide) ?_
  refine tw_newa (t := 0) (atype := .int) (ty := .int) (n' := 16) (a0 := (16, .inl (fun _ => 0))) F hH rfl (fun C h => by cases h) (tw_gl kw_47 rfl) rfl (fun _ => rfl) (by decide) (Nat.le_of_ble_eq_true rfl) (Nat.le_of_ble_eq_true rfl) (Nat.le_of_ble_eq_true rfl) dX12_init_628 (fun H locs ad1237 w1234 ha1238 hw1235 hne1236 hH => ?_)
  have hw1239 : w1234 0 = .inr (12, fs1233) := (hne1236 0 (nn_ne rfl)).trans (hw1230)
  have ha1243 : ad1237 0 = ad 0 := ((ha1238 0 (nn_lt rfl)).trans ha1232)
  refine tw_putF (r := 0) F hH kf_RX12_572 kp_X12_94 hin rfl ha1243 (by decide) hw1239 (Nat.lt_of_le_of_lt (by decide) hfs1233) rfl rfl dX12_init_630 (fun H locs w1240 hw1241 hne1242 hH => ?_)
  obtain ⟨fs1244, efs1244⟩ : ∃ z : List Value, z = List.set fs1233 94 (.ref (ad1237 77)) := ⟨_, rfl⟩
  rw [← efs1244] at hw1241
  have hfs1244 : 96 < fs1244.length := by rw [efs1244, List.length_set]; exact hfs1233
  have ha1245 : ad1237 70 = ad1162 70 := (((((((ha1238 70 (nn_lt rfl)).trans (ha1227 70 (nn_lt rfl))).trans (ha1216 70 (nn_lt rfl))).trans (ha1205 70 (nn_lt rfl))).trans (ha1194 70 (nn_lt rfl))).trans (ha1183 70 (nn_lt rfl))).trans (ha1173 70 (nn_lt rfl)))
  have ha1246 : ad1237 71 = ad1172 71 := ((((((ha1238 71 (nn_lt rfl)).trans (ha1227 71 (nn_lt rfl))).trans (ha1216 71 (nn_lt rfl))).trans (ha1205 71 (nn_lt rfl))).trans (ha1194 71 (nn_lt rfl))).trans (ha1183 71 (nn_lt rfl)))
  have ha1247 : ad1237 72 = ad1182 72 := (((((ha1238 72 (nn_lt rfl)).trans (ha1227 72 (nn_lt rfl))).trans (ha1216 72 (nn_lt rfl))).trans (ha1205 72 (nn_lt rfl))).trans (ha1194 72 (nn_lt rfl)))
  have ha1248 : ad1237 73 = ad1193 73 := ((((ha1238 73 (nn_lt rfl)).trans (ha1227 73 (nn_lt rfl))).trans (ha1216 73 (nn_lt rfl))).trans (ha1205 73 (nn_lt rfl)))
  have ha1249 : ad1237 74 = ad1204 74 := (((ha1238 74 (nn_lt rfl)).trans (ha1227 74 (nn_lt rfl))).trans (ha1216 74 (nn_lt rfl)))
  have ha1250 : ad1237 75 = ad1215 75 := ((ha1238 75 (nn_lt rfl)).trans (ha1227 75 (nn_lt rfl)))
  have ha1251 : ad1237 76 = ad1226 76 := (ha1238 76 (nn_lt rfl))
  have hw1252 : w1240 0 = .inr (12, mo_10 G ad1237) := by rw [hw1241]; rw [efs1244, efs1233, efs1222, efs1211, efs1200, efs1189, efs1178, efs1168]; rw [mo_9_c (a := adS9) (b := ad1237) (fun j hj => ((((((((ha1238 j (by omega)).trans (ha1227 j (by omega))).trans (ha1216 j (by omega))).trans (ha1205 j (by omega))).trans (ha1194 j (by omega))).trans (ha1183 j (by omega))).trans (ha1173 j (by omega))).trans (ha1163 j (by omega))).symm)]; rw [show ad1162 70 = ad1237 70 from ha1245.symm, show ad1172 71 = ad1237 71 from ha1246.symm, show ad1182 72 = ad1237 72 from ha1247.symm, show ad1193 73 = ad1237 73 from ha1248.symm, show ad1204 74 = ad1237 74 from ha1249.symm, show ad1215 75 = ad1237 75 from ha1250.symm, show ad1226 76 = ad1237 76 from ha1251.symm]; rfl
  have hall9_w1240 : ∀ k : Nat, 1 ≤ k → k ≤ 69 → w1240 k = wS9 k := fun k h1 h2 => (hne1242 k (by omega)).trans ((hne1236 k (by omega)).trans ((hne1231 k (by omega)).trans ((hne1225 k (by omega)).trans ((hne1220 k (by omega)).trans ((hne1214 k (by omega)).trans ((hne1209 k (by omega)).trans ((hne1203 k (by omega)).trans ((hne1198 k (by omega)).trans ((hne1192 k (by omega)).trans ((hne1187 k (by omega)).trans ((hne1181 k (by omega)).trans ((hne1177 k (by omega)).trans ((hne1171 k (by omega)).trans ((hne1167 k (by omega)).trans ((hne1161 k (by omega)))))))))))))))))
  have hw1253 : w1240 1 = .inl (G.2.1 0, 5, .inl (fun _ => 0)) := (hall9_w1240 1 (by decide) (by decide)).trans f9_1
  have hw1254 : w1240 2 = .inl (G.2.1 0, 5, .inl (fun _ => 0)) := (hall9_w1240 2 (by decide) (by decide)).trans f9_2
  have hw1255 : w1240 3 = .inl (G.2.1 1, 5, .inl (fun _ => 0)) := (hall9_w1240 3 (by decide) (by decide)).trans f9_3
  have hw1256 : w1240 4 = .inl (G.2.1 0, 24, .inl (fun _ => 0)) := (hall9_w1240 4 (by decide) (by decide)).trans f9_4
  have hw1257 : w1240 5 = .inl (G.2.1 0, 8, .inl (fun _ => 0)) := (hall9_w1240 5 (by decide) (by decide)).trans f9_5
  have hw1258 : w1240 6 = .inl (G.2.1 0, 30, .inl (fun _ => 0)) := (hall9_w1240 6 (by decide) (by decide)).trans f9_6
  have hw1259 : w1240 7 = .inl (G.2.1 0, 30, .inl (fun _ => 0)) := (hall9_w1240 7 (by decide) (by decide)).trans f9_7
  have hw1260 : w1240 8 = .inl (G.2.1 0, 30, .inl (fun _ => 0)) := (hall9_w1240 8 (by decide) (by decide)).trans f9_8
  have hw1261 : w1240 9 = .inl (G.2.1 0, 20, .inl (fun _ => 0)) := (hall9_w1240 9 (by decide) (by decide)).trans f9_9
  have hw1262 : w1240 10 = .inl (G.2.1 0, 20, .inl (fun _ => 0)) := (hall9_w1240 10 (by decide) (by decide)).trans f9_10
  have hw1263 : w1240 11 = .inl (G.2.1 0, 20, .inl (fun _ => 0)) := (hall9_w1240 11 (by decide) (by decide)).trans f9_11
  have hw1264 : w1240 12 = .inl (G.2.1 0, 20, .inl (fun _ => 0)) := (hall9_w1240 12 (by decide) (by decide)).trans f9_12
  have hw1265 : w1240 13 = .inl (G.2.1 0, 6, .inl (fun _ => 0)) := (hall9_w1240 13 (by decide) (by decide)).trans f9_13
  have hw1266 : w1240 14 = .inl (G.2.1 0, 6, .inl (fun _ => 0)) := (hall9_w1240 14 (by decide) (by decide)).trans f9_14
  have hw1267 : w1240 15 = .inl (G.2.1 0, 6, .inl (fun _ => 0)) := (hall9_w1240 15 (by decide) (by decide)).trans f9_15
  have hw1268 : w1240 16 = .inl (G.2.1 0, 6, .inl (fun _ => 0)) := (hall9_w1240 16 (by decide) (by decide)).trans f9_16
  have hw1269 : w1240 17 = .inl (G.2.1 0, 6, .inl (fun _ => 0)) := (hall9_w1240 17 (by decide) (by decide)).trans f9_17
  have hw1270 : w1240 18 = .inl (G.2.1 0, 6, .inl (fun _ => 0)) := (hall9_w1240 18 (by decide) (by decide)).trans f9_18
  have hw1271 : w1240 19 = .inl (G.2.1 0, 6, .inl (fun _ => 0)) := (hall9_w1240 19 (by decide) (by decide)).trans f9_19
  have hw1272 : w1240 20 = .inl (G.2.1 0, 24, .inl (fun _ => 0)) := (hall9_w1240 20 (by decide) (by decide)).trans f9_20
  have hw1273 : w1240 21 = .inl (G.2.1 0, 24, .inl (fun _ => 0)) := (hall9_w1240 21 (by decide) (by decide)).trans f9_21
  have hw1274 : w1240 22 = .inl (G.2.1 0, 6, .inl (fun _ => 0)) := (hall9_w1240 22 (by decide) (by decide)).trans f9_22
  have hw1275 : w1240 23 = .inl (G.2.1 0, 72, .inl (fun _ => 0)) := (hall9_w1240 23 (by decide) (by decide)).trans f9_23
  have hw1276 : w1240 24 = .inl (G.2.1 0, 72, .inl (fun _ => 0)) := (hall9_w1240 24 (by decide) (by decide)).trans f9_24
  have hw1277 : w1240 25 = .inl (G.2.1 0, 72, .inl (fun _ => 0)) := (hall9_w1240 25 (by decide) (by decide)).trans f9_25
  have hw1278 : w1240 26 = .inl (G.2.1 0, 6, .inl (fun _ => 0)) := (hall9_w1240 26 (by decide) (by decide)).trans f9_26
  have hw1279 : w1240 27 = .inl (G.2.1 0, 30, .inl (fun _ => 0)) := (hall9_w1240 27 (by decide) (by decide)).trans f9_27
  have hw1280 : w1240 28 = .inl (G.2.1 0, 30, .inl (fun _ => 0)) := (hall9_w1240 28 (by decide) (by decide)).trans f9_28
  have hw1281 : w1240 29 = .inl (G.2.1 0, 30, .inl (fun _ => 0)) := (hall9_w1240 29 (by decide) (by decide)).trans f9_29
  have hw1282 : w1240 30 = .inl (G.2.1 1, 6, .inl (fun _ => 0)) := (hall9_w1240 30 (by decide) (by decide)).trans f9_30
  have hw1283 : w1240 31 = .inl (G.2.1 0, 6, .inl (fun _ => 0)) := (hall9_w1240 31 (by decide) (by decide)).trans f9_31
  have hw1284 : w1240 32 = .inl (G.2.1 0, 24, .inl (fun _ => 0)) := (hall9_w1240 32 (by decide) (by decide)).trans f9_32
  have hw1285 : w1240 33 = .inl (G.2.1 0, 24, .inl (fun _ => 0)) := (hall9_w1240 33 (by decide) (by decide)).trans f9_33
  have hw1286 : w1240 34 = .inl (G.2.1 0, 100, .inl (fun _ => 0)) := (hall9_w1240 34 (by decide) (by decide)).trans f9_34
  have hw1287 : w1240 35 = .inl (G.2.1 0, 1700, .inl (fun _ => 0)) := (hall9_w1240 35 (by decide) (by decide)).trans f9_35
  have hw1288 : w1240 36 = .inl (G.2.1 0, 17, .inl (fun _ => 0)) := (hall9_w1240 36 (by decide) (by decide)).trans f9_36
  have hw1289 : w1240 37 = .inl (G.2.1 0, 100, .inl (fun _ => 0)) := (hall9_w1240 37 (by decide) (by decide)).trans f9_37
  have hw1290 : w1240 38 = .inl (G.2.1 0, 13, .inl (fun _ => 0)) := (hall9_w1240 38 (by decide) (by decide)).trans f9_38
  have hw1291 : w1240 39 = .inl (G.2.1 0, 6, .inl (fun _ => 0)) := (hall9_w1240 39 (by decide) (by decide)).trans f9_39
  have hw1292 : w1240 40 = .inl (G.2.1 0, 6, .inl (fun _ => 0)) := (hall9_w1240 40 (by decide) (by decide)).trans f9_40
  have hw1293 : w1240 41 = .inl (G.2.1 0, 6, .inl (fun _ => 0)) := (hall9_w1240 41 (by decide) (by decide)).trans f9_41
  have hw1294 : w1240 42 = .inl (G.2.1 0, 6, .inl (fun _ => 0)) := (hall9_w1240 42 (by decide) (by decide)).trans f9_42
  have hw1295 : w1240 43 = .inl (G.2.1 0, 6, .inl (fun _ => 0)) := (hall9_w1240 43 (by decide) (by decide)).trans f9_43
  have hw1296 : w1240 44 = .inl (G.2.1 0, 6, .inl (fun _ => 0)) := (hall9_w1240 44 (by decide) (by decide)).trans f9_44
  have hw1297 : w1240 45 = .inl (G.2.1 0, 6, .inl (fun _ => 0)) := (hall9_w1240 45 (by decide) (by decide)).trans f9_45
  have hw1298 : w1240 46 = .inl (G.2.1 0, 24, .inl (fun _ => 0)) := (hall9_w1240 46 (by decide) (by decide)).trans f9_46
  have hw1299 : w1240 47 = .inl (G.2.1 0, 6, .inl (fun _ => 0)) := (hall9_w1240 47 (by decide) (by decide)).trans f9_47
  have hw1300 : w1240 48 = .inl (G.2.1 0, 6, .inl (fun _ => 0)) := (hall9_w1240 48 (by decide) (by decide)).trans f9_48
  have hw1301 : w1240 49 = .inl (G.2.1 0, 6, .inl (fun _ => 0)) := (hall9_w1240 49 (by decide) (by decide)).trans f9_49
  have hw1302 : w1240 50 = .inl (G.2.1 0, 6, .inl (fun _ => 0)) := (hall9_w1240 50 (by decide) (by decide)).trans f9_50
  have hw1303 : w1240 51 = .inl (G.2.1 0, 6, .inl (fun _ => 0)) := (hall9_w1240 51 (by decide) (by decide)).trans f9_51
  have hw1304 : w1240 52 = .inl (G.2.1 0, 6, .inl (fun _ => 0)) := (hall9_w1240 52 (by decide) (by decide)).trans f9_52
  have hw1305 : w1240 53 = .inl (G.2.1 0, 6, .inl (fun _ => 0)) := (hall9_w1240 53 (by decide) (by decide)).trans f9_53
  have hw1306 : w1240 54 = .inl (G.2.1 0, 6, .inl (fun _ => 0)) := (hall9_w1240 54 (by decide) (by decide)).trans f9_54
  have hw1307 : w1240 55 = .inl (G.2.1 0, 360, .inl (fun _ => 0)) := (hall9_w1240 55 (by decide) (by decide)).trans f9_55
  have hw1308 : w1240 56 = .inl (G.2.1 0, 30, .inl (fun _ => 0)) := (hall9_w1240 56 (by decide) (by decide)).trans f9_56
  have hw1309 : w1240 57 = .inl (G.2.1 0, 30, .inl (fun _ => 0)) := (hall9_w1240 57 (by decide) (by decide)).trans f9_57
  have hw1310 : w1240 58 = .inl (G.2.1 0, 4, .inl (fun _ => 0)) := (hall9_w1240 58 (by decide) (by decide)).trans f9_58
  have hw1311 : w1240 59 = .inl (G.2.1 0, 72, .inl (fun _ => 0)) := (hall9_w1240 59 (by decide) (by decide)).trans f9_59
  have hw1312 : w1240 60 = .inl (G.2.1 1, 6, .inl (fun _ => 0)) := (hall9_w1240 60 (by decide) (by decide)).trans f9_60
  have hw1313 : w1240 61 = .inl (G.2.1 0, 10, .inl (fun _ => 0)) := (hall9_w1240 61 (by decide) (by decide)).trans f9_61
  have hw1314 : w1240 62 = .inl (G.2.1 0, 11, .inl (fun _ => 0)) := (hall9_w1240 62 (by decide) (by decide)).trans f9_62
  have hw1315 : w1240 63 = .inl (G.2.1 0, 20, .inl (fun _ => 0)) := (hall9_w1240 63 (by decide) (by decide)).trans f9_63
  have hw1316 : w1240 64 = .inl (G.2.1 0, 20, .inl (fun _ => 0)) := (hall9_w1240 64 (by decide) (by decide)).trans f9_64
  have hw1317 : w1240 65 = .inl (G.2.1 0, 20, .inl (fun _ => 0)) := (hall9_w1240 65 (by decide) (by decide)).trans f9_65
  have hw1318 : w1240 66 = .inl (G.2.1 0, 20, .inl (fun _ => 0)) := (hall9_w1240 66 (by decide) (by decide)).trans f9_66
  have hw1319 : w1240 67 = .inl (G.2.1 1, 6, .inl (fun _ => 0)) := (hall9_w1240 67 (by decide) (by decide)).trans f9_67
  have hw1320 : w1240 68 = .inl (G.2.1 0, 6, .inl (fun _ => 0)) := (hall9_w1240 68 (by decide) (by decide)).trans f9_68
  have hw1321 : w1240 69 = .inl (G.2.1 0, 6, .inl (fun _ => 0)) := (hall9_w1240 69 (by decide) (by decide)).trans f9_69
  have hw1322 : w1240 70 = .inl (G.2.1 0, 30, .inl (fun _ => 0)) := (hne1242 70 (nn_ne rfl)).trans ((hne1236 70 (nn_ne rfl)).trans ((hne1231 70 (nn_ne rfl)).trans ((hne1225 70 (nn_ne rfl)).trans ((hne1220 70 (nn_ne rfl)).trans ((hne1214 70 (nn_ne rfl)).trans ((hne1209 70 (nn_ne rfl)).trans ((hne1203 70 (nn_ne rfl)).trans ((hne1198 70 (nn_ne rfl)).trans ((hne1192 70 (nn_ne rfl)).trans ((hne1187 70 (nn_ne rfl)).trans ((hne1181 70 (nn_ne rfl)).trans ((hne1177 70 (nn_ne rfl)).trans ((hne1171 70 (nn_ne rfl)).trans ((hne1167 70 (nn_ne rfl)).trans (hw1160)))))))))))))))
  have hw1323 : w1240 71 = .inl (G.2.1 0, 30, .inl (fun _ => 0)) := (hne1242 71 (nn_ne rfl)).trans ((hne1236 71 (nn_ne rfl)).trans ((hne1231 71 (nn_ne rfl)).trans ((hne1225 71 (nn_ne rfl)).trans ((hne1220 71 (nn_ne rfl)).trans ((hne1214 71 (nn_ne rfl)).trans ((hne1209 71 (nn_ne rfl)).trans ((hne1203 71 (nn_ne rfl)).trans ((hne1198 71 (nn_ne rfl)).trans ((hne1192 71 (nn_ne rfl)).trans ((hne1187 71 (nn_ne rfl)).trans ((hne1181 71 (nn_ne rfl)).trans ((hne1177 71 (nn_ne rfl)).trans (hw1170)))))))))))))
  have hw1324 : w1240 72 = .inl (G.2.1 0, 30, .inl (fun _ => 0)) := (hne1242 72 (nn_ne rfl)).trans ((hne1236 72 (nn_ne rfl)).trans ((hne1231 72 (nn_ne rfl)).trans ((hne1225 72 (nn_ne rfl)).trans ((hne1220 72 (nn_ne rfl)).trans ((hne1214 72 (nn_ne rfl)).trans ((hne1209 72 (nn_ne rfl)).trans ((hne1203 72 (nn_ne rfl)).trans ((hne1198 72 (nn_ne rfl)).trans ((hne1192 72 (nn_ne rfl)).trans ((hne1187 72 (nn_ne rfl)).trans (hw1180)))))))))))
  have hw1325 : w1240 73 = .inl (G.2.1 0, 6, .inl (fun _ => 0)) := (hne1242 73 (nn_ne rfl)).trans ((hne1236 73 (nn_ne rfl)).trans ((hne1231 73 (nn_ne rfl)).trans ((hne1225 73 (nn_ne rfl)).trans ((hne1220 73 (nn_ne rfl)).trans ((hne1214 73 (nn_ne rfl)).trans ((hne1209 73 (nn_ne rfl)).trans ((hne1203 73 (nn_ne rfl)).trans ((hne1198 73 (nn_ne rfl)).trans (hw1191)))))))))
  have hw1326 : w1240 74 = .inl (G.2.1 0, 2, .inl (fun _ => 0)) := (hne1242 74 (nn_ne rfl)).trans ((hne1236 74 (nn_ne rfl)).trans ((hne1231 74 (nn_ne rfl)).trans ((hne1225 74 (nn_ne rfl)).trans ((hne1220 74 (nn_ne rfl)).trans ((hne1214 74 (nn_ne rfl)).trans ((hne1209 74 (nn_ne rfl)).trans (hw1202)))))))
  have hw1327 : w1240 75 = .inl (G.2.1 0, 2, .inl (fun _ => 0)) := (hne1242 75 (nn_ne rfl)).trans ((hne1236 75 (nn_ne rfl)).trans ((hne1231 75 (nn_ne rfl)).trans ((hne1225 75 (nn_ne rfl)).trans ((hne1220 75 (nn_ne rfl)).trans (hw1213)))))
  have hw1328 : w1240 76 = .inl (G.2.1 0, 16, .inl (fun _ => 0)) := (hne1242 76 (nn_ne rfl)).trans ((hne1236 76 (nn_ne rfl)).trans ((hne1231 76 (nn_ne rfl)).trans (hw1224)))
  have hw1329 : w1240 77 = .inl (G.2.1 0, 16, .inl (fun _ => 0)) := (hne1242 77 (nn_ne rfl)).trans (hw1235)
  exact kk H locs ad1237 w1240 ls (fun k hk => (((((((((ha1238 k (by omega)).trans (ha1227 k (by omega))).trans (ha1216 k (by omega))).trans (ha1205 k (by omega))).trans (ha1194 k (by omega))).trans (ha1183 k (by omega))).trans (ha1173 k (by omega))).trans (ha1163 k (by omega)))).trans (hz9 k (by omega))) hw1252 hw1253 hw1254 hw1255 hw1256 hw1257 hw1258 hw1259 hw1260 hw1261 hw1262 hw1263 hw1264 hw1265 hw1266 hw1267 hw1268 hw1269 hw1270 hw1271 hw1272 hw1273 hw1274 hw1275 hw1276 hw1277 hw1278 hw1279 hw1280 hw1281 hw1282 hw1283 hw1284 hw1285 hw1286 hw1287 hw1288 hw1289 hw1290 hw1291 hw1292 hw1293 hw1294 hw1295 hw1296 hw1297 hw1298 hw1299 hw1300 hw1301 hw1302 hw1303 hw1304 hw1305 hw1306 hw1307 hw1308 hw1309 hw1310 hw1311 hw1312 hw1313 hw1314 hw1315 hw1316 hw1317 hw1318 hw1319 hw1320 hw1321 hw1322 hw1323 hw1324 hw1325 hw1326 hw1327 hw1328 hw1329 hH hl

