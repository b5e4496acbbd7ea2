abbrev rmX2_nextToGo : Room := { frames := 1, cells := 0, slots := 0, locals := 21 }
set_option maxHeartbeats 4000000 in
set_option maxRecDepth 100000 in
theorem b0X2_nextToGo_4 (X : jm_X) (fu : Nat) (k4 : jm_M → Int → Int → jm_R) (hk4 : ∀ (M : jm_M) (l1 l2 : Int) (hl1 : jm_in l1) (hl2 : jm_in l2), jm_J wd1 (jm_qi .int) cX2_nextToGo 3 RX2 rmX2_nextToGo X M [(0, jm_vr wd1 X 2 0), (1, jm_i l1), (2, jm_i l2)] [] 4 (k4 M l1 l2)) : ∀ (M : jm_M) (l1 l2 : Int) (hl1 : jm_in l1) (hl2 : jm_in l2), jm_J wd1 (jm_qi .int) cX2_nextToGo 3 RX2 rmX2_nextToGo X M [(0, jm_vr wd1 X 2 0), (1, jm_i l1), (2, jm_i l2)] [] 4 (gX2_nextToGo_4 fu k4 M l1 l2) := by
  intro M l1 l2 hl1 hl2
  unfold gX2_nextToGo_4
  refine j_iload_n (pc := 4) dX2_nextToGo_4 rfl (q := 2) rfl ?_
  refine j_aload_n (pc := 5) dX2_nextToGo_5 rfl (q := 0) rfl ?_
  refine j_geti (pc := 6) jv1_2 jm_01 kf_RX2_37 kg1_2_5 dX2_nextToGo_6 (fun h1 => ?_)
  refine j_icmp_ge (tgt := 61) (pc := 9) hl2 h1 dX2_nextToGo_9 (by decide) (fun c2 => ?_) (fun c2 => ?_)
  · skip
    refine j_iload_n (pc := 61) dX2_nextToGo_61 rfl (q := 1) rfl ?_
    exact j_iret (pc := 62) hl1 rfl dX2_nextToGo_62
  · skip
    refine j_iload_n (pc := 12) dX2_nextToGo_12 rfl (q := 2) rfl ?_
    refine j_bipush (pc := 13) 6 dX2_nextToGo_13 (by decide) ?_
    refine j_icmp_ge (tgt := 61) (pc := 15) hl2 (jm_inL (by decide) (by decide)) dX2_nextToGo_15 (by decide) (fun c3 => ?_) (fun c3 => ?_)
    · skip
      refine j_iload_n (pc := 61) dX2_nextToGo_61 rfl (q := 1) rfl ?_
      exact j_iret (pc := 62) hl1 rfl dX2_nextToGo_62
    · skip
      refine j_aload_n (pc := 18) dX2_nextToGo_18 rfl (q := 0) rfl ?_
      refine j_getr (pc := 19) jv1_2 jm_01 kf_RX2_27 0 kg1_2_3 rfl dX2_nextToGo_19 ?_
      refine j_iload_n (pc := 22) dX2_nextToGo_22 rfl (q := 2) rfl ?_
      refine j_aald (pc := 23) jv1_47 jm_01 (by decide) kr1_47 dX2_nextToGo_23 (fun c4 => ?_)
      refine j_geti (pc := 24) jv1_9 (by omega) kf_RX2_91 kg1_9_3 dX2_nextToGo_24 (fun h5 => ?_)
      refine j_if_ne (tgt := 55) (pc := 27) h5 dX2_nextToGo_27 (by decide) (fun c6 => ?_) (fun c6 => ?_)
      · skip
        refine j_iload_n (pc := 30) dX2_nextToGo_30 rfl (q := 1) rfl ?_
        refine j_iconst (pc := 31) dX2_nextToGo_31 ?_
        refine j_icmp_eq (tgt := 53) (pc := 32) hl1 (jm_inL (by decide) (by decide)) dX2_nextToGo_32 (by decide) (fun c7 => ?_) (fun c7 => ?_)
        · skip
          refine j_iload_n (pc := 53) dX2_nextToGo_53 rfl (q := 2) rfl ?_
          refine j_istore_n (pc := 54) [(1, jm_i l2), (0, jm_vr wd1 X 2 0), (2, jm_i l2)] dX2_nextToGo_54 rfl (by decide) rfl ?_
          refine j_iinc (pc := 55) [(1, jm_i l2), (0, jm_vr wd1 X 2 0)] (q := 2) dX2_nextToGo_55 rfl (by decide) (fun _ => rfl) (fun v8 h9 => ?_)
          refine j_goto (tgt := 4) (pc := 58) dX2_nextToGo_58 (by decide) ?_
          refine j_sub (pc := 4) [(0, jm_vr wd1 X 2 0), (1, jm_i l2), (2, jm_i v8)] [2, 1, 0] rfl ?_
          exact hk4 M l2 v8 hl2 h9
        · skip
          refine j_aload_n (pc := 35) dX2_nextToGo_35 rfl (q := 0) rfl ?_
          refine j_getr (pc := 36) jv1_2 jm_01 kf_RX2_27 0 kg1_2_3 rfl dX2_nextToGo_36 ?_
          refine j_iload_n (pc := 39) dX2_nextToGo_39 rfl (q := 2) rfl ?_
          refine j_aald (pc := 40) jv1_47 jm_01 (by decide) kr1_47 dX2_nextToGo_40 (fun c10 => ?_)
          refine j_aload_n (pc := 41) dX2_nextToGo_41 rfl (q := 0) rfl ?_
          refine j_getr (pc := 42) jv1_2 jm_01 kf_RX2_27 0 kg1_2_3 rfl dX2_nextToGo_42 ?_
          refine j_iload_n (pc := 45) dX2_nextToGo_45 rfl (q := 1) rfl ?_
          refine j_aald (pc := 46) jv1_47 jm_01 (by decide) kr1_47 dX2_nextToGo_46 (fun c11 => ?_)
          refine j_callSi2 (pc := 47) (ct_X2_goesAhead M l2 l1 (by omega) (by omega)) kg_878 km_X2_goesAhead kg_879 rfl rfl ⟨(Nat.le_of_ble_eq_true rfl), (Nat.le_of_ble_eq_true rfl)⟩ rfl rfl (Nat.le_of_ble_eq_true rfl) dX2_nextToGo_47 (fun v12 M13 h14 => ?_)
          refine j_if_eq (tgt := 55) (pc := 50) h14 dX2_nextToGo_50 (by decide) (fun c15 => ?_) (fun c15 => ?_)
          · skip
            refine j_iinc (pc := 55) [(0, jm_vr wd1 X 2 0), (1, jm_i l1)] (q := 2) dX2_nextToGo_55 rfl (by decide) (fun _ => rfl) (fun v16 h17 => ?_)
            refine j_goto (tgt := 4) (pc := 58) dX2_nextToGo_58 (by decide) ?_
            refine j_sub (pc := 4) [(0, jm_vr wd1 X 2 0), (1, jm_i l1), (2, jm_i v16)] [1, 2, 0] rfl ?_
            exact hk4 M13 l1 v16 hl1 h17
          · skip
            refine j_iload_n (pc := 53) dX2_nextToGo_53 rfl (q := 2) rfl ?_
            refine j_istore_n (pc := 54) [(1, jm_i l2), (0, jm_vr wd1 X 2 0), (2, jm_i l2)] dX2_nextToGo_54 rfl (by decide) rfl ?_
            refine j_iinc (pc := 55) [(1, jm_i l2), (0, jm_vr wd1 X 2 0)] (q := 2) dX2_nextToGo_55 rfl (by decide) (fun _ => rfl) (fun v18 h19 => ?_)
            refine j_goto (tgt := 4) (pc := 58) dX2_nextToGo_58 (by decide) ?_
            refine j_sub (pc := 4) [(0, jm_vr wd1 X 2 0), (1, jm_i l2), (2, jm_i v18)] [2, 1, 0] rfl ?_
            exact hk4 M13 l2 v18 hl2 h19
      · skip
        refine j_iinc (pc := 55) [(0, jm_vr wd1 X 2 0), (1, jm_i l1)] (q := 2) dX2_nextToGo_55 rfl (by decide) (fun _ => rfl) (fun v20 h21 => ?_)
        refine j_goto (tgt := 4) (pc := 58) dX2_nextToGo_58 (by decide) ?_
        refine j_sub (pc := 4) [(0, jm_vr wd1 X 2 0), (1, jm_i l1), (2, jm_i v20)] [1, 2, 0] rfl ?_
        exact hk4 M l1 v20 hl1 h21
theorem bX2_nextToGo_4 (X : jm_X) (fu : Nat) : ∀ (n : Nat) (M : jm_M) (l1 l2 : Int) (hl1 : jm_in l1) (hl2 : jm_in l2), jm_J wd1 (jm_qi .int) cX2_nextToGo 3 RX2 rmX2_nextToGo X M [(0, jm_vr wd1 X 2 0), (1, jm_i l1), (2, jm_i l2)] [] 4 (fX2_nextToGo_4 fu n M l1 l2) := by
  intro n
  induction n with
  | zero => intro M l1 l2 hl1 hl2; exact j_none
  | succ n ih => intro M l1 l2 hl1 hl2; exact b0X2_nextToGo_4 X fu (fX2_nextToGo_4 fu n) ih M l1 l2 hl1 hl2
set_option maxHeartbeats 4000000 in
set_option maxRecDepth 100000 in
theorem ct_X2_nextToGo (fu : Nat) (M : jm_M) : jm_Ci wd1 yX2_nextToGo cX2_nextToGo 3 (some .int) rmX2_nextToGo M (fun G ad => [.ref (ad (jm_r wd1 2 0))]) (fX2_nextToGo fu M ) := by
  refine jm_met_i (fun X => [(0, jm_vr wd1 X 2 0)]) (by decide) (fun _ _ => (Nat.le_of_ble_eq_true rfl)) (fun _ => rfl) (fun X => ?_)
  unfold fX2_nextToGo
  refine j_iconst (pc := 0) dX2_nextToGo_0 ?_
  refine j_istore_n (pc := 1) [(1, jm_i (-1)), (0, jm_vr wd1 X 2 0)] dX2_nextToGo_1 rfl (by decide) rfl ?_
  refine j_iconst (pc := 2) dX2_nextToGo_2 ?_
  refine j_istore_n (pc := 3) [(2, jm_i 0), (1, jm_i (-1)), (0, jm_vr wd1 X 2 0)] dX2_nextToGo_3 rfl (by decide) rfl ?_
  refine j_sub (pc := 4) [(0, jm_vr wd1 X 2 0), (1, jm_i (-1)), (2, jm_i 0)] [2, 1, 0] rfl ?_
  exact bX2_nextToGo_4 X fu  fu M (-1) 0 (jm_inL (by decide) (by decide)) (jm_inL (by decide) (by decide))
abbrev rmX9_sectorOf : Room := { frames := 0, cells := 0, slots := 0, locals := 0 }
set_option maxHeartbeats 4000000 in
set_option maxRecDepth 100000 in
theorem ct_X9_sectorOf (M : jm_M) (l1 : Int) (hl1 : jm_in l1) : jm_Ci wd1 yX9_sectorOf cX9_sectorOf 2 (some .int) rmX9_sectorOf M (fun G ad => [.ref (ad (jm_r wd1 1 0)), jm_i l1]) (fX9_sectorOf M l1) := by
  refine jm_met_i (fun X => [(0, jm_vr wd1 X 1 0), (1, jm_i l1)]) (by decide) (fun _ _ => (Nat.le_of_ble_eq_true rfl)) (fun _ => rfl) (fun X => ?_)
  unfold fX9_sectorOf
  refine j_aload_n (pc := 0) dX9_sectorOf_0 rfl (q := 0) rfl ?_
  refine j_geti (pc := 1) jv1_1 jm_01 kf_RX9_49 kg1_1_0 dX9_sectorOf_1 (fun h1 => ?_)
  refine j_if_le (tgt := 16) (pc := 4) h1 dX9_sectorOf_4 (by decide) (fun c2 => ?_) (fun c2 => ?_)
  · skip
    refine j_iconst (pc := 16) dX9_sectorOf_16 ?_
    exact j_iret (pc := 17) (jm_inL (by decide) (by decide)) rfl dX9_sectorOf_17
  · skip
    refine j_iload_n (pc := 7) dX9_sectorOf_7 rfl (q := 1) rfl ?_
    refine j_aload_n (pc := 8) dX9_sectorOf_8 rfl (q := 0) rfl ?_
    refine j_geti (pc := 9) jv1_1 jm_01 kf_RX9_49 kg1_1_0 dX9_sectorOf_9 (fun h3 => ?_)
    refine j_gd (pc := 12) (fun c4 => ?_)
    refine j_irem (pc := 12) hl1 h3 dX9_sectorOf_12 c4 ?_
    refine j_goto (tgt := 17) (pc := 13) dX9_sectorOf_13 (by decide) ?_
    exact j_iret (pc := 17) (jm_mod_in h3 c4 hl1) rfl dX9_sectorOf_17
abbrev rmX2_hear : Room := { frames := 1, cells := 0, slots := 0, locals := 22 }
set_option maxHeartbeats 4000000 in
set_option maxRecDepth 100000 in
theorem b0X2_hear_3 (X : jm_X) (fu : Nat) (k3 : jm_M → Int → Int → Int → Int → jm_R) (hk3 : ∀ (M : jm_M) (r1 r2 l3 l4 : Int) (gr1 : 0 ≤ r1 ∧ r1 < 6) (gr2 : 0 ≤ r2 ∧ r2 < 6) (hl3 : jm_in l3) (hl4 : jm_in l4), jm_J wd1 jm_qv cX2_hear 5 RX2 rmX2_hear X M [(0, jm_vr wd1 X 2 0), (1, jm_vr wd1 X 8 r1), (2, jm_vr wd1 X 9 r2), (3, jm_i l3), (4, jm_i l4)] [] 3 (k3 M r1 r2 l3 l4)) : ∀ (M : jm_M) (r1 r2 l3 l4 : Int) (gr1 : 0 ≤ r1 ∧ r1 < 6) (gr2 : 0 ≤ r2 ∧ r2 < 6) (hl3 : jm_in l3) (hl4 : jm_in l4), jm_J wd1 jm_qv cX2_hear 5 RX2 rmX2_hear X M [(0, jm_vr wd1 X 2 0), (1, jm_vr wd1 X 8 r1), (2, jm_vr wd1 X 9 r2), (3, jm_i l3), (4, jm_i l4)] [] 3 (gX2_hear_3 fu k3 M r1 r2 l3 l4) := by
  intro M r1 r2 l3 l4 gr1 gr2 hl3 hl4
  unfold gX2_hear_3
  refine j_iload (pc := 3) dX2_hear_3 (q := 4) rfl ?_
  refine j_aload_n (pc := 5) dX2_hear_5 rfl (q := 1) rfl ?_
  refine j_getr (pc := 6) jv1_8 gr1 kf_RX2_169 (r1 + 6) kg1_8_7 rfl dX2_hear_6 ?_
  refine j_geti (pc := 9) jv1_10 (by omega) kf_RX2_49 kg1_10_3 dX2_hear_9 (fun h1 => ?_)
  refine j_icmp_ge (tgt := 101) (pc := 12) hl4 h1 dX2_hear_12 (by decide) (fun c2 => ?_) (fun c2 => ?_)
  · skip
    exact j_vret (pc := 101) dX2_hear_101
  · skip
    refine j_aload_n (pc := 15) dX2_hear_15 rfl (q := 1) rfl ?_
    refine j_getr (pc := 16) jv1_8 gr1 kf_RX2_169 (r1 + 6) kg1_8_7 rfl dX2_hear_16 ?_
    refine j_iload (pc := 19) dX2_hear_19 (q := 4) rfl ?_
    refine j_iconst (pc := 21) dX2_hear_21 ?_
    refine j_callVi2 (pc := 22) (ct_X7_cell M (r1 + 6) l4 0 (by omega) hl4 (jm_inL (by decide) (by decide))) kg_894 km_X7_cell kv_X7_cell rfl rfl ⟨(Nat.le_of_ble_eq_true rfl), (Nat.le_of_ble_eq_true rfl)⟩ jv1_10 (by omega) ko1_10 rfl rfl (Nat.le_of_ble_eq_true rfl) dX2_hear_22 (fun v3 M4 h5 => ?_)
    refine j_aload_n (pc := 25) dX2_hear_25 rfl (q := 0) rfl ?_
    refine j_getr (pc := 26) jv1_2 jm_01 kf_RX2_9 0 kg1_2_0 rfl dX2_hear_26 ?_
    refine j_geti (pc := 29) jv1_1 jm_01 kf_RX2_159 kg1_1_0 dX2_hear_29 (fun h6 => ?_)
    refine j_imul (pc := 32) dX2_hear_32 ?_
    refine j_aload_n (pc := 33) dX2_hear_33 rfl (q := 0) rfl ?_
    refine j_getr (pc := 34) jv1_2 jm_01 kf_RX2_9 0 kg1_2_0 rfl dX2_hear_34 ?_
    refine j_getr (pc := 37) jv1_1 jm_01 kf_RX2_70 0 kg1_1_6 rfl dX2_hear_37 ?_
    refine j_bipush (pc := 40) 7 dX2_hear_40 (by decide) ?_
    refine j_iald (pc := 42) jv1_18 jm_01 rfl (by decide) ka1_18 dX2_hear_42 (fun c7 h8 => ?_)
    refine j_iadd (pc := 43) dX2_hear_43 ?_
    refine j_iload_n (pc := 44) dX2_hear_44 rfl (q := 3) rfl ?_
    refine j_icmp_eq (tgt := 51) (pc := 45) (jm_w_in _) hl3 dX2_hear_45 (by decide) (fun c9 => ?_) (fun c9 => ?_)
    · skip
      refine j_aload_n (pc := 51) dX2_hear_51 rfl (q := 1) rfl ?_
      refine j_getr (pc := 52) jv1_8 gr1 kf_RX2_169 (r1 + 6) kg1_8_7 rfl dX2_hear_52 ?_
      refine j_iload (pc := 55) dX2_hear_55 (q := 4) rfl ?_
      refine j_iconst (pc := 57) dX2_hear_57 ?_
      refine j_callVi2 (pc := 58) (ct_X7_cell M4 (r1 + 6) l4 1 (by omega) hl4 (jm_inL (by decide) (by decide))) kg_894 km_X7_cell kv_X7_cell rfl rfl ⟨(Nat.le_of_ble_eq_true rfl), (Nat.le_of_ble_eq_true rfl)⟩ jv1_10 (by omega) ko1_10 rfl rfl (Nat.le_of_ble_eq_true rfl) dX2_hear_58 (fun v10 M11 h12 => ?_)
      refine j_if_ne (tgt := 81) (pc := 61) h12 dX2_hear_61 (by decide) (fun c13 => ?_) (fun c13 => ?_)
      · skip
        refine j_aload_n (pc := 64) dX2_hear_64 rfl (q := 2) rfl ?_
        refine j_aload_n (pc := 65) dX2_hear_65 rfl (q := 1) rfl ?_
        refine j_getr (pc := 66) jv1_8 gr1 kf_RX2_169 (r1 + 6) kg1_8_7 rfl dX2_hear_66 ?_
        refine j_iload (pc := 69) dX2_hear_69 (q := 4) rfl ?_
        refine j_iconst (pc := 71) dX2_hear_71 ?_
        refine j_callVi2 (pc := 72) (ct_X7_cell M11 (r1 + 6) l4 2 (by omega) hl4 (jm_inL (by decide) (by decide))) kg_894 km_X7_cell kv_X7_cell rfl rfl ⟨(Nat.le_of_ble_eq_true rfl), (Nat.le_of_ble_eq_true rfl)⟩ jv1_10 (by omega) ko1_10 rfl rfl (Nat.le_of_ble_eq_true rfl) dX2_hear_72 (fun v14 M15 h16 => ?_)
        refine j_put (pc := 75) jv1_9 gr2 kf_RX2_128 wI1 kp_X6_13 kx1_9_13 h16 rfl rfl dX2_hear_75 (fun M17 => ?_)
        refine j_goto (tgt := 95) (pc := 78) dX2_hear_78 (by decide) ?_
        refine j_iinc (pc := 95) [(0, jm_vr wd1 X 2 0), (1, jm_vr wd1 X 8 r1), (2, jm_vr wd1 X 9 r2), (3, jm_i l3)] (q := 4) dX2_hear_95 rfl (by decide) (fun _ => rfl) (fun v18 h19 => ?_)
        refine j_goto (tgt := 3) (pc := 98) dX2_hear_98 (by decide) ?_
        refine j_sub (pc := 3) [(0, jm_vr wd1 X 2 0), (1, jm_vr wd1 X 8 r1), (2, jm_vr wd1 X 9 r2), (3, jm_i l3), (4, jm_i v18)] [1, 2, 3, 4, 0] rfl ?_
        exact hk3 M17 r1 r2 l3 v18 gr1 gr2 hl3 h19
      · skip
        refine j_aload_n (pc := 81) dX2_hear_81 rfl (q := 2) rfl ?_
        refine j_aload_n (pc := 82) dX2_hear_82 rfl (q := 1) rfl ?_
        refine j_getr (pc := 83) jv1_8 gr1 kf_RX2_169 (r1 + 6) kg1_8_7 rfl dX2_hear_83 ?_
        refine j_iload (pc := 86) dX2_hear_86 (q := 4) rfl ?_
        refine j_iconst (pc := 88) dX2_hear_88 ?_
        refine j_callVi2 (pc := 89) (ct_X7_cell M11 (r1 + 6) l4 2 (by omega) hl4 (jm_inL (by decide) (by decide))) kg_894 km_X7_cell kv_X7_cell rfl rfl ⟨(Nat.le_of_ble_eq_true rfl), (Nat.le_of_ble_eq_true rfl)⟩ jv1_10 (by omega) ko1_10 rfl rfl (Nat.le_of_ble_eq_true rfl) dX2_hear_89 (fun v20 M21 h22 => ?_)
        refine j_put (pc := 92) jv1_9 gr2 kf_RX2_172 wI1 kp_X6_14 kx1_9_14 h22 rfl rfl dX2_hear_92 (fun M23 => ?_)
        refine j_iinc (pc := 95) [(0, jm_vr wd1 X 2 0), (1, jm_vr wd1 X 8 r1), (2, jm_vr wd1 X 9 r2), (3, jm_i l3)] (q := 4) dX2_hear_95 rfl (by decide) (fun _ => rfl) (fun v24 h25 => ?_)
        refine j_goto (tgt := 3) (pc := 98) dX2_hear_98 (by decide) ?_
        refine j_sub (pc := 3) [(0, jm_vr wd1 X 2 0), (1, jm_vr wd1 X 8 r1), (2, jm_vr wd1 X 9 r2), (3, jm_i l3), (4, jm_i v24)] [1, 2, 3, 4, 0] rfl ?_
        exact hk3 M23 r1 r2 l3 v24 gr1 gr2 hl3 h25
    · skip
      refine j_goto (tgt := 95) (pc := 48) dX2_hear_48 (by decide) ?_
      refine j_iinc (pc := 95) [(0, jm_vr wd1 X 2 0), (1, jm_vr wd1 X 8 r1), (2, jm_vr wd1 X 9 r2), (3, jm_i l3)] (q := 4) dX2_hear_95 rfl (by decide) (fun _ => rfl) (fun v26 h27 => ?_)
      refine j_goto (tgt := 3) (pc := 98) dX2_hear_98 (by decide) ?_
      refine j_sub (pc := 3) [(0, jm_vr wd1 X 2 0), (1, jm_vr wd1 X 8 r1), (2, jm_vr wd1 X 9 r2), (3, jm_i l3), (4, jm_i v26)] [1, 2, 3, 4, 0] rfl ?_
      exact hk3 M4 r1 r2 l3 v26 gr1 gr2 hl3 h27
theorem bX2_hear_3 (X : jm_X) (fu : Nat) : ∀ (n : Nat) (M : jm_M) (r1 r2 l3 l4 : Int) (gr1 : 0 ≤ r1 ∧ r1 < 6) (gr2 : 0 ≤ r2 ∧ r2 < 6) (hl3 : jm_in l3) (hl4 : jm_in l4), jm_J wd1 jm_qv cX2_hear 5 RX2 rmX2_hear X M [(0, jm_vr wd1 X 2 0), (1, jm_vr wd1 X 8 r1), (2, jm_vr wd1 X 9 r2), (3, jm_i l3), (4, jm_i l4)] [] 3 (fX2_hear_3 fu n M r1 r2 l3 l4) := by
  intro n
  induction n with
  | zero => intro M r1 r2 l3 l4 gr1 gr2 hl3 hl4; exact j_none
  | succ n ih => intro M r1 r2 l3 l4 gr1 gr2 hl3 hl4; exact b0X2_hear_3 X fu (fX2_hear_3 fu n) ih M r1 r2 l3 l4 gr1 gr2 hl3 hl4
set_option maxHeartbeats 4000000 in
set_option maxRecDepth 100000 in
theorem ct_X2_hear (fu : Nat) (M : jm_M) (r1 r2 l3 : Int) (gr1 : 0 ≤ r1 ∧ r1 < 6) (gr2 : 0 ≤ r2 ∧ r2 < 6) (hl3 : jm_in l3) : jm_Cv wd1 yX2_hear cX2_hear 5 none rmX2_hear M (fun G ad => [.ref (ad (jm_r wd1 2 0)), .ref (ad (jm_r wd1 8 r1)), .ref (ad (jm_r wd1 9 r2)), jm_i l3]) (fX2_hear fu M r1 r2 l3) := by
  refine jm_met_v (fun X => [(0, jm_vr wd1 X 2 0), (1, jm_vr wd1 X 8 r1), (2, jm_vr wd1 X 9 r2), (3, jm_i l3)]) (by decide) (fun _ _ => (Nat.le_of_ble_eq_true rfl)) (fun _ => rfl) (fun X => ?_)
  unfold fX2_hear
  refine j_iconst (pc := 0) dX2_hear_0 ?_
  refine j_istore (pc := 1) [(4, jm_i 0), (0, jm_vr wd1 X 2 0), (1, jm_vr wd1 X 8 r1), (2, jm_vr wd1 X 9 r2), (3, jm_i l3)] dX2_hear_1 (by decide) rfl ?_
  refine j_sub (pc := 3) [(0, jm_vr wd1 X 2 0), (1, jm_vr wd1 X 8 r1), (2, jm_vr wd1 X 9 r2), (3, jm_i l3), (4, jm_i 0)] [1, 2, 3, 4, 0] rfl ?_
  exact bX2_hear_3 X fu  fu M r1 r2 l3 0 gr1 gr2 hl3 (jm_inL (by decide) (by decide))
abbrev rmX9_slowAt : Room := { frames := 1, cells := 0, slots := 0, locals := 22 }
set_option maxHeartbeats 4000000 in
set_option maxRecDepth 100000 in
theorem b0X9_slowAt_2 (X : jm_X) (fu : Nat) (k2 : jm_M → Int → Int → jm_R) (hk2 : ∀ (M : jm_M) (l1 l2 : Int) (hl1 : jm_in l1) (hl2 : jm_in l2), jm_J wd1 (jm_qi .boolean) cX9_slowAt 3 RX9 rmX9_slowAt X M [(0, jm_vr wd1 X 1 0), (1, jm_i l1), (2, jm_i l2)] [] 2 (k2 M l1 l2)) : ∀ (M : jm_M) (l1 l2 : Int) (hl1 : jm_in l1) (hl2 : jm_in l2), jm_J wd1 (jm_qi .boolean) cX9_slowAt 3 RX9 rmX9_slowAt X M [(0, jm_vr wd1 X 1 0), (1, jm_i l1), (2, jm_i l2)] [] 2 (gX9_slowAt_2 fu k2 M l1 l2) := by
  intro M l1 l2 hl1 hl2
  unfold gX9_slowAt_2
  refine j_iload_n (pc := 2) dX9_slowAt_2 rfl (q := 2) rfl ?_
  refine j_aload_n (pc := 3) dX9_slowAt_3 rfl (q := 0) rfl ?_
  refine j_getr (pc := 4) jv1_1 jm_01 kf_RX9_37 31 kg1_1_8 rfl dX9_slowAt_4 ?_
  refine j_geti (pc := 7) jv1_10 (by omega) kf_RX9_56 kg1_10_3 dX9_slowAt_7 (fun h1 => ?_)
  refine j_icmp_ge (tgt := 60) (pc := 10) hl2 h1 dX9_slowAt_10 (by decide) (fun c2 => ?_) (fun c2 => ?_)
  · skip
    refine j_iconst (pc := 60) dX9_slowAt_60 ?_
    exact j_iret (pc := 61) (jm_inL (by decide) (by decide)) rfl dX9_slowAt_61
  · skip
    refine j_aload_n (pc := 13) dX9_slowAt_13 rfl (q := 0) rfl ?_
    refine j_getr (pc := 14) jv1_1 jm_01 kf_RX9_37 31 kg1_1_8 rfl dX9_slowAt_14 ?_
    refine j_iload_n (pc := 17) dX9_slowAt_17 rfl (q := 2) rfl ?_
    refine j_iconst (pc := 18) dX9_slowAt_18 ?_
    refine j_callVi2 (pc := 19) (ct_X7_cell M 31 l2 3 (by omega) hl2 (jm_inL (by decide) (by decide))) kg_903 km_X7_cell kv_X7_cell rfl rfl ⟨(Nat.le_of_ble_eq_true rfl), (Nat.le_of_ble_eq_true rfl)⟩ jv1_10 (by omega) ko1_10 rfl rfl (Nat.le_of_ble_eq_true rfl) dX9_slowAt_19 (fun v3 M4 h5 => ?_)
    refine j_iconst (pc := 22) dX9_slowAt_22 ?_
    refine j_icmp_ne (tgt := 54) (pc := 23) h5 (jm_inL (by decide) (by decide)) dX9_slowAt_23 (by decide) (fun c6 => ?_) (fun c6 => ?_)
    · skip
      refine j_aload_n (pc := 26) dX9_slowAt_26 rfl (q := 0) rfl ?_
      refine j_getr (pc := 27) jv1_1 jm_01 kf_RX9_37 31 kg1_1_8 rfl dX9_slowAt_27 ?_
      refine j_iload_n (pc := 30) dX9_slowAt_30 rfl (q := 2) rfl ?_
      refine j_iconst (pc := 31) dX9_slowAt_31 ?_
      refine j_callVi2 (pc := 32) (ct_X7_cell M4 31 l2 1 (by omega) hl2 (jm_inL (by decide) (by decide))) kg_903 km_X7_cell kv_X7_cell rfl rfl ⟨(Nat.le_of_ble_eq_true rfl), (Nat.le_of_ble_eq_true rfl)⟩ jv1_10 (by omega) ko1_10 rfl rfl (Nat.le_of_ble_eq_true rfl) dX9_slowAt_32 (fun v7 M8 h9 => ?_)
      refine j_iload_n (pc := 35) dX9_slowAt_35 rfl (q := 1) rfl ?_
      refine j_icmp_gt (tgt := 54) (pc := 36) h9 hl1 dX9_slowAt_36 (by decide) (fun c10 => ?_) (fun c10 => ?_)
      · skip
        refine j_iinc (pc := 54) [(0, jm_vr wd1 X 1 0), (1, jm_i l1)] (q := 2) dX9_slowAt_54 rfl (by decide) (fun _ => rfl) (fun v11 h12 => ?_)
        refine j_goto (tgt := 2) (pc := 57) dX9_slowAt_57 (by decide) ?_
        refine j_sub (pc := 2) [(0, jm_vr wd1 X 1 0), (1, jm_i l1), (2, jm_i v11)] [1, 2, 0] rfl ?_
        exact hk2 M8 l1 v11 hl1 h12
      · skip
        refine j_iload_n (pc := 39) dX9_slowAt_39 rfl (q := 1) rfl ?_
        refine j_aload_n (pc := 40) dX9_slowAt_40 rfl (q := 0) rfl ?_
        refine j_getr (pc := 41) jv1_1 jm_01 kf_RX9_37 31 kg1_1_8 rfl dX9_slowAt_41 ?_
        refine j_iload_n (pc := 44) dX9_slowAt_44 rfl (q := 2) rfl ?_
        refine j_iconst (pc := 45) dX9_slowAt_45 ?_
        refine j_callVi2 (pc := 46) (ct_X7_cell M8 31 l2 2 (by omega) hl2 (jm_inL (by decide) (by decide))) kg_903 km_X7_cell kv_X7_cell rfl rfl ⟨(Nat.le_of_ble_eq_true rfl), (Nat.le_of_ble_eq_true rfl)⟩ jv1_10 (by omega) ko1_10 rfl rfl (Nat.le_of_ble_eq_true rfl) dX9_slowAt_46 (fun v13 M14 h15 => ?_)
        refine j_icmp_ge (tgt := 54) (pc := 49) hl1 h15 dX9_slowAt_49 (by decide) (fun c16 => ?_) (fun c16 => ?_)
        · skip
          refine j_iinc (pc := 54) [(0, jm_vr wd1 X 1 0), (1, jm_i l1)] (q := 2) dX9_slowAt_54 rfl (by decide) (fun _ => rfl) (fun v17 h18 => ?_)
          refine j_goto (tgt := 2) (pc := 57) dX9_slowAt_57 (by decide) ?_
          refine j_sub (pc := 2) [(0, jm_vr wd1 X 1 0), (1, jm_i l1), (2, jm_i v17)] [1, 2, 0] rfl ?_
          exact hk2 M14 l1 v17 hl1 h18
        · skip
          refine j_iconst (pc := 52) dX9_slowAt_52 ?_
          exact j_iret (pc := 53) (jm_inL (by decide) (by decide)) rfl dX9_slowAt_53
    · skip
      refine j_iinc (pc := 54) [(0, jm_vr wd1 X 1 0), (1, jm_i l1)] (q := 2) dX9_slowAt_54 rfl (by decide) (fun _ => rfl) (fun v19 h20 => ?_)
      refine j_goto (tgt := 2) (pc := 57) dX9_slowAt_57 (by decide) ?_
      refine j_sub (pc := 2) [(0, jm_vr wd1 X 1 0), (1, jm_i l1), (2, jm_i v19)] [1, 2, 0] rfl ?_
      exact hk2 M4 l1 v19 hl1 h20
theorem bX9_slowAt_2 (X : jm_X) (fu : Nat) : ∀ (n : Nat) (M : jm_M) (l1 l2 : Int) (hl1 : jm_in l1) (hl2 : jm_in l2), jm_J wd1 (jm_qi .boolean) cX9_slowAt 3 RX9 rmX9_slowAt X M [(0, jm_vr wd1 X 1 0), (1, jm_i l1), (2, jm_i l2)] [] 2 (fX9_slowAt_2 fu n M l1 l2) := by
  intro n
  induction n with
  | zero => intro M l1 l2 hl1 hl2; exact j_none
  | succ n ih => intro M l1 l2 hl1 hl2; exact b0X9_slowAt_2 X fu (fX9_slowAt_2 fu n) ih M l1 l2 hl1 hl2
set_option maxHeartbeats 4000000 in
set_option maxRecDepth 100000 in
theorem ct_X9_slowAt (fu : Nat) (M : jm_M) (l1 : Int) (hl1 : jm_in l1) : jm_Ci wd1 yX9_slowAt cX9_slowAt 3 (some .boolean) rmX9_slowAt M (fun G ad => [.ref (ad (jm_r wd1 1 0)), jm_i l1]) (fX9_slowAt fu M l1) := by
  refine jm_met_i (fun X => [(0, jm_vr wd1 X 1 0), (1, jm_i l1)]) (by decide) (fun _ _ => (Nat.le_of_ble_eq_true rfl)) (fun _ => rfl) (fun X => ?_)
  unfold fX9_slowAt
  refine j_iconst (pc := 0) dX9_slowAt_0 ?_
  refine j_istore_n (pc := 1) [(2, jm_i 0), (0, jm_vr wd1 X 1 0), (1, jm_i l1)] dX9_slowAt_1 rfl (by decide) rfl ?_
  refine j_sub (pc := 2) [(0, jm_vr wd1 X 1 0), (1, jm_i l1), (2, jm_i 0)] [1, 2, 0] rfl ?_
  exact bX9_slowAt_2 X fu  fu M l1 0 hl1 (jm_inL (by decide) (by decide))
abbrev rmX6_age : Room := { frames := 1, cells := 0, slots := 0, locals := 21 }
set_option maxHeartbeats 4000000 in
set_option maxRecDepth 100000 in
theorem ct_X6_age (M : jm_M) (r0 : Int) (gr0 : 0 ≤ r0 ∧ r0 < 6) : jm_Ci wd1 yX6_age cX6_age 1 (some .int) rmX6_age M (fun G ad => [.ref (ad (jm_r wd1 9 r0))]) (fX6_age M r0) := by
  refine jm_met_i (fun X => [(0, jm_vr wd1 X 9 r0)]) (by decide) (fun _ _ => (Nat.le_of_ble_eq_true rfl)) (fun _ => rfl) (fun X => ?_)
  unfold fX6_age
  refine j_aload_n (pc := 0) dX6_age_0 rfl (q := 0) rfl ?_
  refine j_geti (pc := 1) jv1_9 gr0 kf_RX6_67 kg1_9_9 dX6_age_1 (fun h1 => ?_)
  refine j_iconst (pc := 4) dX6_age_4 ?_
  refine j_callNi2 (pc := 5) (ct_X11_isIndex M (M 9 r0 9) 4 h1 (jm_inL (by decide) (by decide))) (host := "RaceByLaps") (by decide) km_X11_isIndex kg_562 rfl rfl ⟨(Nat.le_of_ble_eq_true rfl), (Nat.le_of_ble_eq_true rfl)⟩ rfl rfl (Nat.le_of_ble_eq_true rfl) dX6_age_5 (fun v2 M3 h4 => ?_)
  refine j_if_eq (tgt := 23) (pc := 8) h4 dX6_age_8 (by decide) (fun c5 => ?_) (fun c5 => ?_)
  · skip
    refine j_iconst (pc := 23) dX6_age_23 ?_
    exact j_iret (pc := 24) (jm_inL (by decide) (by decide)) rfl dX6_age_24
  · skip
    refine j_aload_n (pc := 11) dX6_age_11 rfl (q := 0) rfl ?_
    refine j_getr (pc := 12) jv1_9 gr0 kf_RX6_9 r0 kg1_9_15 rfl dX6_age_12 ?_
    refine j_aload_n (pc := 15) dX6_age_15 rfl (q := 0) rfl ?_
    refine j_geti (pc := 16) jv1_9 gr0 kf_RX6_67 kg1_9_9 dX6_age_16 (fun h6 => ?_)
    refine j_iald (pc := 19) jv1_29 (by omega) rfl (by decide) ka1_29 dX6_age_19 (fun c7 h8 => ?_)
    refine j_goto (tgt := 24) (pc := 20) dX6_age_20 (by decide) ?_
    exact j_iret (pc := 24) h8 rfl dX6_age_24
abbrev rmX9_wetAt : Room := { frames := 1, cells := 0, slots := 0, locals := 22 }
set_option maxHeartbeats 4000000 in
set_option maxRecDepth 100000 in
theorem b0X9_wetAt_8 (X : jm_X) (fu : Nat) (k8 : jm_M → Int → Int → Int → Int → Int → jm_R) (hk8 : ∀ (M : jm_M) (l1 l2 l3 l4 l5 : Int) (hl1 : jm_in l1) (hl2 : jm_in l2) (hl3 : jm_in l3) (hl4 : jm_in l4) (hl5 : jm_in l5), jm_J wd1 (jm_qi .int) cX9_wetAt 7 RX9 rmX9_wetAt X M [(0, jm_vr wd1 X 1 0), (1, jm_i l1), (2, jm_i l2), (3, jm_i l3), (4, jm_i l4), (5, jm_i l5)] [] 8 (k8 M l1 l2 l3 l4 l5)) : ∀ (M : jm_M) (l1 l2 l3 l4 l5 : Int) (hl1 : jm_in l1) (hl2 : jm_in l2) (hl3 : jm_in l3) (hl4 : jm_in l4) (hl5 : jm_in l5), jm_J wd1 (jm_qi .int) cX9_wetAt 7 RX9 rmX9_wetAt X M [(0, jm_vr wd1 X 1 0), (1, jm_i l1), (2, jm_i l2), (3, jm_i l3), (4, jm_i l4), (5, jm_i l5)] [] 8 (gX9_wetAt_8 fu k8 M l1 l2 l3 l4 l5) := by
  intro M l1 l2 l3 l4 l5 hl1 hl2 hl3 hl4 hl5
  unfold gX9_wetAt_8
  refine j_iload (pc := 8) dX9_wetAt_8 (q := 5) rfl ?_
  refine j_aload_n (pc := 10) dX9_wetAt_10 rfl (q := 0) rfl ?_
  refine j_getr (pc := 11) jv1_1 jm_01 kf_RX9_33 30 kg1_1_7 rfl dX9_wetAt_11 ?_
  refine j_geti (pc := 14) jv1_10 (by omega) kf_RX9_56 kg1_10_3 dX9_wetAt_14 (fun h1 => ?_)
  refine j_icmp_ge (tgt := 80) (pc := 17) hl5 h1 dX9_wetAt_17 (by decide) (fun c2 => ?_) (fun c2 => ?_)
  · skip
    refine j_iload_n (pc := 80) dX9_wetAt_80 rfl (q := 3) rfl ?_
    exact j_iret (pc := 81) hl3 rfl dX9_wetAt_81
  · skip
    refine j_aload_n (pc := 20) dX9_wetAt_20 rfl (q := 0) rfl ?_
    refine j_getr (pc := 21) jv1_1 jm_01 kf_RX9_33 30 kg1_1_7 rfl dX9_wetAt_21 ?_
    refine j_iload (pc := 24) dX9_wetAt_24 (q := 5) rfl ?_
    refine j_iconst (pc := 26) dX9_wetAt_26 ?_
    refine j_callVi2 (pc := 27) (ct_X7_cell M 30 l5 1 (by omega) hl5 (jm_inL (by decide) (by decide))) kg_903 km_X7_cell kv_X7_cell rfl rfl ⟨(Nat.le_of_ble_eq_true rfl), (Nat.le_of_ble_eq_true rfl)⟩ jv1_10 (by omega) ko1_10 rfl rfl (Nat.le_of_ble_eq_true rfl) dX9_wetAt_27 (fun v3 M4 h5 => ?_)
    refine j_istore (pc := 30) [(6, jm_i v3), (0, jm_vr wd1 X 1 0), (1, jm_i l1), (2, jm_i l2), (3, jm_i l3), (4, jm_i l4), (5, jm_i l5)] dX9_wetAt_30 (by decide) rfl ?_
    refine j_aload_n (pc := 32) dX9_wetAt_32 rfl (q := 1) rfl ?_
    refine j_getr (pc := 33) jv1_1 jm_01 kf_RX9_33 30 kg1_1_7 rfl dX9_wetAt_33 ?_
    refine j_iload (pc := 36) dX9_wetAt_36 (q := 6) rfl ?_
    refine j_iconst (pc := 38) dX9_wetAt_38 ?_
    refine j_callVi2 (pc := 39) (ct_X7_cell M4 30 l5 0 (by omega) hl5 (jm_inL (by decide) (by decide))) kg_903 km_X7_cell kv_X7_cell rfl rfl ⟨(Nat.le_of_ble_eq_true rfl), (Nat.le_of_ble_eq_true rfl)⟩ jv1_10 (by omega) ko1_10 rfl rfl (Nat.le_of_ble_eq_true rfl) dX9_wetAt_39 (fun v6 M7 h8 => ?_)
    refine j_iload_n (pc := 42) dX9_wetAt_42 rfl (q := 2) rfl ?_
    refine j_icmp_ne (tgt := 74) (pc := 43) h8 hl1 dX9_wetAt_43 (by decide) (fun c9 => ?_) (fun c9 => ?_)
    · skip
      refine j_iload (pc := 46) dX9_wetAt_46 (q := 0) rfl ?_
      refine j_iload_n (pc := 48) dX9_wetAt_48 rfl (q := 3) rfl ?_
      refine j_icmp_gt (tgt := 74) (pc := 49) h5 hl2 dX9_wetAt_49 (by decide) (fun c10 => ?_) (fun c10 => ?_)
      · skip
        refine j_iinc (pc := 74) [(6, jm_i v3), (0, jm_vr wd1 X 1 0), (1, jm_i l1), (2, jm_i l2), (3, jm_i l3), (4, jm_i l4)] (q := 6) dX9_wetAt_74 rfl (by decide) (fun _ => rfl) (fun v11 h12 => ?_)
        refine j_goto (tgt := 8) (pc := 77) dX9_wetAt_77 (by decide) ?_
        refine j_sub (pc := 8) [(0, jm_vr wd1 X 1 0), (1, jm_i l1), (2, jm_i l2), (3, jm_i l3), (4, jm_i l4), (5, jm_i v11)] [2, 3, 4, 5, 6, 0] rfl ?_
        exact hk8 M7 l1 l2 l3 l4 v11 hl1 hl2 hl3 hl4 h12
      · skip
        refine j_iload (pc := 52) dX9_wetAt_52 (q := 0) rfl ?_
        refine j_iload (pc := 54) dX9_wetAt_54 (q := 5) rfl ?_
        refine j_icmp_lt (tgt := 74) (pc := 56) h5 hl4 dX9_wetAt_56 (by decide) (fun c13 => ?_) (fun c13 => ?_)
        · skip
          refine j_iinc (pc := 74) [(6, jm_i v3), (0, jm_vr wd1 X 1 0), (1, jm_i l1), (2, jm_i l2), (3, jm_i l3), (4, jm_i l4)] (q := 6) dX9_wetAt_74 rfl (by decide) (fun _ => rfl) (fun v14 h15 => ?_)
          refine j_goto (tgt := 8) (pc := 77) dX9_wetAt_77 (by decide) ?_
          refine j_sub (pc := 8) [(0, jm_vr wd1 X 1 0), (1, jm_i l1), (2, jm_i l2), (3, jm_i l3), (4, jm_i l4), (5, jm_i v14)] [2, 3, 4, 5, 6, 0] rfl ?_
          exact hk8 M7 l1 l2 l3 l4 v14 hl1 hl2 hl3 hl4 h15
        · skip
          refine j_iload (pc := 59) dX9_wetAt_59 (q := 0) rfl ?_
          refine j_istore (pc := 61) [(4, jm_i v3), (6, jm_i v3), (0, jm_vr wd1 X 1 0), (1, jm_i l1), (2, jm_i l2), (3, jm_i l3), (5, jm_i l5)] dX9_wetAt_61 (by decide) rfl ?_
          refine j_aload_n (pc := 63) dX9_wetAt_63 rfl (q := 2) rfl ?_
          refine j_getr (pc := 64) jv1_1 jm_01 kf_RX9_33 30 kg1_1_7 rfl dX9_wetAt_64 ?_
          refine j_iload (pc := 67) dX9_wetAt_67 (q := 6) rfl ?_
          refine j_iconst (pc := 69) dX9_wetAt_69 ?_
          refine j_callVi2 (pc := 70) (ct_X7_cell M7 30 l5 2 (by omega) hl5 (jm_inL (by decide) (by decide))) kg_903 km_X7_cell kv_X7_cell rfl rfl ⟨(Nat.le_of_ble_eq_true rfl), (Nat.le_of_ble_eq_true rfl)⟩ jv1_10 (by omega) ko1_10 rfl rfl (Nat.le_of_ble_eq_true rfl) dX9_wetAt_70 (fun v16 M17 h18 => ?_)
          refine j_istore_n (pc := 73) [(3, jm_i v16), (4, jm_i v3), (6, jm_i v3), (0, jm_vr wd1 X 1 0), (1, jm_i l1), (2, jm_i l2), (5, jm_i l5)] dX9_wetAt_73 rfl (by decide) rfl ?_
          refine j_iinc (pc := 74) [(3, jm_i v16), (4, jm_i v3), (6, jm_i v3), (0, jm_vr wd1 X 1 0), (1, jm_i l1), (2, jm_i l2)] (q := 6) dX9_wetAt_74 rfl (by decide) (fun _ => rfl) (fun v19 h20 => ?_)
          refine j_goto (tgt := 8) (pc := 77) dX9_wetAt_77 (by decide) ?_
          refine j_sub (pc := 8) [(0, jm_vr wd1 X 1 0), (1, jm_i l1), (2, jm_i l2), (3, jm_i v16), (4, jm_i v3), (5, jm_i v19)] [4, 5, 6, 1, 2, 0] rfl ?_
          exact hk8 M17 l1 l2 v16 v3 v19 hl1 hl2 h18 h5 h20
    · skip
      refine j_iinc (pc := 74) [(6, jm_i v3), (0, jm_vr wd1 X 1 0), (1, jm_i l1), (2, jm_i l2), (3, jm_i l3), (4, jm_i l4)] (q := 6) dX9_wetAt_74 rfl (by decide) (fun _ => rfl) (fun v21 h22 => ?_)
      refine j_goto (tgt := 8) (pc := 77) dX9_wetAt_77 (by decide) ?_
      refine j_sub (pc := 8) [(0, jm_vr wd1 X 1 0), (1, jm_i l1), (2, jm_i l2), (3, jm_i l3), (4, jm_i l4), (5, jm_i v21)] [2, 3, 4, 5, 6, 0] rfl ?_
      exact hk8 M7 l1 l2 l3 l4 v21 hl1 hl2 hl3 hl4 h22
theorem bX9_wetAt_8 (X : jm_X) (fu : Nat) : ∀ (n : Nat) (M : jm_M) (l1 l2 l3 l4 l5 : Int) (hl1 : jm_in l1) (hl2 : jm_in l2) (hl3 : jm_in l3) (hl4 : jm_in l4) (hl5 : jm_in l5), jm_J wd1 (jm_qi .int) cX9_wetAt 7 RX9 rmX9_wetAt X M [(0, jm_vr wd1 X 1 0), (1, jm_i l1), (2, jm_i l2), (3, jm_i l3), (4, jm_i l4), (5, jm_i l5)] [] 8 (fX9_wetAt_8 fu n M l1 l2 l3 l4 l5) := by
  intro n
  induction n with
  | zero => intro M l1 l2 l3 l4 l5 hl1 hl2 hl3 hl4 hl5; exact j_none
  | succ n ih => intro M l1 l2 l3 l4 l5 hl1 hl2 hl3 hl4 hl5; exact b0X9_wetAt_8 X fu (fX9_wetAt_8 fu n) ih M l1 l2 l3 l4 l5 hl1 hl2 hl3 hl4 hl5
set_option maxHeartbeats 4000000 in
set_option maxRecDepth 100000 in
theorem ct_X9_wetAt (fu : Nat) (M : jm_M) (l1 l2 : Int) (hl1 : jm_in l1) (hl2 : jm_in l2) : jm_Ci wd1 yX9_wetAt cX9_wetAt 7 (some .int) rmX9_wetAt M (fun G ad => [.ref (ad (jm_r wd1 1 0)), jm_i l1, jm_i l2]) (fX9_wetAt fu M l1 l2) := by
  refine jm_met_i (fun X => [(0, jm_vr wd1 X 1 0), (1, jm_i l1), (2, jm_i l2)]) (by decide) (fun _ _ => (Nat.le_of_ble_eq_true rfl)) (fun _ => rfl) (fun X => ?_)
  unfold fX9_wetAt
  refine j_iconst (pc := 0) dX9_wetAt_0 ?_
  refine j_istore_n (pc := 1) [(3, jm_i 0), (0, jm_vr wd1 X 1 0), (1, jm_i l1), (2, jm_i l2)] dX9_wetAt_1 rfl (by decide) rfl ?_
  refine j_iconst (pc := 2) dX9_wetAt_2 ?_
  refine j_istore (pc := 3) [(4, jm_i 0), (3, jm_i 0), (0, jm_vr wd1 X 1 0), (1, jm_i l1), (2, jm_i l2)] dX9_wetAt_3 (by decide) rfl ?_
  refine j_iconst (pc := 5) dX9_wetAt_5 ?_
  refine j_istore (pc := 6) [(5, jm_i 0), (4, jm_i 0), (3, jm_i 0), (0, jm_vr wd1 X 1 0), (1, jm_i l1), (2, jm_i l2)] dX9_wetAt_6 (by decide) rfl ?_
  refine j_sub (pc := 8) [(0, jm_vr wd1 X 1 0), (1, jm_i l1), (2, jm_i l2), (3, jm_i 0), (4, jm_i 0), (5, jm_i 0)] [3, 4, 5, 2, 1, 0] rfl ?_
  exact bX9_wetAt_8 X fu  fu M l1 l2 0 0 0 hl1 hl2 (jm_inL (by decide) (by decide)) (jm_inL (by decide) (by decide)) (jm_inL (by decide) (by decide))
abbrev rmX2_freeTime : Room := { frames := 2, cells := 0, slots := 0, locals := 48 }
set_option maxHeartbeats 4000000 in
set_option maxRecDepth 100000 in
theorem bX2_freeTime_136 (X : jm_X) (fu : Nat) : ∀ (M : jm_M) (r2 l5 l7 l8 : Int) (gr2 : 0 ≤ r2 ∧ r2 < 6) (hl5 : jm_in l5) (hl7 : jm_in l7) (hl8 : jm_in l8), jm_J wd1 (jm_qi .int) cX2_freeTime 9 RX2 rmX2_freeTime X M [(0, jm_vr wd1 X 2 0), (2, jm_vr wd1 X 9 r2), (5, jm_i l5), (7, jm_i l7), (8, jm_i l8)] [] 136 (gX2_freeTime_136 fu M r2 l5 l7 l8) := by
  intro M r2 l5 l7 l8 gr2 hl5 hl7 hl8
  unfold gX2_freeTime_136
  refine j_iload (pc := 136) dX2_freeTime_136 (q := 4) rfl ?_
  refine j_aload_n (pc := 138) dX2_freeTime_138 rfl (q := 0) rfl ?_
  refine j_getr (pc := 139) jv1_2 jm_01 kf_RX2_9 0 kg1_2_0 rfl dX2_freeTime_139 ?_
  refine j_iload (pc := 142) dX2_freeTime_142 (q := 2) rfl ?_
  refine j_iconst (pc := 144) dX2_freeTime_144 ?_
  refine j_callVi2 (pc := 145) (ct_X9_tyreNumber M l5 5 hl5 (jm_inL (by decide) (by decide))) kg_921 km_X9_tyreNumber kv_X9_tyreNumber rfl rfl ⟨(Nat.le_of_ble_eq_true rfl), (Nat.le_of_ble_eq_true rfl)⟩ jv1_1 jm_01 ko1_1 rfl rfl (Nat.le_of_ble_eq_true rfl) dX2_freeTime_145 (fun v1 M2 h3 => ?_)
  refine j_iload (pc := 148) dX2_freeTime_148 (q := 3) rfl ?_
  refine j_imul (pc := 150) dX2_freeTime_150 ?_
  refine j_aload_n (pc := 151) dX2_freeTime_151 rfl (q := 0) rfl ?_
  refine j_getr (pc := 152) jv1_2 jm_01 kf_RX2_9 0 kg1_2_0 rfl dX2_freeTime_152 ?_
  refine j_getr (pc := 155) jv1_1 jm_01 kf_RX2_70 0 kg1_1_6 rfl dX2_freeTime_155 ?_
  refine j_iconst (pc := 158) dX2_freeTime_158 ?_
  refine j_iald (pc := 159) jv1_18 jm_01 rfl (by decide) ka1_18 dX2_freeTime_159 (fun c4 h5 => ?_)
  refine j_aload_n (pc := 160) dX2_freeTime_160 rfl (q := 1) rfl ?_
  refine j_geti (pc := 161) jv1_9 gr2 kf_RX2_128 kg1_9_13 dX2_freeTime_161 (fun h6 => ?_)
  refine j_imul (pc := 164) dX2_freeTime_164 ?_
  refine j_iadd (pc := 165) dX2_freeTime_165 ?_
  refine j_iadd (pc := 166) dX2_freeTime_166 ?_
  refine j_nm (pc := 167) (jm_w_in _) (fun v7 h8 => ?_)
  refine j_istore (pc := 167) [(8, jm_i v7), (0, jm_vr wd1 X 2 0), (2, jm_vr wd1 X 9 r2), (5, jm_i l5), (7, jm_i l7)] dX2_freeTime_167 (by decide) rfl ?_
  refine j_sipush (pc := 169) 1000 dX2_freeTime_169 (by decide) ?_
  refine j_iload (pc := 172) dX2_freeTime_172 (q := 0) rfl ?_
  refine j_mmax (pc := 174) (jm_inL (by decide) (by decide)) h8 kg_925 kg_61 kg_5 kg_62 ⟨(Nat.le_of_ble_eq_true rfl), (Nat.le_of_ble_eq_true rfl)⟩ (Nat.le_of_ble_eq_true rfl) dX2_freeTime_174 ?_
  exact j_iret (pc := 177) (jm_max_in (jm_inL (by decide) (by decide)) h8) rfl dX2_freeTime_177
set_option maxHeartbeats 4000000 in
set_option maxRecDepth 100000 in
theorem ct_X2_freeTime (fu : Nat) (M : jm_M) (r1 r2 l3 l4 : Int) (gr1 : 0 ≤ r1 ∧ r1 < 6) (gr2 : 0 ≤ r2 ∧ r2 < 6) (hl3 : jm_in l3) (hl4 : jm_in l4) : jm_Ci wd1 yX2_freeTime cX2_freeTime 9 (some .int) rmX2_freeTime M (fun G ad => [.ref (ad (jm_r wd1 2 0)), .ref (ad (jm_r wd1 8 r1)), .ref (ad (jm_r wd1 9 r2)), jm_i l3, jm_i l4]) (fX2_freeTime fu M r1 r2 l3 l4) := by
  refine jm_met_i (fun X => [(0, jm_vr wd1 X 2 0), (1, jm_vr wd1 X 8 r1), (2, jm_vr wd1 X 9 r2), (3, jm_i l3), (4, jm_i l4)]) (by decide) (fun _ _ => (Nat.le_of_ble_eq_true rfl)) (fun _ => rfl) (fun X => ?_)
  unfold fX2_freeTime
  refine j_aload_n (pc := 0) dX2_freeTime_0 rfl (q := 1) rfl ?_
  refine j_getr (pc := 1) jv1_8 gr1 kf_RX2_115 r1 kg1_8_6 rfl dX2_freeTime_1 ?_
  refine j_aload_n (pc := 4) dX2_freeTime_4 rfl (q := 2) rfl ?_
  refine j_geti (pc := 5) jv1_9 gr2 kf_RX2_118 kg1_9_9 dX2_freeTime_5 (fun h1 => ?_)
  refine j_iconst (pc := 8) dX2_freeTime_8 ?_
  refine j_callVi2 (pc := 9) (ct_X7_cell M r1 (M 9 r2 9) 0 (by omega) h1 (jm_inL (by decide) (by decide))) kg_894 km_X7_cell kv_X7_cell rfl rfl ⟨(Nat.le_of_ble_eq_true rfl), (Nat.le_of_ble_eq_true rfl)⟩ jv1_10 (by omega) ko1_10 rfl rfl (Nat.le_of_ble_eq_true rfl) dX2_freeTime_9 (fun v2 M3 h4 => ?_)
  refine j_istore (pc := 12) [(5, jm_i v2), (0, jm_vr wd1 X 2 0), (1, jm_vr wd1 X 8 r1), (2, jm_vr wd1 X 9 r2), (3, jm_i l3), (4, jm_i l4)] dX2_freeTime_12 (by decide) rfl ?_
  refine j_aload_n (pc := 14) dX2_freeTime_14 rfl (q := 3) rfl ?_
  refine j_callVi0 (pc := 15) (ct_X6_age M3 r2 gr2) kg_912 km_X6_age kv_X6_age rfl rfl ⟨(Nat.le_of_ble_eq_true rfl), (Nat.le_of_ble_eq_true rfl)⟩ jv1_9 gr2 ko1_9 rfl rfl (Nat.le_of_ble_eq_true rfl) dX2_freeTime_15 (fun v5 M6 h7 => ?_)
  refine j_istore (pc := 18) [(6, jm_i v5), (5, jm_i v2), (0, jm_vr wd1 X 2 0), (1, jm_vr wd1 X 8 r1), (2, jm_vr wd1 X 9 r2), (3, jm_i l3), (4, jm_i l4)] dX2_freeTime_18 (by decide) rfl ?_
  refine j_aload_n (pc := 20) dX2_freeTime_20 rfl (q := 2) rfl ?_
  refine j_getr (pc := 21) jv1_2 jm_01 kf_RX2_9 0 kg1_2_0 rfl dX2_freeTime_21 ?_
  refine j_iload_n (pc := 24) dX2_freeTime_24 rfl (q := 5) rfl ?_
  refine j_iload (pc := 25) dX2_freeTime_25 (q := 6) rfl ?_
  refine j_callVi2 (pc := 27) (ct_X9_wetAt fu M6 l3 l4 hl3 hl4) kg_917 km_X9_wetAt kv_X9_wetAt rfl rfl ⟨(Nat.le_of_ble_eq_true rfl), (Nat.le_of_ble_eq_true rfl)⟩ jv1_1 jm_01 ko1_1 rfl rfl (Nat.le_of_ble_eq_true rfl) dX2_freeTime_27 (fun v8 M9 h10 => ?_)
  refine j_aload_n (pc := 30) dX2_freeTime_30 rfl (q := 2) rfl ?_
  refine j_getr (pc := 31) jv1_2 jm_01 kf_RX2_9 0 kg1_2_0 rfl dX2_freeTime_31 ?_
  refine j_iload (pc := 34) dX2_freeTime_34 (q := 1) rfl ?_
  refine j_iconst (pc := 36) dX2_freeTime_36 ?_
  refine j_callVi2 (pc := 37) (ct_X9_tyreNumber M9 v2 4 h4 (jm_inL (by decide) (by decide))) kg_921 km_X9_tyreNumber kv_X9_tyreNumber rfl rfl ⟨(Nat.le_of_ble_eq_true rfl), (Nat.le_of_ble_eq_true rfl)⟩ jv1_1 jm_01 ko1_1 rfl rfl (Nat.le_of_ble_eq_true rfl) dX2_freeTime_37 (fun v11 M12 h13 => ?_)
  refine j_isub (pc := 40) dX2_freeTime_40 ?_
  refine j_mabs (pc := 41) (jm_w_in _) kg_922 kg_923 kg_5 kg_924 ⟨(Nat.le_of_ble_eq_true rfl), (Nat.le_of_ble_eq_true rfl)⟩ (Nat.le_of_ble_eq_true rfl) dX2_freeTime_41 ?_
  refine j_nm (pc := 44) (jm_abs_in (jm_w_in _)) (fun v14 h15 => ?_)
  refine j_istore (pc := 44) [(7, jm_i v14), (6, jm_i v5), (5, jm_i v2), (0, jm_vr wd1 X 2 0), (1, jm_vr wd1 X 8 r1), (2, jm_vr wd1 X 9 r2), (3, jm_i l3), (4, jm_i l4)] dX2_freeTime_44 (by decide) rfl ?_
  refine j_aload_n (pc := 46) dX2_freeTime_46 rfl (q := 3) rfl ?_
  refine j_getr (pc := 47) jv1_2 jm_01 kf_RX2_9 0 kg1_2_0 rfl dX2_freeTime_47 ?_
  refine j_getr (pc := 50) jv1_1 jm_01 kf_RX2_175 0 kg1_1_2 rfl dX2_freeTime_50 ?_
  refine j_iload_n (pc := 53) dX2_freeTime_53 rfl (q := 6) rfl ?_
  refine j_iald (pc := 54) jv1_14 jm_01 rfl (by decide) ka1_14 dX2_freeTime_54 (fun c16 h17 => ?_)
  refine j_aload_n (pc := 55) dX2_freeTime_55 rfl (q := 4) rfl ?_
  refine j_geti (pc := 56) jv1_8 gr1 kf_RX2_192 kg1_8_0 dX2_freeTime_56 (fun h18 => ?_)
  refine j_iadd (pc := 59) dX2_freeTime_59 ?_
  refine j_aload_n (pc := 60) dX2_freeTime_60 rfl (q := 3) rfl ?_
  refine j_getr (pc := 61) jv1_2 jm_01 kf_RX2_9 0 kg1_2_0 rfl dX2_freeTime_61 ?_
  refine j_getr (pc := 64) jv1_1 jm_01 kf_RX2_70 0 kg1_1_6 rfl dX2_freeTime_64 ?_
  refine j_iconst (pc := 67) dX2_freeTime_67 ?_
  refine j_iald (pc := 68) jv1_18 jm_01 rfl (by decide) ka1_18 dX2_freeTime_68 (fun c19 h20 => ?_)
  refine j_aload_n (pc := 69) dX2_freeTime_69 rfl (q := 5) rfl ?_
  refine j_geti (pc := 70) jv1_9 gr2 kf_RX2_131 kg1_9_8 dX2_freeTime_70 (fun h21 => ?_)
  refine j_imul (pc := 73) dX2_freeTime_73 ?_
  refine j_iadd (pc := 74) dX2_freeTime_74 ?_
  refine j_nm (pc := 75) (jm_w_in _) (fun v22 h23 => ?_)
  refine j_istore (pc := 75) [(8, jm_i v22), (7, jm_i v14), (6, jm_i v5), (5, jm_i v2), (0, jm_vr wd1 X 2 0), (1, jm_vr wd1 X 8 r1), (2, jm_vr wd1 X 9 r2), (3, jm_i l3), (4, jm_i l4)] dX2_freeTime_75 (by decide) rfl ?_
  refine j_iload (pc := 77) dX2_freeTime_77 (q := 0) rfl ?_
  refine j_aload_n (pc := 79) dX2_freeTime_79 rfl (q := 4) rfl ?_
  refine j_getr (pc := 80) jv1_2 jm_01 kf_RX2_9 0 kg1_2_0 rfl dX2_freeTime_80 ?_
  refine j_iload (pc := 83) dX2_freeTime_83 (q := 3) rfl ?_
  refine j_iconst (pc := 85) dX2_freeTime_85 ?_
  refine j_callVi2 (pc := 86) (ct_X9_tyreNumber M12 v2 0 h4 (jm_inL (by decide) (by decide))) kg_921 km_X9_tyreNumber kv_X9_tyreNumber rfl rfl ⟨(Nat.le_of_ble_eq_true rfl), (Nat.le_of_ble_eq_true rfl)⟩ jv1_1 jm_01 ko1_1 rfl rfl (Nat.le_of_ble_eq_true rfl) dX2_freeTime_86 (fun v24 M25 h26 => ?_)
  refine j_aload_n (pc := 89) dX2_freeTime_89 rfl (q := 4) rfl ?_
  refine j_getr (pc := 90) jv1_2 jm_01 kf_RX2_9 0 kg1_2_0 rfl dX2_freeTime_90 ?_
  refine j_iload (pc := 93) dX2_freeTime_93 (q := 3) rfl ?_
  refine j_iconst (pc := 95) dX2_freeTime_95 ?_
  refine j_callVi2 (pc := 96) (ct_X9_tyreNumber M25 v2 1 h4 (jm_inL (by decide) (by decide))) kg_921 km_X9_tyreNumber kv_X9_tyreNumber rfl rfl ⟨(Nat.le_of_ble_eq_true rfl), (Nat.le_of_ble_eq_true rfl)⟩ jv1_1 jm_01 ko1_1 rfl rfl (Nat.le_of_ble_eq_true rfl) dX2_freeTime_96 (fun v27 M28 h29 => ?_)
  refine j_iload (pc := 99) dX2_freeTime_99 (q := 2) rfl ?_
  refine j_imul (pc := 101) dX2_freeTime_101 ?_
  refine j_iadd (pc := 102) dX2_freeTime_102 ?_
  refine j_iadd (pc := 103) dX2_freeTime_103 ?_
  refine j_nm (pc := 104) (jm_w_in _) (fun v30 h31 => ?_)
  refine j_istore (pc := 104) [(8, jm_i v30), (7, jm_i v14), (6, jm_i v5), (5, jm_i v2), (0, jm_vr wd1 X 2 0), (1, jm_vr wd1 X 8 r1), (2, jm_vr wd1 X 9 r2), (3, jm_i l3), (4, jm_i l4)] dX2_freeTime_104 (by decide) rfl ?_
  refine j_iload (pc := 106) dX2_freeTime_106 (q := 2) rfl ?_
  refine j_aload_n (pc := 108) dX2_freeTime_108 rfl (q := 4) rfl ?_
  refine j_getr (pc := 109) jv1_2 jm_01 kf_RX2_9 0 kg1_2_0 rfl dX2_freeTime_109 ?_
  refine j_iload (pc := 112) dX2_freeTime_112 (q := 3) rfl ?_
  refine j_iconst (pc := 114) dX2_freeTime_114 ?_
  refine j_callVi2 (pc := 115) (ct_X9_tyreNumber M28 v2 2 h4 (jm_inL (by decide) (by decide))) kg_921 km_X9_tyreNumber kv_X9_tyreNumber rfl rfl ⟨(Nat.le_of_ble_eq_true rfl), (Nat.le_of_ble_eq_true rfl)⟩ jv1_1 jm_01 ko1_1 rfl rfl (Nat.le_of_ble_eq_true rfl) dX2_freeTime_115 (fun v32 M33 h34 => ?_)
  refine j_icmp_lt (tgt := 136) (pc := 118) h7 h34 dX2_freeTime_118 (by decide) (fun c35 => ?_) (fun c35 => ?_)
  · skip
    refine j_sub (pc := 136) [(0, jm_vr wd1 X 2 0), (2, jm_vr wd1 X 9 r2), (5, jm_i v2), (7, jm_i v14), (8, jm_i v30)] [4, 6, 3, 1, 0] rfl ?_
    exact bX2_freeTime_136 X fu  M33 r2 v2 v14 v30 gr2 h4 h15 h31
  · skip
    refine j_iload (pc := 121) dX2_freeTime_121 (q := 0) rfl ?_
    refine j_aload_n (pc := 123) dX2_freeTime_123 rfl (q := 4) rfl ?_
    refine j_getr (pc := 124) jv1_2 jm_01 kf_RX2_9 0 kg1_2_0 rfl dX2_freeTime_124 ?_
    refine j_iload (pc := 127) dX2_freeTime_127 (q := 3) rfl ?_
    refine j_iconst (pc := 129) dX2_freeTime_129 ?_
    refine j_callVi2 (pc := 130) (ct_X9_tyreNumber M33 v2 3 h4 (jm_inL (by decide) (by decide))) kg_921 km_X9_tyreNumber kv_X9_tyreNumber rfl rfl ⟨(Nat.le_of_ble_eq_true rfl), (Nat.le_of_ble_eq_true rfl)⟩ jv1_1 jm_01 ko1_1 rfl rfl (Nat.le_of_ble_eq_true rfl) dX2_freeTime_130 (fun v36 M37 h38 => ?_)
    refine j_iadd (pc := 133) dX2_freeTime_133 ?_
    refine j_nm (pc := 134) (jm_w_in _) (fun v39 h40 => ?_)
    refine j_istore (pc := 134) [(8, jm_i v39), (7, jm_i v14), (6, jm_i v5), (5, jm_i v2), (0, jm_vr wd1 X 2 0), (1, jm_vr wd1 X 8 r1), (2, jm_vr wd1 X 9 r2), (3, jm_i l3), (4, jm_i l4)] dX2_freeTime_134 (by decide) rfl ?_
    refine j_sub (pc := 136) [(0, jm_vr wd1 X 2 0), (2, jm_vr wd1 X 9 r2), (5, jm_i v2), (7, jm_i v14), (8, jm_i v39)] [4, 6, 3, 1, 0] rfl ?_
    exact bX2_freeTime_136 X fu  M37 r2 v2 v14 v39 gr2 h4 h15 h40
abbrev rmX6_wear : Room := { frames := 1, cells := 0, slots := 0, locals := 21 }
set_option maxHeartbeats 4000000 in
set_option maxRecDepth 100000 in
theorem ct_X6_wear (M : jm_M) (r0 : Int) (gr0 : 0 ≤ r0 ∧ r0 < 6) : jm_Cv wd1 yX6_wear cX6_wear 1 none rmX6_wear M (fun G ad => [.ref (ad (jm_r wd1 9 r0))]) (fX6_wear M r0) := by
  refine jm_met_v (fun X => [(0, jm_vr wd1 X 9 r0)]) (by decide) (fun _ _ => (Nat.le_of_ble_eq_true rfl)) (fun _ => rfl) (fun X => ?_)
  unfold fX6_wear
  refine j_aload_n (pc := 0) dX6_wear_0 rfl (q := 0) rfl ?_
  refine j_geti (pc := 1) jv1_9 gr0 kf_RX6_67 kg1_9_9 dX6_wear_1 (fun h1 => ?_)
  refine j_iconst (pc := 4) dX6_wear_4 ?_
  refine j_callNi2 (pc := 5) (ct_X11_isIndex M (M 9 r0 9) 4 h1 (jm_inL (by decide) (by decide))) (host := "RaceByLaps") (by decide) km_X11_isIndex kg_562 rfl rfl ⟨(Nat.le_of_ble_eq_true rfl), (Nat.le_of_ble_eq_true rfl)⟩ rfl rfl (Nat.le_of_ble_eq_true rfl) dX6_wear_5 (fun v2 M3 h4 => ?_)
  refine j_if_eq (tgt := 36) (pc := 8) h4 dX6_wear_8 (by decide) (fun c5 => ?_) (fun c5 => ?_)
  · skip
    exact j_vret (pc := 36) dX6_wear_36
  · skip
    refine j_aload_n (pc := 11) dX6_wear_11 rfl (q := 0) rfl ?_
    refine j_getr (pc := 12) jv1_9 gr0 kf_RX6_9 r0 kg1_9_15 rfl dX6_wear_12 ?_
    refine j_aload_n (pc := 15) dX6_wear_15 rfl (q := 0) rfl ?_
    refine j_geti (pc := 16) jv1_9 gr0 kf_RX6_67 kg1_9_9 dX6_wear_16 (fun h6 => ?_)
    refine j_dup2 (pc := 19) dX6_wear_19 rfl rfl ?_
    refine j_iald (pc := 20) jv1_29 (by omega) rfl (by decide) ka1_29 dX6_wear_20 (fun c7 h8 => ?_)
    refine j_aload_n (pc := 21) dX6_wear_21 rfl (q := 0) rfl ?_
    refine j_geti (pc := 22) jv1_9 gr0 kf_RX6_79 kg1_9_13 dX6_wear_22 (fun h9 => ?_)
    refine j_iconst (pc := 25) dX6_wear_25 ?_
    refine j_icmp_ne (tgt := 33) (pc := 26) h9 (jm_inL (by decide) (by decide)) dX6_wear_26 (by decide) (fun c10 => ?_) (fun c10 => ?_)
    · skip
      refine j_iconst (pc := 29) dX6_wear_29 ?_
      refine j_goto (tgt := 34) (pc := 30) dX6_wear_30 (by decide) ?_
      refine j_iadd (pc := 34) dX6_wear_34 ?_
      refine j_iast (pc := 35) jv1_29 (by omega) rfl (by decide) wI1 ka1_29 (jm_w_in _) dX6_wear_35 (fun c11 M12 => ?_)
      exact j_vret (pc := 36) dX6_wear_36
    · skip
      refine j_iconst (pc := 33) dX6_wear_33 ?_
      refine j_iadd (pc := 34) dX6_wear_34 ?_
      refine j_iast (pc := 35) jv1_29 (by omega) rfl (by decide) wI1 ka1_29 (jm_w_in _) dX6_wear_35 (fun c13 M14 => ?_)
      exact j_vret (pc := 36) dX6_wear_36
abbrev rmX2_slowTime : Room := { frames := 0, cells := 0, slots := 0, locals := 0 }
set_option maxHeartbeats 4000000 in
set_option maxRecDepth 100000 in
theorem bX2_slowTime_70 (X : jm_X) (fu : Nat) : ∀ (M : jm_M) (l2 l3 : Int) (hl2 : jm_in l2) (hl3 : jm_in l3), jm_J wd1 (jm_qi .int) cX2_slowTime 5 RX2 rmX2_slowTime X M [(0, jm_vr wd1 X 2 0), (2, jm_i l2), (3, jm_i l3)] [] 70 (gX2_slowTime_70 fu M l2 l3) := by
  intro M l2 l3 hl2 hl3
  unfold gX2_slowTime_70
  refine j_aload_n (pc := 70) dX2_slowTime_70 rfl (q := 0) rfl ?_
  refine j_getr (pc := 71) jv1_2 jm_01 kf_RX2_9 0 kg1_2_0 rfl dX2_slowTime_71 ?_
  refine j_getr (pc := 74) jv1_1 jm_01 kf_RX2_175 0 kg1_1_2 rfl dX2_slowTime_74 ?_
  refine j_iload_n (pc := 77) dX2_slowTime_77 rfl (q := 1) rfl ?_
  refine j_iald (pc := 78) jv1_14 jm_01 rfl (by decide) ka1_14 dX2_slowTime_78 (fun c1 h2 => ?_)
  refine j_iload_n (pc := 79) dX2_slowTime_79 rfl (q := 2) rfl ?_
  refine j_if_eq (tgt := 89) (pc := 80) hl3 dX2_slowTime_80 (by decide) (fun c3 => ?_) (fun c3 => ?_)
  · skip
    refine j_bipush (pc := 89) 120 dX2_slowTime_89 (by decide) ?_
    refine j_imul (pc := 91) dX2_slowTime_91 ?_
    refine j_bipush (pc := 92) 100 dX2_slowTime_92 (by decide) ?_
    refine j_idiv (pc := 94) (jm_w_in _) (jm_inL (by decide) (by decide)) dX2_slowTime_94 (by decide) ?_
    exact j_iret (pc := 95) (jm_div_in _ _) rfl dX2_slowTime_95
  · skip
    refine j_sipush (pc := 83) 150 dX2_slowTime_83 (by decide) ?_
    refine j_goto (tgt := 91) (pc := 86) dX2_slowTime_86 (by decide) ?_
    refine j_imul (pc := 91) dX2_slowTime_91 ?_
    refine j_bipush (pc := 92) 100 dX2_slowTime_92 (by decide) ?_
    refine j_idiv (pc := 94) (jm_w_in _) (jm_inL (by decide) (by decide)) dX2_slowTime_94 (by decide) ?_
    exact j_iret (pc := 95) (jm_div_in _ _) rfl dX2_slowTime_95
set_option maxHeartbeats 4000000 in
set_option maxRecDepth 100000 in
theorem b0X2_slowTime_5 (X : jm_X) (fu : Nat) (k5 : jm_M → Int → Int → Int → Int → jm_R) (hk5 : ∀ (M : jm_M) (l1 l2 l3 l4 : Int) (hl1 : jm_in l1) (hl2 : jm_in l2) (hl3 : jm_in l3) (hl4 : jm_in l4), jm_J wd1 (jm_qi .int) cX2_slowTime 5 RX2 rmX2_slowTime X M [(0, jm_vr wd1 X 2 0), (1, jm_i l1), (2, jm_i l2), (3, jm_i l3), (4, jm_i l4)] [] 5 (k5 M l1 l2 l3 l4)) : ∀ (M : jm_M) (l1 l2 l3 l4 : Int) (hl1 : jm_in l1) (hl2 : jm_in l2) (hl3 : jm_in l3) (hl4 : jm_in l4), jm_J wd1 (jm_qi .int) cX2_slowTime 5 RX2 rmX2_slowTime X M [(0, jm_vr wd1 X 2 0), (1, jm_i l1), (2, jm_i l2), (3, jm_i l3), (4, jm_i l4)] [] 5 (gX2_slowTime_5 fu k5 M l1 l2 l3 l4) := by
  intro M l1 l2 l3 l4 hl1 hl2 hl3 hl4
  unfold gX2_slowTime_5
  refine j_iload (pc := 5) dX2_slowTime_5 (q := 4) rfl ?_
  refine j_aload_n (pc := 7) dX2_slowTime_7 rfl (q := 0) rfl ?_
  refine j_geti (pc := 8) jv1_2 jm_01 kf_RX2_37 kg1_2_5 dX2_slowTime_8 (fun h1 => ?_)
  refine j_icmp_ge (tgt := 70) (pc := 11) hl4 h1 dX2_slowTime_11 (by decide) (fun c2 => ?_) (fun c2 => ?_)
  · skip
    refine j_sub (pc := 70) [(0, jm_vr wd1 X 2 0), (2, jm_i l2), (3, jm_i l3)] [0, 2, 3] rfl ?_
    exact bX2_slowTime_70 X fu  M l2 l3 hl2 hl3
  · skip
    refine j_iload (pc := 14) dX2_slowTime_14 (q := 4) rfl ?_
    refine j_bipush (pc := 16) 6 dX2_slowTime_16 (by decide) ?_
    refine j_icmp_ge (tgt := 70) (pc := 18) hl4 (jm_inL (by decide) (by decide)) dX2_slowTime_18 (by decide) (fun c3 => ?_) (fun c3 => ?_)
    · skip
      refine j_sub (pc := 70) [(0, jm_vr wd1 X 2 0), (2, jm_i l2), (3, jm_i l3)] [0, 2, 3] rfl ?_
      exact bX2_slowTime_70 X fu  M l2 l3 hl2 hl3
    · skip
      refine j_iload (pc := 21) dX2_slowTime_21 (q := 4) rfl ?_
      refine j_iload_n (pc := 23) dX2_slowTime_23 rfl (q := 1) rfl ?_
      refine j_icmp_eq (tgt := 64) (pc := 24) hl4 hl1 dX2_slowTime_24 (by decide) (fun c4 => ?_) (fun c4 => ?_)
      · skip
        refine j_iinc (pc := 64) [(0, jm_vr wd1 X 2 0), (1, jm_i l1), (2, jm_i l2), (3, jm_i l3)] (q := 4) dX2_slowTime_64 rfl (by decide) (fun _ => rfl) (fun v5 h6 => ?_)
        refine j_goto (tgt := 5) (pc := 67) dX2_slowTime_67 (by decide) ?_
        refine j_sub (pc := 5) [(0, jm_vr wd1 X 2 0), (1, jm_i l1), (2, jm_i l2), (3, jm_i l3), (4, jm_i v5)] [1, 2, 3, 4, 0] rfl ?_
        exact hk5 M l1 l2 l3 v5 hl1 hl2 hl3 h6
      · skip
        refine j_aload_n (pc := 27) dX2_slowTime_27 rfl (q := 0) rfl ?_
        refine j_getr (pc := 28) jv1_2 jm_01 kf_RX2_27 0 kg1_2_3 rfl dX2_slowTime_28 ?_
        refine j_iload (pc := 31) dX2_slowTime_31 (q := 4) rfl ?_
        refine j_aald (pc := 33) jv1_47 jm_01 (by decide) kr1_47 dX2_slowTime_33 (fun c7 => ?_)
        refine j_geti (pc := 34) jv1_9 (by omega) kf_RX2_91 kg1_9_3 dX2_slowTime_34 (fun h8 => ?_)
        refine j_if_ne (tgt := 64) (pc := 37) h8 dX2_slowTime_37 (by decide) (fun c9 => ?_) (fun c9 => ?_)
        · skip
          refine j_aload_n (pc := 40) dX2_slowTime_40 rfl (q := 0) rfl ?_
          refine j_getr (pc := 41) jv1_2 jm_01 kf_RX2_27 0 kg1_2_3 rfl dX2_slowTime_41 ?_
          refine j_iload (pc := 44) dX2_slowTime_44 (q := 4) rfl ?_
          refine j_aald (pc := 46) jv1_47 jm_01 (by decide) kr1_47 dX2_slowTime_46 (fun c10 => ?_)
          refine j_geti (pc := 47) jv1_9 (by omega) kf_RX2_101 kg1_9_1 dX2_slowTime_47 (fun h11 => ?_)
          refine j_aload_n (pc := 50) dX2_slowTime_50 rfl (q := 0) rfl ?_
          refine j_getr (pc := 51) jv1_2 jm_01 kf_RX2_27 0 kg1_2_3 rfl dX2_slowTime_51 ?_
          refine j_iload_n (pc := 54) dX2_slowTime_54 rfl (q := 1) rfl ?_
          refine j_aald (pc := 55) jv1_47 jm_01 (by decide) kr1_47 dX2_slowTime_55 (fun c12 => ?_)
          refine j_geti (pc := 56) jv1_9 (by omega) kf_RX2_101 kg1_9_1 dX2_slowTime_56 (fun h13 => ?_)
          refine j_icmp_lt (tgt := 64) (pc := 59) h11 h13 dX2_slowTime_59 (by decide) (fun c14 => ?_) (fun c14 => ?_)
          · skip
            refine j_iinc (pc := 64) [(0, jm_vr wd1 X 2 0), (1, jm_i l1), (2, jm_i l2), (3, jm_i l3)] (q := 4) dX2_slowTime_64 rfl (by decide) (fun _ => rfl) (fun v15 h16 => ?_)
            refine j_goto (tgt := 5) (pc := 67) dX2_slowTime_67 (by decide) ?_
            refine j_sub (pc := 5) [(0, jm_vr wd1 X 2 0), (1, jm_i l1), (2, jm_i l2), (3, jm_i l3), (4, jm_i v15)] [1, 2, 3, 4, 0] rfl ?_
            exact hk5 M l1 l2 l3 v15 hl1 hl2 hl3 h16
          · skip
            refine j_iconst (pc := 62) dX2_slowTime_62 ?_
            refine j_istore_n (pc := 63) [(3, jm_i 0), (0, jm_vr wd1 X 2 0), (1, jm_i l1), (2, jm_i l2), (4, jm_i l4)] dX2_slowTime_63 rfl (by decide) rfl ?_
            refine j_iinc (pc := 64) [(3, jm_i 0), (0, jm_vr wd1 X 2 0), (1, jm_i l1), (2, jm_i l2)] (q := 4) dX2_slowTime_64 rfl (by decide) (fun _ => rfl) (fun v17 h18 => ?_)
            refine j_goto (tgt := 5) (pc := 67) dX2_slowTime_67 (by decide) ?_
            refine j_sub (pc := 5) [(0, jm_vr wd1 X 2 0), (1, jm_i l1), (2, jm_i l2), (3, jm_i 0), (4, jm_i v17)] [2, 3, 4, 1, 0] rfl ?_
            exact hk5 M l1 l2 0 v17 hl1 hl2 (jm_inL (by decide) (by decide)) h18
        · skip
          refine j_iinc (pc := 64) [(0, jm_vr wd1 X 2 0), (1, jm_i l1), (2, jm_i l2), (3, jm_i l3)] (q := 4) dX2_slowTime_64 rfl (by decide) (fun _ => rfl) (fun v19 h20 => ?_)
          refine j_goto (tgt := 5) (pc := 67) dX2_slowTime_67 (by decide) ?_
          refine j_sub (pc := 5) [(0, jm_vr wd1 X 2 0), (1, jm_i l1), (2, jm_i l2), (3, jm_i l3), (4, jm_i v19)] [1, 2, 3, 4, 0] rfl ?_
          exact hk5 M l1 l2 l3 v19 hl1 hl2 hl3 h20
theorem bX2_slowTime_5 (X : jm_X) (fu : Nat) : ∀ (n : Nat) (M : jm_M) (l1 l2 l3 l4 : Int) (hl1 : jm_in l1) (hl2 : jm_in l2) (hl3 : jm_in l3) (hl4 : jm_in l4), jm_J wd1 (jm_qi .int) cX2_slowTime 5 RX2 rmX2_slowTime X M [(0, jm_vr wd1 X 2 0), (1, jm_i l1), (2, jm_i l2), (3, jm_i l3), (4, jm_i l4)] [] 5 (fX2_slowTime_5 fu n M l1 l2 l3 l4) := by
  intro n
  induction n with
  | zero => intro M l1 l2 l3 l4 hl1 hl2 hl3 hl4; exact j_none
  | succ n ih => intro M l1 l2 l3 l4 hl1 hl2 hl3 hl4; exact b0X2_slowTime_5 X fu (fX2_slowTime_5 fu n) ih M l1 l2 l3 l4 hl1 hl2 hl3 hl4
set_option maxHeartbeats 4000000 in
set_option maxRecDepth 100000 in
theorem ct_X2_slowTime (fu : Nat) (M : jm_M) (l1 l2 : Int) (hl1 : jm_in l1) (hl2 : jm_in l2) : jm_Ci wd1 yX2_slowTime cX2_slowTime 5 (some .int) rmX2_slowTime M (fun G ad => [.ref (ad (jm_r wd1 2 0)), jm_i l1, jm_i l2]) (fX2_slowTime fu M l1 l2) := by
  refine jm_met_i (fun X => [(0, jm_vr wd1 X 2 0), (1, jm_i l1), (2, jm_i l2)]) (by decide) (fun _ _ => (Nat.le_of_ble_eq_true rfl)) (fun _ => rfl) (fun X => ?_)
  unfold fX2_slowTime
  refine j_iconst (pc := 0) dX2_slowTime_0 ?_
  refine j_istore_n (pc := 1) [(3, jm_i 1), (0, jm_vr wd1 X 2 0), (1, jm_i l1), (2, jm_i l2)] dX2_slowTime_1 rfl (by decide) rfl ?_
  refine j_iconst (pc := 2) dX2_slowTime_2 ?_
  refine j_istore (pc := 3) [(4, jm_i 0), (3, jm_i 1), (0, jm_vr wd1 X 2 0), (1, jm_i l1), (2, jm_i l2)] dX2_slowTime_3 (by decide) rfl ?_
  refine j_sub (pc := 5) [(0, jm_vr wd1 X 2 0), (1, jm_i l1), (2, jm_i l2), (3, jm_i 1), (4, jm_i 0)] [2, 3, 4, 1, 0] rfl ?_
  exact bX2_slowTime_5 X fu  fu M l1 l2 1 0 hl1 hl2 (jm_inL (by decide) (by decide)) (jm_inL (by decide) (by decide))
abbrev rmX6_rest : Room := { frames := 0, cells := 0, slots := 0, locals := 0 }
set_option maxHeartbeats 4000000 in
set_option maxRecDepth 100000 in
theorem ct_X6_rest (M : jm_M) (r0 l1 l2 : Int) (gr0 : 0 ≤ r0 ∧ r0 < 6) (hl1 : jm_in l1) (hl2 : jm_in l2) : jm_Cv wd1 yX6_rest cX6_rest 3 none rmX6_rest M (fun G ad => [.ref (ad (jm_r wd1 9 r0)), jm_i l1, jm_i l2]) (fX6_rest M r0 l1 l2) := by
  refine jm_met_v (fun X => [(0, jm_vr wd1 X 9 r0), (1, jm_i l1), (2, jm_i l2)]) (by decide) (fun _ _ => (Nat.le_of_ble_eq_true rfl)) (fun _ => rfl) (fun X => ?_)
  unfold fX6_rest
  refine j_aload_n (pc := 0) dX6_rest_0 rfl (q := 0) rfl ?_
  refine j_iload_n (pc := 1) dX6_rest_1 rfl (q := 1) rfl ?_
  refine j_put (pc := 2) jv1_9 gr0 kf_RX6_48 wI1 kp_X6_3 kx1_9_3 hl1 rfl rfl dX6_rest_2 (fun M1 => ?_)
  refine j_aload_n (pc := 5) dX6_rest_5 rfl (q := 0) rfl ?_
  refine j_iload_n (pc := 6) dX6_rest_6 rfl (q := 2) rfl ?_
  refine j_put (pc := 7) jv1_9 gr0 kf_RX6_51 wI1 kp_X6_4 kx1_9_4 hl2 rfl rfl dX6_rest_7 (fun M2 => ?_)
  exact j_vret (pc := 10) dX6_rest_10
abbrev rmX2_latestBefore : Room := { frames := 0, cells := 0, slots := 0, locals := 0 }
set_option maxHeartbeats 4000000 in
set_option maxRecDepth 100000 in
theorem b0X2_latestBefore_9 (X : jm_X) (fu : Nat) (k9 : jm_M → Int → Int → Int → Int → Int → Int → jm_R) (hk9 : ∀ (M : jm_M) (l1 l2 l3 l4 l5 l6 : Int) (hl1 : jm_in l1) (hl2 : jm_in l2) (hl3 : jm_in l3) (hl4 : jm_in l4) (hl5 : jm_in l5) (hl6 : jm_in l6), jm_J wd1 (jm_qi .int) cX2_latestBefore 8 RX2 rmX2_latestBefore X M [(0, jm_vr wd1 X 2 0), (1, jm_i l1), (2, jm_i l2), (3, jm_i l3), (4, jm_i l4), (5, jm_i l5), (6, jm_i l6)] [] 9 (k9 M l1 l2 l3 l4 l5 l6)) : ∀ (M : jm_M) (l1 l2 l3 l4 l5 l6 : Int) (hl1 : jm_in l1) (hl2 : jm_in l2) (hl3 : jm_in l3) (hl4 : jm_in l4) (hl5 : jm_in l5) (hl6 : jm_in l6), jm_J wd1 (jm_qi .int) cX2_latestBefore 8 RX2 rmX2_latestBefore X M [(0, jm_vr wd1 X 2 0), (1, jm_i l1), (2, jm_i l2), (3, jm_i l3), (4, jm_i l4), (5, jm_i l5), (6, jm_i l6)] [] 9 (gX2_latestBefore_9 fu k9 M l1 l2 l3 l4 l5 l6) := by
  intro M l1 l2 l3 l4 l5 l6 hl1 hl2 hl3 hl4 hl5 hl6
  unfold gX2_latestBefore_9
  refine j_iload (pc := 9) dX2_latestBefore_9 (q := 6) rfl ?_
  refine j_aload_n (pc := 11) dX2_latestBefore_11 rfl (q := 0) rfl ?_
  refine j_geti (pc := 12) jv1_2 jm_01 kf_RX2_37 kg1_2_5 dX2_latestBefore_12 (fun h1 => ?_)
  refine j_icmp_ge (tgt := 72) (pc := 15) hl6 h1 dX2_latestBefore_15 (by decide) (fun c2 => ?_) (fun c2 => ?_)
  · skip
    refine j_iload (pc := 72) dX2_latestBefore_72 (q := 4) rfl ?_
    exact j_iret (pc := 74) hl4 rfl dX2_latestBefore_74
  · skip
    refine j_iload (pc := 18) dX2_latestBefore_18 (q := 6) rfl ?_
    refine j_bipush (pc := 20) 6 dX2_latestBefore_20 (by decide) ?_
    refine j_icmp_ge (tgt := 72) (pc := 22) hl6 (jm_inL (by decide) (by decide)) dX2_latestBefore_22 (by decide) (fun c3 => ?_) (fun c3 => ?_)
    · skip
      refine j_iload (pc := 72) dX2_latestBefore_72 (q := 4) rfl ?_
      exact j_iret (pc := 74) hl4 rfl dX2_latestBefore_74
    · skip
      refine j_aload_n (pc := 25) dX2_latestBefore_25 rfl (q := 0) rfl ?_
      refine j_getr (pc := 26) jv1_2 jm_01 kf_RX2_27 0 kg1_2_3 rfl dX2_latestBefore_26 ?_
      refine j_iload (pc := 29) dX2_latestBefore_29 (q := 6) rfl ?_
      refine j_aald (pc := 31) jv1_47 jm_01 (by decide) kr1_47 dX2_latestBefore_31 (fun c4 => ?_)
      refine j_getr (pc := 32) jv1_9 (by omega) kf_RX2_212 l6 kg1_9_18 rfl dX2_latestBefore_32 ?_
      refine j_iload_n (pc := 35) dX2_latestBefore_35 rfl (q := 2) rfl ?_
      refine j_iald (pc := 36) jv1_32 (by omega) rfl (by decide) ka1_32 dX2_latestBefore_36 (fun c5 h6 => ?_)
      refine j_nm (pc := 37) h6 (fun v7 h8 => ?_)
      refine j_istore (pc := 37) [(7, jm_i v7), (0, jm_vr wd1 X 2 0), (1, jm_i l1), (2, jm_i l2), (3, jm_i l3), (4, jm_i l4), (5, jm_i l5), (6, jm_i l6)] dX2_latestBefore_37 (by decide) rfl ?_
      refine j_iload (pc := 39) dX2_latestBefore_39 (q := 7) rfl ?_
      refine j_iload_n (pc := 41) dX2_latestBefore_41 rfl (q := 2) rfl ?_
      refine j_icmp_eq (tgt := 66) (pc := 42) hl6 hl1 dX2_latestBefore_42 (by decide) (fun c9 => ?_) (fun c9 => ?_)
      · skip
        refine j_iinc (pc := 66) [(7, jm_i v7), (0, jm_vr wd1 X 2 0), (1, jm_i l1), (2, jm_i l2), (3, jm_i l3), (4, jm_i l4), (5, jm_i l5)] (q := 7) dX2_latestBefore_66 rfl (by decide) (fun _ => rfl) (fun v10 h11 => ?_)
        refine j_goto (tgt := 9) (pc := 69) dX2_latestBefore_69 (by decide) ?_
        refine j_sub (pc := 9) [(0, jm_vr wd1 X 2 0), (1, jm_i l1), (2, jm_i l2), (3, jm_i l3), (4, jm_i l4), (5, jm_i l5), (6, jm_i v10)] [2, 3, 4, 5, 6, 7, 0] rfl ?_
        exact hk9 M l1 l2 l3 l4 l5 v10 hl1 hl2 hl3 hl4 hl5 h11
      · skip
        refine j_iload (pc := 45) dX2_latestBefore_45 (q := 0) rfl ?_
        refine j_iload (pc := 47) dX2_latestBefore_47 (q := 6) rfl ?_
        refine j_icmp_le (tgt := 66) (pc := 49) h8 hl5 dX2_latestBefore_49 (by decide) (fun c12 => ?_) (fun c12 => ?_)
        · skip
          refine j_iinc (pc := 66) [(7, jm_i v7), (0, jm_vr wd1 X 2 0), (1, jm_i l1), (2, jm_i l2), (3, jm_i l3), (4, jm_i l4), (5, jm_i l5)] (q := 7) dX2_latestBefore_66 rfl (by decide) (fun _ => rfl) (fun v13 h14 => ?_)
          refine j_goto (tgt := 9) (pc := 69) dX2_latestBefore_69 (by decide) ?_
          refine j_sub (pc := 9) [(0, jm_vr wd1 X 2 0), (1, jm_i l1), (2, jm_i l2), (3, jm_i l3), (4, jm_i l4), (5, jm_i l5), (6, jm_i v13)] [2, 3, 4, 5, 6, 7, 0] rfl ?_
          exact hk9 M l1 l2 l3 l4 l5 v13 hl1 hl2 hl3 hl4 hl5 h14
        · skip
          refine j_iload (pc := 52) dX2_latestBefore_52 (q := 0) rfl ?_
          refine j_iload_n (pc := 54) dX2_latestBefore_54 rfl (q := 4) rfl ?_
          refine j_icmp_ge (tgt := 66) (pc := 55) h8 hl3 dX2_latestBefore_55 (by decide) (fun c15 => ?_) (fun c15 => ?_)
          · skip
            refine j_iinc (pc := 66) [(7, jm_i v7), (0, jm_vr wd1 X 2 0), (1, jm_i l1), (2, jm_i l2), (3, jm_i l3), (4, jm_i l4), (5, jm_i l5)] (q := 7) dX2_latestBefore_66 rfl (by decide) (fun _ => rfl) (fun v16 h17 => ?_)
            refine j_goto (tgt := 9) (pc := 69) dX2_latestBefore_69 (by decide) ?_
            refine j_sub (pc := 9) [(0, jm_vr wd1 X 2 0), (1, jm_i l1), (2, jm_i l2), (3, jm_i l3), (4, jm_i l4), (5, jm_i l5), (6, jm_i v16)] [2, 3, 4, 5, 6, 7, 0] rfl ?_
            exact hk9 M l1 l2 l3 l4 l5 v16 hl1 hl2 hl3 hl4 hl5 h17
          · skip
            refine j_iload (pc := 58) dX2_latestBefore_58 (q := 0) rfl ?_
            refine j_istore (pc := 60) [(5, jm_i v7), (7, jm_i v7), (0, jm_vr wd1 X 2 0), (1, jm_i l1), (2, jm_i l2), (3, jm_i l3), (4, jm_i l4), (6, jm_i l6)] dX2_latestBefore_60 (by decide) rfl ?_
            refine j_iload (pc := 62) dX2_latestBefore_62 (q := 7) rfl ?_
            refine j_istore (pc := 64) [(4, jm_i l6), (5, jm_i v7), (7, jm_i v7), (0, jm_vr wd1 X 2 0), (1, jm_i l1), (2, jm_i l2), (3, jm_i l3), (6, jm_i l6)] dX2_latestBefore_64 (by decide) rfl ?_
            refine j_iinc (pc := 66) [(4, jm_i l6), (5, jm_i v7), (7, jm_i v7), (0, jm_vr wd1 X 2 0), (1, jm_i l1), (2, jm_i l2), (3, jm_i l3)] (q := 7) dX2_latestBefore_66 rfl (by decide) (fun _ => rfl) (fun v18 h19 => ?_)
            refine j_goto (tgt := 9) (pc := 69) dX2_latestBefore_69 (by decide) ?_
            refine j_sub (pc := 9) [(0, jm_vr wd1 X 2 0), (1, jm_i l1), (2, jm_i l2), (3, jm_i l3), (4, jm_i l6), (5, jm_i v7), (6, jm_i v18)] [4, 5, 6, 7, 1, 2, 0] rfl ?_
            exact hk9 M l1 l2 l3 l6 v7 v18 hl1 hl2 hl3 hl6 h8 h19
theorem bX2_latestBefore_9 (X : jm_X) (fu : Nat) : ∀ (n : Nat) (M : jm_M) (l1 l2 l3 l4 l5 l6 : Int) (hl1 : jm_in l1) (hl2 : jm_in l2) (hl3 : jm_in l3) (hl4 : jm_in l4) (hl5 : jm_in l5) (hl6 : jm_in l6), jm_J wd1 (jm_qi .int) cX2_latestBefore 8 RX2 rmX2_latestBefore X M [(0, jm_vr wd1 X 2 0), (1, jm_i l1), (2, jm_i l2), (3, jm_i l3), (4, jm_i l4), (5, jm_i l5), (6, jm_i l6)] [] 9 (fX2_latestBefore_9 fu n M l1 l2 l3 l4 l5 l6) := by
  intro n
  induction n with
  | zero => intro M l1 l2 l3 l4 l5 l6 hl1 hl2 hl3 hl4 hl5 hl6; exact j_none
  | succ n ih => intro M l1 l2 l3 l4 l5 l6 hl1 hl2 hl3 hl4 hl5 hl6; exact b0X2_latestBefore_9 X fu (fX2_latestBefore_9 fu n) ih M l1 l2 l3 l4 l5 l6 hl1 hl2 hl3 hl4 hl5 hl6
set_option maxHeartbeats 4000000 in
set_option maxRecDepth 100000 in
theorem ct_X2_latestBefore (fu : Nat) (M : jm_M) (l1 l2 l3 : Int) (hl1 : jm_in l1) (hl2 : jm_in l2) (hl3 : jm_in l3) : jm_Ci wd1 yX2_latestBefore cX2_latestBefore 8 (some .int) rmX2_latestBefore M (fun G ad => [.ref (ad (jm_r wd1 2 0)), jm_i l1, jm_i l2, jm_i l3]) (fX2_latestBefore fu M l1 l2 l3) := by
  refine jm_met_i (fun X => [(0, jm_vr wd1 X 2 0), (1, jm_i l1), (2, jm_i l2), (3, jm_i l3)]) (by decide) (fun _ _ => (Nat.le_of_ble_eq_true rfl)) (fun _ => rfl) (fun X => ?_)
  unfold fX2_latestBefore
  refine j_iconst (pc := 0) dX2_latestBefore_0 ?_
  refine j_istore (pc := 1) [(4, jm_i (-1)), (0, jm_vr wd1 X 2 0), (1, jm_i l1), (2, jm_i l2), (3, jm_i l3)] dX2_latestBefore_1 (by decide) rfl ?_
  refine j_iconst (pc := 3) dX2_latestBefore_3 ?_
  refine j_istore (pc := 4) [(5, jm_i 0), (4, jm_i (-1)), (0, jm_vr wd1 X 2 0), (1, jm_i l1), (2, jm_i l2), (3, jm_i l3)] dX2_latestBefore_4 (by decide) rfl ?_
  refine j_iconst (pc := 6) dX2_latestBefore_6 ?_
  refine j_istore (pc := 7) [(6, jm_i 0), (5, jm_i 0), (4, jm_i (-1)), (0, jm_vr wd1 X 2 0), (1, jm_i l1), (2, jm_i l2), (3, jm_i l3)] dX2_latestBefore_7 (by decide) rfl ?_
  refine j_sub (pc := 9) [(0, jm_vr wd1 X 2 0), (1, jm_i l1), (2, jm_i l2), (3, jm_i l3), (4, jm_i (-1)), (5, jm_i 0), (6, jm_i 0)] [3, 4, 5, 6, 2, 1, 0] rfl ?_
  exact bX2_latestBefore_9 X fu  fu M l1 l2 l3 (-1) 0 0 hl1 hl2 hl3 (jm_inL (by decide) (by decide)) (jm_inL (by decide) (by decide)) (jm_inL (by decide) (by decide))
abbrev rmX9_yellowAt : Room := { frames := 1, cells := 0, slots := 0, locals := 22 }
set_option maxHeartbeats 4000000 in
set_option maxRecDepth 100000 in
theorem bX9_yellowAt_46 (X : jm_X) (fu : Nat) (k2 : jm_M → Int → Int → Int → jm_R) (hk2 : ∀ (M : jm_M) (l1 l2 l3 : Int) (hl1 : jm_in l1) (hl2 : jm_in l2) (hl3 : jm_in l3), jm_J wd1 (jm_qi .boolean) cX9_yellowAt 6 RX9 rmX9_yellowAt X M [(0, jm_vr wd1 X 1 0), (1, jm_i l1), (2, jm_i l2), (3, jm_i l3)] [] 2 (k2 M l1 l2 l3)) : ∀ (M : jm_M) (l1 l2 l3 s0 : Int) (hl1 : jm_in l1) (hl2 : jm_in l2) (hl3 : jm_in l3) (hs0 : jm_in s0), jm_J wd1 (jm_qi .boolean) cX9_yellowAt 6 RX9 rmX9_yellowAt X M [(0, jm_vr wd1 X 1 0), (1, jm_i l1), (2, jm_i l2), (3, jm_i l3)] [jm_i s0] 46 (gX9_yellowAt_46 fu k2 M l1 l2 l3 s0) := by
  intro M l1 l2 l3 s0 hl1 hl2 hl3 hs0
  unfold gX9_yellowAt_46
  refine j_istore (pc := 46) [(5, jm_i s0), (0, jm_vr wd1 X 1 0), (1, jm_i l1), (2, jm_i l2), (3, jm_i l3)] dX9_yellowAt_46 (by decide) rfl ?_
  refine j_iload (pc := 48) dX9_yellowAt_48 (q := 0) rfl ?_
  refine j_if_eq (tgt := 93) (pc := 50) hs0 dX9_yellowAt_50 (by decide) (fun c1 => ?_) (fun c1 => ?_)
  · skip
    refine j_iinc (pc := 93) [(5, jm_i s0), (0, jm_vr wd1 X 1 0), (1, jm_i l1), (2, jm_i l2)] (q := 4) dX9_yellowAt_93 rfl (by decide) (fun _ => rfl) (fun v2 h3 => ?_)
    refine j_goto (tgt := 2) (pc := 96) dX9_yellowAt_96 (by decide) ?_
    refine j_sub (pc := 2) [(0, jm_vr wd1 X 1 0), (1, jm_i l1), (2, jm_i l2), (3, jm_i v2)] [2, 3, 4, 0] rfl ?_
    exact hk2 M l1 l2 v2 hl1 hl2 h3
  · skip
    refine j_aload_n (pc := 53) dX9_yellowAt_53 rfl (q := 1) rfl ?_
    refine j_getr (pc := 54) jv1_1 jm_01 kf_RX9_37 31 kg1_1_8 rfl dX9_yellowAt_54 ?_
    refine j_iload_n (pc := 57) dX9_yellowAt_57 rfl (q := 4) rfl ?_
    refine j_iconst (pc := 58) dX9_yellowAt_58 ?_
    refine j_callVi2 (pc := 59) (ct_X7_cell M 31 l3 3 (by omega) hl3 (jm_inL (by decide) (by decide))) kg_903 km_X7_cell kv_X7_cell rfl rfl ⟨(Nat.le_of_ble_eq_true rfl), (Nat.le_of_ble_eq_true rfl)⟩ jv1_10 (by omega) ko1_10 rfl rfl (Nat.le_of_ble_eq_true rfl) dX9_yellowAt_59 (fun v4 M5 h6 => ?_)
    refine j_if_ne (tgt := 93) (pc := 62) h6 dX9_yellowAt_62 (by decide) (fun c7 => ?_) (fun c7 => ?_)
    · skip
      refine j_aload_n (pc := 65) dX9_yellowAt_65 rfl (q := 1) rfl ?_
      refine j_getr (pc := 66) jv1_1 jm_01 kf_RX9_37 31 kg1_1_8 rfl dX9_yellowAt_66 ?_
      refine j_iload_n (pc := 69) dX9_yellowAt_69 rfl (q := 4) rfl ?_
      refine j_iconst (pc := 70) dX9_yellowAt_70 ?_
      refine j_callVi2 (pc := 71) (ct_X7_cell M5 31 l3 1 (by omega) hl3 (jm_inL (by decide) (by decide))) kg_903 km_X7_cell kv_X7_cell rfl rfl ⟨(Nat.le_of_ble_eq_true rfl), (Nat.le_of_ble_eq_true rfl)⟩ jv1_10 (by omega) ko1_10 rfl rfl (Nat.le_of_ble_eq_true rfl) dX9_yellowAt_71 (fun v8 M9 h10 => ?_)
      refine j_iload_n (pc := 74) dX9_yellowAt_74 rfl (q := 3) rfl ?_
      refine j_icmp_gt (tgt := 93) (pc := 75) h10 hl2 dX9_yellowAt_75 (by decide) (fun c11 => ?_) (fun c11 => ?_)
      · skip
        refine j_iinc (pc := 93) [(5, jm_i s0), (0, jm_vr wd1 X 1 0), (1, jm_i l1), (2, jm_i l2)] (q := 4) dX9_yellowAt_93 rfl (by decide) (fun _ => rfl) (fun v12 h13 => ?_)
        refine j_goto (tgt := 2) (pc := 96) dX9_yellowAt_96 (by decide) ?_
        refine j_sub (pc := 2) [(0, jm_vr wd1 X 1 0), (1, jm_i l1), (2, jm_i l2), (3, jm_i v12)] [2, 3, 4, 0] rfl ?_
        exact hk2 M9 l1 l2 v12 hl1 hl2 h13
      · skip
        refine j_iload_n (pc := 78) dX9_yellowAt_78 rfl (q := 3) rfl ?_
        refine j_aload_n (pc := 79) dX9_yellowAt_79 rfl (q := 1) rfl ?_
        refine j_getr (pc := 80) jv1_1 jm_01 kf_RX9_37 31 kg1_1_8 rfl dX9_yellowAt_80 ?_
        refine j_iload_n (pc := 83) dX9_yellowAt_83 rfl (q := 4) rfl ?_
        refine j_iconst (pc := 84) dX9_yellowAt_84 ?_
        refine j_callVi2 (pc := 85) (ct_X7_cell M9 31 l3 2 (by omega) hl3 (jm_inL (by decide) (by decide))) kg_903 km_X7_cell kv_X7_cell rfl rfl ⟨(Nat.le_of_ble_eq_true rfl), (Nat.le_of_ble_eq_true rfl)⟩ jv1_10 (by omega) ko1_10 rfl rfl (Nat.le_of_ble_eq_true rfl) dX9_yellowAt_85 (fun v14 M15 h16 => ?_)
        refine j_icmp_ge (tgt := 93) (pc := 88) hl2 h16 dX9_yellowAt_88 (by decide) (fun c17 => ?_) (fun c17 => ?_)
        · skip
          refine j_iinc (pc := 93) [(5, jm_i s0), (0, jm_vr wd1 X 1 0), (1, jm_i l1), (2, jm_i l2)] (q := 4) dX9_yellowAt_93 rfl (by decide) (fun _ => rfl) (fun v18 h19 => ?_)
          refine j_goto (tgt := 2) (pc := 96) dX9_yellowAt_96 (by decide) ?_
          refine j_sub (pc := 2) [(0, jm_vr wd1 X 1 0), (1, jm_i l1), (2, jm_i l2), (3, jm_i v18)] [2, 3, 4, 0] rfl ?_
          exact hk2 M15 l1 l2 v18 hl1 hl2 h19
        · skip
          refine j_iconst (pc := 91) dX9_yellowAt_91 ?_
          exact j_iret (pc := 92) (jm_inL (by decide) (by decide)) rfl dX9_yellowAt_92
    · skip
      refine j_iinc (pc := 93) [(5, jm_i s0), (0, jm_vr wd1 X 1 0), (1, jm_i l1), (2, jm_i l2)] (q := 4) dX9_yellowAt_93 rfl (by decide) (fun _ => rfl) (fun v20 h21 => ?_)
      refine j_goto (tgt := 2) (pc := 96) dX9_yellowAt_96 (by decide) ?_
      refine j_sub (pc := 2) [(0, jm_vr wd1 X 1 0), (1, jm_i l1), (2, jm_i l2), (3, jm_i v20)] [2, 3, 4, 0] rfl ?_
      exact hk2 M5 l1 l2 v20 hl1 hl2 h21
set_option maxHeartbeats 4000000 in
set_option maxRecDepth 100000 in
theorem b0X9_yellowAt_2 (X : jm_X) (fu : Nat) (k2 : jm_M → Int → Int → Int → jm_R) (hk2 : ∀ (M : jm_M) (l1 l2 l3 : Int) (hl1 : jm_in l1) (hl2 : jm_in l2) (hl3 : jm_in l3), jm_J wd1 (jm_qi .boolean) cX9_yellowAt 6 RX9 rmX9_yellowAt X M [(0, jm_vr wd1 X 1 0), (1, jm_i l1), (2, jm_i l2), (3, jm_i l3)] [] 2 (k2 M l1 l2 l3)) : ∀ (M : jm_M) (l1 l2 l3 : Int) (hl1 : jm_in l1) (hl2 : jm_in l2) (hl3 : jm_in l3), jm_J wd1 (jm_qi .boolean) cX9_yellowAt 6 RX9 rmX9_yellowAt X M [(0, jm_vr wd1 X 1 0), (1, jm_i l1), (2, jm_i l2), (3, jm_i l3)] [] 2 (gX9_yellowAt_2 fu k2 M l1 l2 l3) := by
  intro M l1 l2 l3 hl1 hl2 hl3
  unfold gX9_yellowAt_2
  refine j_iload_n (pc := 2) dX9_yellowAt_2 rfl (q := 3) rfl ?_
  refine j_aload_n (pc := 3) dX9_yellowAt_3 rfl (q := 0) rfl ?_
  refine j_getr (pc := 4) jv1_1 jm_01 kf_RX9_37 31 kg1_1_8 rfl dX9_yellowAt_4 ?_
  refine j_geti (pc := 7) jv1_10 (by omega) kf_RX9_56 kg1_10_3 dX9_yellowAt_7 (fun h1 => ?_)
  refine j_icmp_ge (tgt := 99) (pc := 10) hl3 h1 dX9_yellowAt_10 (by decide) (fun c2 => ?_) (fun c2 => ?_)
  · skip
    refine j_iconst (pc := 99) dX9_yellowAt_99 ?_
    exact j_iret (pc := 100) (jm_inL (by decide) (by decide)) rfl dX9_yellowAt_100
  · skip
    refine j_aload_n (pc := 13) dX9_yellowAt_13 rfl (q := 0) rfl ?_
    refine j_getr (pc := 14) jv1_1 jm_01 kf_RX9_37 31 kg1_1_8 rfl dX9_yellowAt_14 ?_
    refine j_iload_n (pc := 17) dX9_yellowAt_17 rfl (q := 3) rfl ?_
    refine j_iconst (pc := 18) dX9_yellowAt_18 ?_
    refine j_callVi2 (pc := 19) (ct_X7_cell M 31 l3 0 (by omega) hl3 (jm_inL (by decide) (by decide))) kg_903 km_X7_cell kv_X7_cell rfl rfl ⟨(Nat.le_of_ble_eq_true rfl), (Nat.le_of_ble_eq_true rfl)⟩ jv1_10 (by omega) ko1_10 rfl rfl (Nat.le_of_ble_eq_true rfl) dX9_yellowAt_19 (fun v3 M4 h5 => ?_)
    refine j_istore (pc := 22) [(4, jm_i v3), (0, jm_vr wd1 X 1 0), (1, jm_i l1), (2, jm_i l2), (3, jm_i l3)] dX9_yellowAt_22 (by decide) rfl ?_
    refine j_iload (pc := 24) dX9_yellowAt_24 (q := 0) rfl ?_
    refine j_iconst (pc := 26) dX9_yellowAt_26 ?_
    refine j_icmp_eq (tgt := 41) (pc := 27) h5 (jm_inL (by decide) (by decide)) dX9_yellowAt_27 (by decide) (fun c6 => ?_) (fun c6 => ?_)
    · skip
      refine j_iconst (pc := 41) dX9_yellowAt_41 ?_
      refine j_goto (tgt := 46) (pc := 42) dX9_yellowAt_42 (by decide) ?_
      refine j_sub (pc := 46) [(0, jm_vr wd1 X 1 0), (1, jm_i l1), (2, jm_i l2), (3, jm_i l3)] [1, 2, 3, 4] rfl ?_
      exact bX9_yellowAt_46 X fu k2 hk2 M4 l1 l2 l3 1 hl1 hl2 hl3 (jm_inL (by decide) (by decide))
    · skip
      refine j_iload_n (pc := 30) dX9_yellowAt_30 rfl (q := 2) rfl ?_
      refine j_iconst (pc := 31) dX9_yellowAt_31 ?_
      refine j_icmp_eq (tgt := 41) (pc := 32) hl1 (jm_inL (by decide) (by decide)) dX9_yellowAt_32 (by decide) (fun c7 => ?_) (fun c7 => ?_)
      · skip
        refine j_iconst (pc := 41) dX9_yellowAt_41 ?_
        refine j_goto (tgt := 46) (pc := 42) dX9_yellowAt_42 (by decide) ?_
        refine j_sub (pc := 46) [(0, jm_vr wd1 X 1 0), (1, jm_i l1), (2, jm_i l2), (3, jm_i l3)] [1, 2, 3, 4] rfl ?_
        exact bX9_yellowAt_46 X fu k2 hk2 M4 l1 l2 l3 1 hl1 hl2 hl3 (jm_inL (by decide) (by decide))
      · skip
        refine j_iload (pc := 35) dX9_yellowAt_35 (q := 0) rfl ?_
        refine j_iload_n (pc := 37) dX9_yellowAt_37 rfl (q := 2) rfl ?_
        refine j_icmp_ne (tgt := 45) (pc := 38) h5 hl1 dX9_yellowAt_38 (by decide) (fun c8 => ?_) (fun c8 => ?_)
        · skip
          refine j_iconst (pc := 41) dX9_yellowAt_41 ?_
          refine j_goto (tgt := 46) (pc := 42) dX9_yellowAt_42 (by decide) ?_
          refine j_sub (pc := 46) [(0, jm_vr wd1 X 1 0), (1, jm_i l1), (2, jm_i l2), (3, jm_i l3)] [1, 2, 3, 4] rfl ?_
          exact bX9_yellowAt_46 X fu k2 hk2 M4 l1 l2 l3 1 hl1 hl2 hl3 (jm_inL (by decide) (by decide))
        · skip
          refine j_iconst (pc := 45) dX9_yellowAt_45 ?_
          refine j_sub (pc := 46) [(0, jm_vr wd1 X 1 0), (1, jm_i l1), (2, jm_i l2), (3, jm_i l3)] [1, 2, 3, 4] rfl ?_
          exact bX9_yellowAt_46 X fu k2 hk2 M4 l1 l2 l3 0 hl1 hl2 hl3 (jm_inL (by decide) (by decide))
theorem bX9_yellowAt_2 (X : jm_X) (fu : Nat) : ∀ (n : Nat) (M : jm_M) (l1 l2 l3 : Int) (hl1 : jm_in l1) (hl2 : jm_in l2) (hl3 : jm_in l3), jm_J wd1 (jm_qi .boolean) cX9_yellowAt 6 RX9 rmX9_yellowAt X M [(0, jm_vr wd1 X 1 0), (1, jm_i l1), (2, jm_i l2), (3, jm_i l3)] [] 2 (fX9_yellowAt_2 fu n M l1 l2 l3) := by
  intro n
  induction n with
  | zero => intro M l1 l2 l3 hl1 hl2 hl3; exact j_none
  | succ n ih => intro M l1 l2 l3 hl1 hl2 hl3; exact b0X9_yellowAt_2 X fu (fX9_yellowAt_2 fu n) ih M l1 l2 l3 hl1 hl2 hl3
set_option maxHeartbeats 4000000 in
set_option maxRecDepth 100000 in
theorem ct_X9_yellowAt (fu : Nat) (M : jm_M) (l1 l2 : Int) (hl1 : jm_in l1) (hl2 : jm_in l2) : jm_Ci wd1 yX9_yellowAt cX9_yellowAt 6 (some .boolean) rmX9_yellowAt M (fun G ad => [.ref (ad (jm_r wd1 1 0)), jm_i l1, jm_i l2]) (fX9_yellowAt fu M l1 l2) := by
  refine jm_met_i (fun X => [(0, jm_vr wd1 X 1 0), (1, jm_i l1), (2, jm_i l2)]) (by decide) (fun _ _ => (Nat.le_of_ble_eq_true rfl)) (fun _ => rfl) (fun X => ?_)
  unfold fX9_yellowAt
  refine j_iconst (pc := 0) dX9_yellowAt_0 ?_
  refine j_istore_n (pc := 1) [(3, jm_i 0), (0, jm_vr wd1 X 1 0), (1, jm_i l1), (2, jm_i l2)] dX9_yellowAt_1 rfl (by decide) rfl ?_
  refine j_sub (pc := 2) [(0, jm_vr wd1 X 1 0), (1, jm_i l1), (2, jm_i l2), (3, jm_i 0)] [1, 2, 3, 0] rfl ?_
  exact bX9_yellowAt_2 X fu  fu M l1 l2 0 hl1 hl2 (jm_inL (by decide) (by decide))
abbrev rmX2_passes : Room := { frames := 2, cells := 0, slots := 0, locals := 47 }
set_option maxHeartbeats 4000000 in
set_option maxRecDepth 100000 in
theorem bX2_passes_93 (X : jm_X) (fu : Nat) : ∀ (M : jm_M) (r1 : Int) (gr1 : 0 ≤ r1 ∧ r1 < 6), jm_J wd1 (jm_qi .boolean) cX2_passes 8 RX2 rmX2_passes X M [(1, jm_vr wd1 X 9 r1)] [] 93 (gX2_passes_93 fu M r1) := by
  intro M r1 gr1
  unfold gX2_passes_93
  refine j_aload_n (pc := 93) dX2_passes_93 rfl (q := 0) rfl ?_
  refine j_geti (pc := 94) jv1_9 gr1 kf_RX2_172 kg1_9_14 dX2_passes_94 (fun h1 => ?_)
  refine j_if_ne (tgt := 102) (pc := 97) h1 dX2_passes_97 (by decide) (fun c2 => ?_) (fun c2 => ?_)
  · skip
    refine j_iconst (pc := 100) dX2_passes_100 ?_
    exact j_iret (pc := 101) (jm_inL (by decide) (by decide)) rfl dX2_passes_101
  · skip
    refine j_aload_n (pc := 102) dX2_passes_102 rfl (q := 0) rfl ?_
    refine j_dup (pc := 103) dX2_passes_103 rfl ?_
    refine j_geti (pc := 104) jv1_9 gr1 kf_RX2_221 kg1_9_7 dX2_passes_104 (fun h3 => ?_)
    refine j_iconst (pc := 107) dX2_passes_107 ?_
    refine j_iadd (pc := 108) dX2_passes_108 ?_
    refine j_put (pc := 109) jv1_9 gr1 kf_RX2_221 wI1 kp_X6_7 kx1_9_7 (jm_w_in _) rfl rfl dX2_passes_109 (fun M4 => ?_)
    refine j_aload_n (pc := 112) dX2_passes_112 rfl (q := 0) rfl ?_
    refine j_dup (pc := 113) dX2_passes_113 rfl ?_
    refine j_geti (pc := 114) jv1_9 gr1 kf_RX2_224 kg1_9_10 dX2_passes_114 (fun h5 => ?_)
    refine j_iconst (pc := 117) dX2_passes_117 ?_
    refine j_iadd (pc := 118) dX2_passes_118 ?_
    refine j_put (pc := 119) jv1_9 gr1 kf_RX2_224 wI1 kp_X6_10 kx1_9_10 (jm_w_in _) rfl rfl dX2_passes_119 (fun M6 => ?_)
    refine j_iconst (pc := 122) dX2_passes_122 ?_
    exact j_iret (pc := 123) (jm_inL (by decide) (by decide)) rfl dX2_passes_123
set_option maxHeartbeats 4000000 in
set_option maxRecDepth 100000 in
theorem bX2_passes_44 (X : jm_X) (fu : Nat) : ∀ (M : jm_M) (r1 r2 l3 l4 l5 s0 : Int) (gr1 : 0 ≤ r1 ∧ r1 < 6) (gr2 : 0 ≤ r2 ∧ r2 < 6) (hl3 : jm_in l3) (hl4 : jm_in l4) (hl5 : jm_in l5) (hs0 : jm_in s0), jm_J wd1 (jm_qi .boolean) cX2_passes 8 RX2 rmX2_passes X M [(0, jm_vr wd1 X 2 0), (1, jm_vr wd1 X 9 r1), (2, jm_vr wd1 X 9 r2), (3, jm_i l3), (4, jm_i l4), (5, jm_i l5)] [jm_i s0] 44 (gX2_passes_44 fu M r1 r2 l3 l4 l5 s0) := by
  intro M r1 r2 l3 l4 l5 s0 gr1 gr2 hl3 hl4 hl5 hs0
  unfold gX2_passes_44
  refine j_istore (pc := 44) [(7, jm_i s0), (0, jm_vr wd1 X 2 0), (1, jm_vr wd1 X 9 r1), (2, jm_vr wd1 X 9 r2), (3, jm_i l3), (4, jm_i l4), (5, jm_i l5)] dX2_passes_44 (by decide) rfl ?_
  refine j_iload (pc := 46) dX2_passes_46 (q := 0) rfl ?_
  refine j_iconst (pc := 48) dX2_passes_48 ?_
  refine j_icmp_eq (tgt := 66) (pc := 49) hs0 (jm_inL (by decide) (by decide)) dX2_passes_49 (by decide) (fun c1 => ?_) (fun c1 => ?_)
  · skip
    refine j_iconst (pc := 66) dX2_passes_66 ?_
    exact j_iret (pc := 67) (jm_inL (by decide) (by decide)) rfl dX2_passes_67
  · skip
    refine j_iload (pc := 52) dX2_passes_52 (q := 6) rfl ?_
    refine j_iload (pc := 54) dX2_passes_54 (q := 0) rfl ?_
    refine j_iadd (pc := 56) dX2_passes_56 ?_
    refine j_aload_n (pc := 57) dX2_passes_57 rfl (q := 3) rfl ?_
    refine j_getr (pc := 58) jv1_9 gr2 kf_RX2_202 r2 kg1_9_19 rfl dX2_passes_58 ?_
    refine j_iload_n (pc := 61) dX2_passes_61 rfl (q := 4) rfl ?_
    refine j_iald (pc := 62) jv1_33 (by omega) rfl (by decide) ka1_33 dX2_passes_62 (fun c2 h3 => ?_)
    refine j_icmp_le (tgt := 68) (pc := 63) (jm_w_in _) h3 dX2_passes_63 (by decide) (fun c4 => ?_) (fun c4 => ?_)
    · skip
      refine j_aload_n (pc := 68) dX2_passes_68 rfl (q := 1) rfl ?_
      refine j_getr (pc := 69) jv1_2 jm_01 kf_RX2_9 0 kg1_2_0 rfl dX2_passes_69 ?_
      refine j_iload_n (pc := 72) dX2_passes_72 rfl (q := 4) rfl ?_
      refine j_iload (pc := 73) dX2_passes_73 (q := 5) rfl ?_
      refine j_callVi2 (pc := 75) (ct_X9_yellowAt fu M l3 l4 hl3 hl4) kg_942 km_X9_yellowAt kv_X9_yellowAt rfl rfl ⟨(Nat.le_of_ble_eq_true rfl), (Nat.le_of_ble_eq_true rfl)⟩ jv1_1 jm_01 ko1_1 rfl rfl (Nat.le_of_ble_eq_true rfl) dX2_passes_75 (fun v5 M6 h7 => ?_)
      refine j_if_ne (tgt := 93) (pc := 78) h7 dX2_passes_78 (by decide) (fun c8 => ?_) (fun c8 => ?_)
      · skip
        refine j_aload_n (pc := 81) dX2_passes_81 rfl (q := 1) rfl ?_
        refine j_getr (pc := 82) jv1_2 jm_01 kf_RX2_9 0 kg1_2_0 rfl dX2_passes_82 ?_
        refine j_iload (pc := 85) dX2_passes_85 (q := 5) rfl ?_
        refine j_callVi1 (pc := 87) (ct_X9_slowAt fu M6 l4 hl4) kg_899 km_X9_slowAt kv_X9_slowAt rfl rfl ⟨(Nat.le_of_ble_eq_true rfl), (Nat.le_of_ble_eq_true rfl)⟩ jv1_1 jm_01 ko1_1 rfl rfl (Nat.le_of_ble_eq_true rfl) dX2_passes_87 (fun v9 M10 h11 => ?_)
        refine j_if_eq (tgt := 112) (pc := 90) h11 dX2_passes_90 (by decide) (fun c12 => ?_) (fun c12 => ?_)
        · skip
          refine j_aload_n (pc := 112) dX2_passes_112 rfl (q := 2) rfl ?_
          refine j_dup (pc := 113) dX2_passes_113 rfl ?_
          refine j_geti (pc := 114) jv1_9 gr1 kf_RX2_224 kg1_9_10 dX2_passes_114 (fun h13 => ?_)
          refine j_iconst (pc := 117) dX2_passes_117 ?_
          refine j_iadd (pc := 118) dX2_passes_118 ?_
          refine j_put (pc := 119) jv1_9 gr1 kf_RX2_224 wI1 kp_X6_10 kx1_9_10 (jm_w_in _) rfl rfl dX2_passes_119 (fun M14 => ?_)
          refine j_iconst (pc := 122) dX2_passes_122 ?_
          exact j_iret (pc := 123) (jm_inL (by decide) (by decide)) rfl dX2_passes_123
        · skip
          refine j_sub (pc := 93) [(1, jm_vr wd1 X 9 r1)] [2] rfl ?_
          exact bX2_passes_93 X fu  M10 r1 gr1
      · skip
        refine j_sub (pc := 93) [(1, jm_vr wd1 X 9 r1)] [2] rfl ?_
        exact bX2_passes_93 X fu  M6 r1 gr1
    · skip
      refine j_iconst (pc := 66) dX2_passes_66 ?_
      exact j_iret (pc := 67) (jm_inL (by decide) (by decide)) rfl dX2_passes_67
set_option maxHeartbeats 4000000 in
set_option maxRecDepth 100000 in
theorem bX2_passes_24 (X : jm_X) (fu : Nat) : ∀ (M : jm_M) (r1 r2 l3 l4 l5 s0 : Int) (gr1 : 0 ≤ r1 ∧ r1 < 6) (gr2 : 0 ≤ r2 ∧ r2 < 6) (hl3 : jm_in l3) (hl4 : jm_in l4) (hl5 : jm_in l5) (hs0 : jm_in s0), jm_J wd1 (jm_qi .boolean) cX2_passes 8 RX2 rmX2_passes X M [(0, jm_vr wd1 X 2 0), (1, jm_vr wd1 X 9 r1), (2, jm_vr wd1 X 9 r2), (3, jm_i l3), (4, jm_i l4), (5, jm_i l5)] [jm_i s0] 24 (gX2_passes_24 fu M r1 r2 l3 l4 l5 s0) := by
  intro M r1 r2 l3 l4 l5 s0 gr1 gr2 hl3 hl4 hl5 hs0
  unfold gX2_passes_24
  refine j_istore (pc := 24) [(6, jm_i s0), (0, jm_vr wd1 X 2 0), (1, jm_vr wd1 X 9 r1), (2, jm_vr wd1 X 9 r2), (3, jm_i l3), (4, jm_i l4), (5, jm_i l5)] dX2_passes_24 (by decide) rfl ?_
  refine j_iload (pc := 26) dX2_passes_26 (q := 0) rfl ?_
  refine j_if_eq (tgt := 35) (pc := 28) hs0 dX2_passes_28 (by decide) (fun c1 => ?_) (fun c1 => ?_)
  · skip
    refine j_aload_n (pc := 35) dX2_passes_35 rfl (q := 1) rfl ?_
    refine j_getr (pc := 36) jv1_2 jm_01 kf_RX2_9 0 kg1_2_0 rfl dX2_passes_36 ?_
    refine j_getr (pc := 39) jv1_1 jm_01 kf_RX2_215 0 kg1_1_3 rfl dX2_passes_39 ?_
    refine j_iload_n (pc := 42) dX2_passes_42 rfl (q := 4) rfl ?_
    refine j_iald (pc := 43) jv1_15 jm_01 rfl (by decide) ka1_15 dX2_passes_43 (fun c2 h3 => ?_)
    refine j_sub (pc := 44) [(0, jm_vr wd1 X 2 0), (1, jm_vr wd1 X 9 r1), (2, jm_vr wd1 X 9 r2), (3, jm_i l3), (4, jm_i l4), (5, jm_i l5)] [1, 2, 3, 4, 5, 6] rfl ?_
    exact bX2_passes_44 X fu  M r1 r2 l3 l4 l5 (M 15 0 l3) gr1 gr2 hl3 hl4 hl5 h3
  · skip
    refine j_iconst (pc := 31) dX2_passes_31 ?_
    refine j_goto (tgt := 44) (pc := 32) dX2_passes_32 (by decide) ?_
    refine j_sub (pc := 44) [(0, jm_vr wd1 X 2 0), (1, jm_vr wd1 X 9 r1), (2, jm_vr wd1 X 9 r2), (3, jm_i l3), (4, jm_i l4), (5, jm_i l5)] [1, 2, 3, 4, 5, 6] rfl ?_
    exact bX2_passes_44 X fu  M r1 r2 l3 l4 l5 0 gr1 gr2 hl3 hl4 hl5 (jm_inL (by decide) (by decide))
set_option maxHeartbeats 4000000 in
set_option maxRecDepth 100000 in
theorem ct_X2_passes (fu : Nat) (M : jm_M) (r1 r2 l3 l4 l5 : Int) (gr1 : 0 ≤ r1 ∧ r1 < 6) (gr2 : 0 ≤ r2 ∧ r2 < 6) (hl3 : jm_in l3) (hl4 : jm_in l4) (hl5 : jm_in l5) : jm_Ci wd1 yX2_passes cX2_passes 8 (some .boolean) rmX2_passes M (fun G ad => [.ref (ad (jm_r wd1 2 0)), .ref (ad (jm_r wd1 9 r1)), .ref (ad (jm_r wd1 9 r2)), jm_i l3, jm_i l4, jm_i l5]) (fX2_passes fu M r1 r2 l3 l4 l5) := by
  refine jm_met_i (fun X => [(0, jm_vr wd1 X 2 0), (1, jm_vr wd1 X 9 r1), (2, jm_vr wd1 X 9 r2), (3, jm_i l3), (4, jm_i l4), (5, jm_i l5)]) (by decide) (fun _ _ => (Nat.le_of_ble_eq_true rfl)) (fun _ => rfl) (fun X => ?_)
  unfold fX2_passes
  refine j_aload_n (pc := 0) dX2_passes_0 rfl (q := 1) rfl ?_
  refine j_geti (pc := 1) jv1_9 gr1 kf_RX2_101 kg1_9_1 dX2_passes_1 (fun h1 => ?_)
  refine j_aload_n (pc := 4) dX2_passes_4 rfl (q := 2) rfl ?_
  refine j_geti (pc := 5) jv1_9 gr2 kf_RX2_101 kg1_9_1 dX2_passes_5 (fun h2 => ?_)
  refine j_isub (pc := 8) dX2_passes_8 ?_
  refine j_aload_n (pc := 9) dX2_passes_9 rfl (q := 0) rfl ?_
  refine j_getr (pc := 10) jv1_2 jm_01 kf_RX2_9 0 kg1_2_0 rfl dX2_passes_10 ?_
  refine j_geti (pc := 13) jv1_1 jm_01 kf_RX2_159 kg1_1_0 dX2_passes_13 (fun h3 => ?_)
  refine j_icmp_lt (tgt := 23) (pc := 16) (jm_w_in _) h3 dX2_passes_16 (by decide) (fun c4 => ?_) (fun c4 => ?_)
  · skip
    refine j_iconst (pc := 23) dX2_passes_23 ?_
    refine j_sub (pc := 24) [(0, jm_vr wd1 X 2 0), (1, jm_vr wd1 X 9 r1), (2, jm_vr wd1 X 9 r2), (3, jm_i l3), (4, jm_i l4), (5, jm_i l5)] [0, 1, 2, 3, 4, 5] rfl ?_
    exact bX2_passes_24 X fu  M r1 r2 l3 l4 l5 0 gr1 gr2 hl3 hl4 hl5 (jm_inL (by decide) (by decide))
  · skip
    refine j_iconst (pc := 19) dX2_passes_19 ?_
    refine j_goto (tgt := 24) (pc := 20) dX2_passes_20 (by decide) ?_
    refine j_sub (pc := 24) [(0, jm_vr wd1 X 2 0), (1, jm_vr wd1 X 9 r1), (2, jm_vr wd1 X 9 r2), (3, jm_i l3), (4, jm_i l4), (5, jm_i l5)] [0, 1, 2, 3, 4, 5] rfl ?_
    exact bX2_passes_24 X fu  M r1 r2 l3 l4 l5 1 gr1 gr2 hl3 hl4 hl5 (jm_inL (by decide) (by decide))
abbrev rmX2_heldEnd : Room := { frames := 3, cells := 0, slots := 0, locals := 74 }
set_option maxHeartbeats 4000000 in
set_option maxRecDepth 100000 in
theorem b0X2_heldEnd_9 (X : jm_X) (fu : Nat) (k9 : jm_M → Int → Int → Int → Int → Int → Int → jm_R) (hk9 : ∀ (M : jm_M) (l1 l2 l3 l4 l5 l6 : Int) (hl1 : jm_in l1) (hl2 : jm_in l2) (hl3 : jm_in l3) (hl4 : jm_in l4) (hl5 : jm_in l5) (hl6 : jm_in l6), jm_J wd1 (jm_qi .int) cX2_heldEnd 9 RX2 rmX2_heldEnd X M [(0, jm_vr wd1 X 2 0), (1, jm_i l1), (2, jm_i l2), (3, jm_i l3), (4, jm_i l4), (5, jm_i l5), (6, jm_i l6)] [] 9 (k9 M l1 l2 l3 l4 l5 l6)) : ∀ (M : jm_M) (l1 l2 l3 l4 l5 l6 : Int) (hl1 : jm_in l1) (hl2 : jm_in l2) (hl3 : jm_in l3) (hl4 : jm_in l4) (hl5 : jm_in l5) (hl6 : jm_in l6), jm_J wd1 (jm_qi .int) cX2_heldEnd 9 RX2 rmX2_heldEnd X M [(0, jm_vr wd1 X 2 0), (1, jm_i l1), (2, jm_i l2), (3, jm_i l3), (4, jm_i l4), (5, jm_i l5), (6, jm_i l6)] [] 9 (gX2_heldEnd_9 fu k9 M l1 l2 l3 l4 l5 l6) := by
  intro M l1 l2 l3 l4 l5 l6 hl1 hl2 hl3 hl4 hl5 hl6
  unfold gX2_heldEnd_9
  refine j_iload (pc := 9) dX2_heldEnd_9 (q := 6) rfl ?_
  refine j_bipush (pc := 11) 6 dX2_heldEnd_11 (by decide) ?_
  refine j_icmp_ge (tgt := 134) (pc := 13) hl6 (jm_inL (by decide) (by decide)) dX2_heldEnd_13 (by decide) (fun c1 => ?_) (fun c1 => ?_)
  · skip
    refine j_iload (pc := 134) dX2_heldEnd_134 (q := 4) rfl ?_
    exact j_iret (pc := 136) hl4 rfl dX2_heldEnd_136
  · skip
    refine j_aload_n (pc := 16) dX2_heldEnd_16 rfl (q := 0) rfl ?_
    refine j_iload_n (pc := 17) dX2_heldEnd_17 rfl (q := 1) rfl ?_
    refine j_iload_n (pc := 18) dX2_heldEnd_18 rfl (q := 2) rfl ?_
    refine j_iload (pc := 19) dX2_heldEnd_19 (q := 5) rfl ?_
    refine j_callVi3 (pc := 21) (ct_X2_latestBefore fu M l1 l2 l5 hl1 hl2 hl5) kg_934 km_X2_latestBefore kv_X2_latestBefore rfl rfl ⟨(Nat.le_of_ble_eq_true rfl), (Nat.le_of_ble_eq_true rfl)⟩ jv1_2 jm_01 ko1_2 rfl rfl (Nat.le_of_ble_eq_true rfl) dX2_heldEnd_21 (fun v2 M3 h4 => ?_)
    refine j_istore (pc := 24) [(7, jm_i v2), (0, jm_vr wd1 X 2 0), (1, jm_i l1), (2, jm_i l2), (3, jm_i l3), (4, jm_i l4), (5, jm_i l5), (6, jm_i l6)] dX2_heldEnd_24 (by decide) rfl ?_
    refine j_aload_n (pc := 26) dX2_heldEnd_26 rfl (q := 1) rfl ?_
    refine j_iload (pc := 27) dX2_heldEnd_27 (q := 0) rfl ?_
    refine j_callVi1 (pc := 29) (ct_X2_has M3 v2 h4) kg_881 km_X2_has kv_X2_has rfl rfl ⟨(Nat.le_of_ble_eq_true rfl), (Nat.le_of_ble_eq_true rfl)⟩ jv1_2 jm_01 ko1_2 rfl rfl (Nat.le_of_ble_eq_true rfl) dX2_heldEnd_29 (fun v5 M6 h7 => ?_)
    refine j_if_ne (tgt := 38) (pc := 32) h7 dX2_heldEnd_32 (by decide) (fun c8 => ?_) (fun c8 => ?_)
    · skip
      refine j_iload (pc := 35) dX2_heldEnd_35 (q := 5) rfl ?_
      exact j_iret (pc := 37) hl4 rfl dX2_heldEnd_37
    · skip
      refine j_aload_n (pc := 38) dX2_heldEnd_38 rfl (q := 1) rfl ?_
      refine j_getr (pc := 39) jv1_2 jm_01 kf_RX2_27 0 kg1_2_3 rfl dX2_heldEnd_39 ?_
      refine j_iload (pc := 42) dX2_heldEnd_42 (q := 0) rfl ?_
      refine j_aald (pc := 44) jv1_47 jm_01 (by decide) kr1_47 dX2_heldEnd_44 (fun c9 => ?_)
      refine j_getr (pc := 45) jv1_9 (by omega) kf_RX2_202 v2 kg1_9_19 rfl dX2_heldEnd_45 ?_
      refine j_iload_n (pc := 48) dX2_heldEnd_48 rfl (q := 3) rfl ?_
      refine j_iald (pc := 49) jv1_33 (by omega) rfl (by decide) ka1_33 dX2_heldEnd_49 (fun c10 h11 => ?_)
      refine j_aload_n (pc := 50) dX2_heldEnd_50 rfl (q := 1) rfl ?_
      refine j_getr (pc := 51) jv1_2 jm_01 kf_RX2_9 0 kg1_2_0 rfl dX2_heldEnd_51 ?_
      refine j_getr (pc := 54) jv1_1 jm_01 kf_RX2_70 0 kg1_1_6 rfl dX2_heldEnd_54 ?_
      refine j_iconst (pc := 57) dX2_heldEnd_57 ?_
      refine j_iald (pc := 58) jv1_18 jm_01 rfl (by decide) ka1_18 dX2_heldEnd_58 (fun c12 h13 => ?_)
      refine j_iadd (pc := 59) dX2_heldEnd_59 ?_
      refine j_nm (pc := 60) (jm_w_in _) (fun v14 h15 => ?_)
      refine j_istore (pc := 60) [(8, jm_i v14), (7, jm_i v2), (0, jm_vr wd1 X 2 0), (1, jm_i l1), (2, jm_i l2), (3, jm_i l3), (4, jm_i l4), (5, jm_i l5), (6, jm_i l6)] dX2_heldEnd_60 (by decide) rfl ?_
      refine j_iload (pc := 62) dX2_heldEnd_62 (q := 6) rfl ?_
      refine j_iload (pc := 64) dX2_heldEnd_64 (q := 0) rfl ?_
      refine j_icmp_lt (tgt := 72) (pc := 66) hl4 h15 dX2_heldEnd_66 (by decide) (fun c16 => ?_) (fun c16 => ?_)
      · skip
        refine j_aload_n (pc := 72) dX2_heldEnd_72 rfl (q := 2) rfl ?_
        refine j_aload_n (pc := 73) dX2_heldEnd_73 rfl (q := 2) rfl ?_
        refine j_getr (pc := 74) jv1_2 jm_01 kf_RX2_27 0 kg1_2_3 rfl dX2_heldEnd_74 ?_
        refine j_iload_n (pc := 77) dX2_heldEnd_77 rfl (q := 3) rfl ?_
        refine j_aald (pc := 78) jv1_47 jm_01 (by decide) kr1_47 dX2_heldEnd_78 (fun c17 => ?_)
        refine j_aload_n (pc := 79) dX2_heldEnd_79 rfl (q := 2) rfl ?_
        refine j_getr (pc := 80) jv1_2 jm_01 kf_RX2_27 0 kg1_2_3 rfl dX2_heldEnd_80 ?_
        refine j_iload (pc := 83) dX2_heldEnd_83 (q := 1) rfl ?_
        refine j_aald (pc := 85) jv1_47 jm_01 (by decide) kr1_47 dX2_heldEnd_85 (fun c18 => ?_)
        refine j_iload_n (pc := 86) dX2_heldEnd_86 rfl (q := 4) rfl ?_
        refine j_iload_n (pc := 87) dX2_heldEnd_87 rfl (q := 5) rfl ?_
        refine j_iload (pc := 88) dX2_heldEnd_88 (q := 6) rfl ?_
        refine j_callVi5 (pc := 90) (ct_X2_passes fu M6 l1 v2 l2 l3 l4 (by omega) (by omega) hl2 hl3 hl4) kg_938 km_X2_passes kv_X2_passes rfl rfl ⟨(Nat.le_of_ble_eq_true rfl), (Nat.le_of_ble_eq_true rfl)⟩ jv1_2 jm_01 ko1_2 rfl rfl (Nat.le_of_ble_eq_true rfl) dX2_heldEnd_90 (fun v19 M20 h21 => ?_)
        refine j_if_ne (tgt := 114) (pc := 93) h21 dX2_heldEnd_93 (by decide) (fun c22 => ?_) (fun c22 => ?_)
        · skip
          refine j_aload_n (pc := 96) dX2_heldEnd_96 rfl (q := 2) rfl ?_
          refine j_getr (pc := 97) jv1_2 jm_01 kf_RX2_27 0 kg1_2_3 rfl dX2_heldEnd_97 ?_
          refine j_iload_n (pc := 100) dX2_heldEnd_100 rfl (q := 3) rfl ?_
          refine j_aald (pc := 101) jv1_47 jm_01 (by decide) kr1_47 dX2_heldEnd_101 (fun c23 => ?_)
          refine j_dup (pc := 102) dX2_heldEnd_102 rfl ?_
          refine j_geti (pc := 103) jv1_9 (by omega) kf_RX2_209 kg1_9_11 dX2_heldEnd_103 (fun h24 => ?_)
          refine j_iconst (pc := 106) dX2_heldEnd_106 ?_
          refine j_iadd (pc := 107) dX2_heldEnd_107 ?_
          refine j_put (pc := 108) jv1_9 (by omega) kf_RX2_209 wI1 kp_X6_11 kx1_9_11 (jm_w_in _) rfl rfl dX2_heldEnd_108 (fun M25 => ?_)
          refine j_iload (pc := 111) dX2_heldEnd_111 (q := 0) rfl ?_
          exact j_iret (pc := 113) h15 rfl dX2_heldEnd_113
        · skip
          refine j_aload_n (pc := 114) dX2_heldEnd_114 rfl (q := 2) rfl ?_
          refine j_getr (pc := 115) jv1_2 jm_01 kf_RX2_27 0 kg1_2_3 rfl dX2_heldEnd_115 ?_
          refine j_iload (pc := 118) dX2_heldEnd_118 (q := 1) rfl ?_
          refine j_aald (pc := 120) jv1_47 jm_01 (by decide) kr1_47 dX2_heldEnd_120 (fun c26 => ?_)
          refine j_getr (pc := 121) jv1_9 (by omega) kf_RX2_212 v2 kg1_9_18 rfl dX2_heldEnd_121 ?_
          refine j_iload_n (pc := 124) dX2_heldEnd_124 rfl (q := 4) rfl ?_
          refine j_iald (pc := 125) jv1_32 (by omega) rfl (by decide) ka1_32 dX2_heldEnd_125 (fun c27 h28 => ?_)
          refine j_nm (pc := 126) h28 (fun v29 h30 => ?_)
          refine j_istore (pc := 126) [(5, jm_i v29), (8, jm_i v14), (7, jm_i v2), (0, jm_vr wd1 X 2 0), (1, jm_i l1), (2, jm_i l2), (3, jm_i l3), (4, jm_i l4), (6, jm_i l6)] dX2_heldEnd_126 (by decide) rfl ?_
          refine j_iinc (pc := 128) [(5, jm_i v29), (8, jm_i v14), (7, jm_i v2), (0, jm_vr wd1 X 2 0), (1, jm_i l1), (2, jm_i l2), (3, jm_i l3), (4, jm_i l4)] (q := 8) dX2_heldEnd_128 rfl (by decide) (fun _ => rfl) (fun v31 h32 => ?_)
          refine j_goto (tgt := 9) (pc := 131) dX2_heldEnd_131 (by decide) ?_
          refine j_sub (pc := 9) [(0, jm_vr wd1 X 2 0), (1, jm_i l1), (2, jm_i l2), (3, jm_i l3), (4, jm_i l4), (5, jm_i v29), (6, jm_i v31)] [4, 5, 6, 7, 8, 1, 0] rfl ?_
          exact hk9 M20 l1 l2 l3 l4 v29 v31 hl1 hl2 hl3 hl4 h30 h32
      · skip
        refine j_iload (pc := 69) dX2_heldEnd_69 (q := 6) rfl ?_
        exact j_iret (pc := 71) hl4 rfl dX2_heldEnd_71
theorem bX2_heldEnd_9 (X : jm_X) (fu : Nat) : ∀ (n : Nat) (M : jm_M) (l1 l2 l3 l4 l5 l6 : Int) (hl1 : jm_in l1) (hl2 : jm_in l2) (hl3 : jm_in l3) (hl4 : jm_in l4) (hl5 : jm_in l5) (hl6 : jm_in l6), jm_J wd1 (jm_qi .int) cX2_heldEnd 9 RX2 rmX2_heldEnd X M [(0, jm_vr wd1 X 2 0), (1, jm_i l1), (2, jm_i l2), (3, jm_i l3), (4, jm_i l4), (5, jm_i l5), (6, jm_i l6)] [] 9 (fX2_heldEnd_9 fu n M l1 l2 l3 l4 l5 l6) := by
  intro n
  induction n with
  | zero => intro M l1 l2 l3 l4 l5 l6 hl1 hl2 hl3 hl4 hl5 hl6; exact j_none
  | succ n ih => intro M l1 l2 l3 l4 l5 l6 hl1 hl2 hl3 hl4 hl5 hl6; exact b0X2_heldEnd_9 X fu (fX2_heldEnd_9 fu n) ih M l1 l2 l3 l4 l5 l6 hl1 hl2 hl3 hl4 hl5 hl6
set_option maxHeartbeats 4000000 in
set_option maxRecDepth 100000 in
theorem ct_X2_heldEnd (fu : Nat) (M : jm_M) (l1 l2 l3 l4 : Int) (hl1 : jm_in l1) (hl2 : jm_in l2) (hl3 : jm_in l3) (hl4 : jm_in l4) : jm_Ci wd1 yX2_heldEnd cX2_heldEnd 9 (some .int) rmX2_heldEnd M (fun G ad => [.ref (ad (jm_r wd1 2 0)), jm_i l1, jm_i l2, jm_i l3, jm_i l4]) (fX2_heldEnd fu M l1 l2 l3 l4) := by
  refine jm_met_i (fun X => [(0, jm_vr wd1 X 2 0), (1, jm_i l1), (2, jm_i l2), (3, jm_i l3), (4, jm_i l4)]) (by decide) (fun _ _ => (Nat.le_of_ble_eq_true rfl)) (fun _ => rfl) (fun X => ?_)
  unfold fX2_heldEnd
  refine j_aload_n (pc := 0) dX2_heldEnd_0 rfl (q := 0) rfl ?_
  refine j_geti (pc := 1) jv1_2 jm_01 kf_RX2_61 kg1_2_6 dX2_heldEnd_1 (fun h1 => ?_)
  refine j_nm (pc := 4) h1 (fun v2 h3 => ?_)
  refine j_istore (pc := 4) [(5, jm_i v2), (0, jm_vr wd1 X 2 0), (1, jm_i l1), (2, jm_i l2), (3, jm_i l3), (4, jm_i l4)] dX2_heldEnd_4 (by decide) rfl ?_
  refine j_iconst (pc := 6) dX2_heldEnd_6 ?_
  refine j_istore (pc := 7) [(6, jm_i 0), (5, jm_i v2), (0, jm_vr wd1 X 2 0), (1, jm_i l1), (2, jm_i l2), (3, jm_i l3), (4, jm_i l4)] dX2_heldEnd_7 (by decide) rfl ?_
  refine j_sub (pc := 9) [(0, jm_vr wd1 X 2 0), (1, jm_i l1), (2, jm_i l2), (3, jm_i l3), (4, jm_i l4), (5, jm_i v2), (6, jm_i 0)] [2, 3, 4, 5, 6, 1, 0] rfl ?_
  exact bX2_heldEnd_9 X fu  fu M l1 l2 l3 l4 v2 0 hl1 hl2 hl3 hl4 h3 (jm_inL (by decide) (by decide))
abbrev rmX6_endLine : Room := { frames := 1, cells := 0, slots := 0, locals := 21 }
set_option maxHeartbeats 4000000 in
set_option maxRecDepth 100000 in
theorem ct_X6_endLine (M : jm_M) (r0 l1 l2 l3 l4 : Int) (gr0 : 0 ≤ r0 ∧ r0 < 6) (hl1 : jm_in l1) (hl2 : jm_in l2) (hl3 : jm_in l3) (hl4 : jm_in l4) : jm_Cv wd1 yX6_endLine cX6_endLine 5 none rmX6_endLine M (fun G ad => [.ref (ad (jm_r wd1 9 r0)), jm_i l1, jm_i l2, jm_i l3, jm_i l4]) (fX6_endLine M r0 l1 l2 l3 l4) := by
  refine jm_met_v (fun X => [(0, jm_vr wd1 X 9 r0), (1, jm_i l1), (2, jm_i l2), (3, jm_i l3), (4, jm_i l4)]) (by decide) (fun _ _ => (Nat.le_of_ble_eq_true rfl)) (fun _ => rfl) (fun X => ?_)
  unfold fX6_endLine
  refine j_iload_n (pc := 0) dX6_endLine_0 rfl (q := 1) rfl ?_
  refine j_bipush (pc := 1) 60 dX6_endLine_1 (by decide) ?_
  refine j_callNi2 (pc := 3) (ct_X11_isIndex M l1 60 hl1 (jm_inL (by decide) (by decide))) (host := "RaceByLaps") (by decide) km_X11_isIndex kg_562 rfl rfl ⟨(Nat.le_of_ble_eq_true rfl), (Nat.le_of_ble_eq_true rfl)⟩ rfl rfl (Nat.le_of_ble_eq_true rfl) dX6_endLine_3 (fun v1 M2 h3 => ?_)
  refine j_if_eq (tgt := 51) (pc := 6) h3 dX6_endLine_6 (by decide) (fun c4 => ?_) (fun c4 => ?_)
  · skip
    exact j_vret (pc := 51) dX6_endLine_51
  · skip
    refine j_iload_n (pc := 9) dX6_endLine_9 rfl (q := 2) rfl ?_
    refine j_iconst (pc := 10) dX6_endLine_10 ?_
    refine j_callNi2 (pc := 11) (ct_X11_isIndex M2 l2 5 hl2 (jm_inL (by decide) (by decide))) (host := "RaceByLaps") (by decide) km_X11_isIndex kg_562 rfl rfl ⟨(Nat.le_of_ble_eq_true rfl), (Nat.le_of_ble_eq_true rfl)⟩ rfl rfl (Nat.le_of_ble_eq_true rfl) dX6_endLine_11 (fun v5 M6 h7 => ?_)
    refine j_if_eq (tgt := 51) (pc := 14) h7 dX6_endLine_14 (by decide) (fun c8 => ?_) (fun c8 => ?_)
    · skip
      exact j_vret (pc := 51) dX6_endLine_51
    · skip
      refine j_aload_n (pc := 17) dX6_endLine_17 rfl (q := 0) rfl ?_
      refine j_getr (pc := 18) jv1_9 gr0 kf_RX6_15 r0 kg1_9_16 rfl dX6_endLine_18 ?_
      refine j_iload_n (pc := 21) dX6_endLine_21 rfl (q := 1) rfl ?_
      refine j_iload_n (pc := 22) dX6_endLine_22 rfl (q := 3) rfl ?_
      refine j_iast (pc := 23) jv1_30 (by omega) rfl (by decide) wI1 ka1_30 hl3 dX6_endLine_23 (fun c9 M10 => ?_)
      refine j_aload_n (pc := 24) dX6_endLine_24 rfl (q := 0) rfl ?_
      refine j_iload_n (pc := 25) dX6_endLine_25 rfl (q := 1) rfl ?_
      refine j_iconst (pc := 26) dX6_endLine_26 ?_
      refine j_iadd (pc := 27) dX6_endLine_27 ?_
      refine j_put (pc := 28) jv1_9 gr0 kf_RX6_34 wI1 kp_X6_2 kx1_9_2 (jm_w_in _) rfl rfl dX6_endLine_28 (fun M11 => ?_)
      refine j_aload_n (pc := 31) dX6_endLine_31 rfl (q := 0) rfl ?_
      refine j_getr (pc := 32) jv1_9 gr0 kf_RX6_21 r0 kg1_9_18 rfl dX6_endLine_32 ?_
      refine j_iload_n (pc := 35) dX6_endLine_35 rfl (q := 2) rfl ?_
      refine j_iload (pc := 36) dX6_endLine_36 (q := 4) rfl ?_
      refine j_iast (pc := 38) jv1_32 (by omega) rfl (by decide) wI1 ka1_32 hl4 dX6_endLine_38 (fun c12 M13 => ?_)
      refine j_aload_n (pc := 39) dX6_endLine_39 rfl (q := 0) rfl ?_
      refine j_getr (pc := 40) jv1_9 gr0 kf_RX6_24 r0 kg1_9_19 rfl dX6_endLine_40 ?_
      refine j_iload_n (pc := 43) dX6_endLine_43 rfl (q := 2) rfl ?_
      refine j_iload_n (pc := 44) dX6_endLine_44 rfl (q := 3) rfl ?_
      refine j_iast (pc := 45) jv1_33 (by omega) rfl (by decide) wI1 ka1_33 hl3 dX6_endLine_45 (fun c14 M15 => ?_)
      refine j_aload_n (pc := 46) dX6_endLine_46 rfl (q := 0) rfl ?_
      refine j_iload_n (pc := 47) dX6_endLine_47 rfl (q := 3) rfl ?_
      refine j_put (pc := 48) jv1_9 gr0 kf_RX6_27 wI1 kp_X6_0 kx1_9_0 hl3 rfl rfl dX6_endLine_48 (fun M16 => ?_)
      exact j_vret (pc := 51) dX6_endLine_51
abbrev rmX9_lapOf : Room := { frames := 0, cells := 0, slots := 0, locals := 0 }
set_option maxHeartbeats 4000000 in
set_option maxRecDepth 100000 in
theorem ct_X9_lapOf (M : jm_M) (l1 : Int) (hl1 : jm_in l1) : jm_Ci wd1 yX9_lapOf cX9_lapOf 2 (some .int) rmX9_lapOf M (fun G ad => [.ref (ad (jm_r wd1 1 0)), jm_i l1]) (fX9_lapOf M l1) := by
  refine jm_met_i (fun X => [(0, jm_vr wd1 X 1 0), (1, jm_i l1)]) (by decide) (fun _ _ => (Nat.le_of_ble_eq_true rfl)) (fun _ => rfl) (fun X => ?_)
  unfold fX9_lapOf
  refine j_aload_n (pc := 0) dX9_lapOf_0 rfl (q := 0) rfl ?_
  refine j_geti (pc := 1) jv1_1 jm_01 kf_RX9_49 kg1_1_0 dX9_lapOf_1 (fun h1 => ?_)
  refine j_if_le (tgt := 16) (pc := 4) h1 dX9_lapOf_4 (by decide) (fun c2 => ?_) (fun c2 => ?_)
  · skip
    refine j_iconst (pc := 16) dX9_lapOf_16 ?_
    exact j_iret (pc := 17) (jm_inL (by decide) (by decide)) rfl dX9_lapOf_17
  · skip
    refine j_iload_n (pc := 7) dX9_lapOf_7 rfl (q := 1) rfl ?_
    refine j_aload_n (pc := 8) dX9_lapOf_8 rfl (q := 0) rfl ?_
    refine j_geti (pc := 9) jv1_1 jm_01 kf_RX9_49 kg1_1_0 dX9_lapOf_9 (fun h3 => ?_)
    refine j_gd (pc := 12) (fun c4 => ?_)
    refine j_idiv (pc := 12) hl1 h3 dX9_lapOf_12 c4 ?_
    refine j_goto (tgt := 17) (pc := 13) dX9_lapOf_13 (by decide) ?_
    exact j_iret (pc := 17) (jm_div_in _ _) rfl dX9_lapOf_17
abbrev rmX9_lineOf : Room := { frames := 0, cells := 0, slots := 0, locals := 0 }
set_option maxHeartbeats 4000000 in
set_option maxRecDepth 100000 in
theorem ct_X9_lineOf (M : jm_M) (l1 l2 : Int) (hl1 : jm_in l1) (hl2 : jm_in l2) : jm_Ci wd1 yX9_lineOf cX9_lineOf 3 (some .int) rmX9_lineOf M (fun G ad => [.ref (ad (jm_r wd1 1 0)), jm_i l1, jm_i l2]) (fX9_lineOf M l1 l2) := by
  refine jm_met_i (fun X => [(0, jm_vr wd1 X 1 0), (1, jm_i l1), (2, jm_i l2)]) (by decide) (fun _ _ => (Nat.le_of_ble_eq_true rfl)) (fun _ => rfl) (fun X => ?_)
  unfold fX9_lineOf
  refine j_iload_n (pc := 0) dX9_lineOf_0 rfl (q := 1) rfl ?_
  refine j_aload_n (pc := 1) dX9_lineOf_1 rfl (q := 0) rfl ?_
  refine j_geti (pc := 2) jv1_1 jm_01 kf_RX9_49 kg1_1_0 dX9_lineOf_2 (fun h1 => ?_)
  refine j_imul (pc := 5) dX9_lineOf_5 ?_
  refine j_iload_n (pc := 6) dX9_lineOf_6 rfl (q := 2) rfl ?_
  refine j_iadd (pc := 7) dX9_lineOf_7 ?_
  exact j_iret (pc := 8) (jm_w_in _) rfl dX9_lineOf_8
abbrev rmX6_timeAt : Room := { frames := 1, cells := 0, slots := 0, locals := 21 }
set_option maxHeartbeats 4000000 in
set_option maxRecDepth 100000 in
theorem ct_X6_timeAt (M : jm_M) (r0 l1 : Int) (gr0 : 0 ≤ r0 ∧ r0 < 6) (hl1 : jm_in l1) : jm_Ci wd1 yX6_timeAt cX6_timeAt 2 (some .int) rmX6_timeAt M (fun G ad => [.ref (ad (jm_r wd1 9 r0)), jm_i l1]) (fX6_timeAt M r0 l1) := by
  refine jm_met_i (fun X => [(0, jm_vr wd1 X 9 r0), (1, jm_i l1)]) (by decide) (fun _ _ => (Nat.le_of_ble_eq_true rfl)) (fun _ => rfl) (fun X => ?_)
  unfold fX6_timeAt
  refine j_iload_n (pc := 0) dX6_timeAt_0 rfl (q := 1) rfl ?_
  refine j_aload_n (pc := 1) dX6_timeAt_1 rfl (q := 0) rfl ?_
  refine j_geti (pc := 2) jv1_9 gr0 kf_RX6_34 kg1_9_2 dX6_timeAt_2 (fun h1 => ?_)
  refine j_callNi2 (pc := 5) (ct_X11_isIndex M l1 (M 9 r0 2) hl1 h1) (host := "RaceByLaps") (by decide) km_X11_isIndex kg_562 rfl rfl ⟨(Nat.le_of_ble_eq_true rfl), (Nat.le_of_ble_eq_true rfl)⟩ rfl rfl (Nat.le_of_ble_eq_true rfl) dX6_timeAt_5 (fun v2 M3 h4 => ?_)
  refine j_if_eq (tgt := 20) (pc := 8) h4 dX6_timeAt_8 (by decide) (fun c5 => ?_) (fun c5 => ?_)
  · skip
    refine j_iconst (pc := 20) dX6_timeAt_20 ?_
    exact j_iret (pc := 21) (jm_inL (by decide) (by decide)) rfl dX6_timeAt_21
  · skip
    refine j_aload_n (pc := 11) dX6_timeAt_11 rfl (q := 0) rfl ?_
    refine j_getr (pc := 12) jv1_9 gr0 kf_RX6_15 r0 kg1_9_16 rfl dX6_timeAt_12 ?_
    refine j_iload_n (pc := 15) dX6_timeAt_15 rfl (q := 1) rfl ?_
    refine j_iald (pc := 16) jv1_30 (by omega) rfl (by decide) ka1_30 dX6_timeAt_16 (fun c6 h7 => ?_)
    refine j_goto (tgt := 21) (pc := 17) dX6_timeAt_17 (by decide) ?_
    exact j_iret (pc := 21) h7 rfl dX6_timeAt_21
abbrev rmX2_isRaceWon : Room := { frames := 2, cells := 0, slots := 0, locals := 42 }
set_option maxHeartbeats 4000000 in
set_option maxRecDepth 100000 in
theorem b0X2_isRaceWon_29 (X : jm_X) (fu : Nat) (k29 : jm_M → Int → Int → Int → Int → jm_R) (hk29 : ∀ (M : jm_M) (l1 l2 l3 l4 : Int) (hl1 : jm_in l1) (hl2 : jm_in l2) (hl3 : jm_in l3) (hl4 : jm_in l4), jm_J wd1 (jm_qi .boolean) cX2_isRaceWon 6 RX2 rmX2_isRaceWon X M [(0, jm_vr wd1 X 2 0), (1, jm_i l1), (2, jm_i l2), (3, jm_i l3), (4, jm_i l4)] [] 29 (k29 M l1 l2 l3 l4)) : ∀ (M : jm_M) (l1 l2 l3 l4 : Int) (hl1 : jm_in l1) (hl2 : jm_in l2) (hl3 : jm_in l3) (hl4 : jm_in l4), jm_J wd1 (jm_qi .boolean) cX2_isRaceWon 6 RX2 rmX2_isRaceWon X M [(0, jm_vr wd1 X 2 0), (1, jm_i l1), (2, jm_i l2), (3, jm_i l3), (4, jm_i l4)] [] 29 (gX2_isRaceWon_29 fu k29 M l1 l2 l3 l4) := by
  intro M l1 l2 l3 l4 hl1 hl2 hl3 hl4
  unfold gX2_isRaceWon_29
  refine j_iload (pc := 29) dX2_isRaceWon_29 (q := 4) rfl ?_
  refine j_aload_n (pc := 31) dX2_isRaceWon_31 rfl (q := 0) rfl ?_
  refine j_geti (pc := 32) jv1_2 jm_01 kf_RX2_37 kg1_2_5 dX2_isRaceWon_32 (fun h1 => ?_)
  refine j_icmp_ge (tgt := 84) (pc := 35) hl4 h1 dX2_isRaceWon_35 (by decide) (fun c2 => ?_) (fun c2 => ?_)
  · skip
    refine j_iconst (pc := 84) dX2_isRaceWon_84 ?_
    exact j_iret (pc := 85) (jm_inL (by decide) (by decide)) rfl dX2_isRaceWon_85
  · skip
    refine j_iload (pc := 38) dX2_isRaceWon_38 (q := 4) rfl ?_
    refine j_bipush (pc := 40) 6 dX2_isRaceWon_40 (by decide) ?_
    refine j_icmp_ge (tgt := 84) (pc := 42) hl4 (jm_inL (by decide) (by decide)) dX2_isRaceWon_42 (by decide) (fun c3 => ?_) (fun c3 => ?_)
    · skip
      refine j_iconst (pc := 84) dX2_isRaceWon_84 ?_
      exact j_iret (pc := 85) (jm_inL (by decide) (by decide)) rfl dX2_isRaceWon_85
    · skip
      refine j_aload_n (pc := 45) dX2_isRaceWon_45 rfl (q := 0) rfl ?_
      refine j_getr (pc := 46) jv1_2 jm_01 kf_RX2_27 0 kg1_2_3 rfl dX2_isRaceWon_46 ?_
      refine j_iload (pc := 49) dX2_isRaceWon_49 (q := 4) rfl ?_
      refine j_aald (pc := 51) jv1_47 jm_01 (by decide) kr1_47 dX2_isRaceWon_51 (fun c4 => ?_)
      refine j_iload_n (pc := 52) dX2_isRaceWon_52 rfl (q := 3) rfl ?_
      refine j_callVi1 (pc := 53) (ct_X6_timeAt M l4 l3 (by omega) hl3) kg_966 km_X6_timeAt kv_X6_timeAt rfl rfl ⟨(Nat.le_of_ble_eq_true rfl), (Nat.le_of_ble_eq_true rfl)⟩ jv1_9 (by omega) ko1_9 rfl rfl (Nat.le_of_ble_eq_true rfl) dX2_isRaceWon_53 (fun v5 M6 h7 => ?_)
      refine j_istore (pc := 56) [(5, jm_i v5), (0, jm_vr wd1 X 2 0), (1, jm_i l1), (2, jm_i l2), (3, jm_i l3), (4, jm_i l4)] dX2_isRaceWon_56 (by decide) rfl ?_
      refine j_iload (pc := 58) dX2_isRaceWon_58 (q := 5) rfl ?_
      refine j_iload_n (pc := 60) dX2_isRaceWon_60 rfl (q := 2) rfl ?_
      refine j_icmp_eq (tgt := 78) (pc := 61) hl4 hl1 dX2_isRaceWon_61 (by decide) (fun c8 => ?_) (fun c8 => ?_)
      · skip
        refine j_iinc (pc := 78) [(5, jm_i v5), (0, jm_vr wd1 X 2 0), (1, jm_i l1), (2, jm_i l2), (3, jm_i l3)] (q := 5) dX2_isRaceWon_78 rfl (by decide) (fun _ => rfl) (fun v9 h10 => ?_)
        refine j_goto (tgt := 29) (pc := 81) dX2_isRaceWon_81 (by decide) ?_
        refine j_sub (pc := 29) [(0, jm_vr wd1 X 2 0), (1, jm_i l1), (2, jm_i l2), (3, jm_i l3), (4, jm_i v9)] [2, 3, 4, 5, 0] rfl ?_
        exact hk29 M6 l1 l2 l3 v9 hl1 hl2 hl3 h10
      · skip
        refine j_iload (pc := 64) dX2_isRaceWon_64 (q := 0) rfl ?_
        refine j_iconst (pc := 66) dX2_isRaceWon_66 ?_
        refine j_icmp_eq (tgt := 78) (pc := 67) h7 (jm_inL (by decide) (by decide)) dX2_isRaceWon_67 (by decide) (fun c11 => ?_) (fun c11 => ?_)
        · skip
          refine j_iinc (pc := 78) [(5, jm_i v5), (0, jm_vr wd1 X 2 0), (1, jm_i l1), (2, jm_i l2), (3, jm_i l3)] (q := 5) dX2_isRaceWon_78 rfl (by decide) (fun _ => rfl) (fun v12 h13 => ?_)
          refine j_goto (tgt := 29) (pc := 81) dX2_isRaceWon_81 (by decide) ?_
          refine j_sub (pc := 29) [(0, jm_vr wd1 X 2 0), (1, jm_i l1), (2, jm_i l2), (3, jm_i l3), (4, jm_i v12)] [2, 3, 4, 5, 0] rfl ?_
          exact hk29 M6 l1 l2 l3 v12 hl1 hl2 hl3 h13
        · skip
          refine j_iload (pc := 70) dX2_isRaceWon_70 (q := 0) rfl ?_
          refine j_iload_n (pc := 72) dX2_isRaceWon_72 rfl (q := 3) rfl ?_
          refine j_icmp_gt (tgt := 78) (pc := 73) h7 hl2 dX2_isRaceWon_73 (by decide) (fun c14 => ?_) (fun c14 => ?_)
          · skip
            refine j_iinc (pc := 78) [(5, jm_i v5), (0, jm_vr wd1 X 2 0), (1, jm_i l1), (2, jm_i l2), (3, jm_i l3)] (q := 5) dX2_isRaceWon_78 rfl (by decide) (fun _ => rfl) (fun v15 h16 => ?_)
            refine j_goto (tgt := 29) (pc := 81) dX2_isRaceWon_81 (by decide) ?_
            refine j_sub (pc := 29) [(0, jm_vr wd1 X 2 0), (1, jm_i l1), (2, jm_i l2), (3, jm_i l3), (4, jm_i v15)] [2, 3, 4, 5, 0] rfl ?_
            exact hk29 M6 l1 l2 l3 v15 hl1 hl2 hl3 h16
          · skip
            refine j_iconst (pc := 76) dX2_isRaceWon_76 ?_
            exact j_iret (pc := 77) (jm_inL (by decide) (by decide)) rfl dX2_isRaceWon_77
theorem bX2_isRaceWon_29 (X : jm_X) (fu : Nat) : ∀ (n : Nat) (M : jm_M) (l1 l2 l3 l4 : Int) (hl1 : jm_in l1) (hl2 : jm_in l2) (hl3 : jm_in l3) (hl4 : jm_in l4), jm_J wd1 (jm_qi .boolean) cX2_isRaceWon 6 RX2 rmX2_isRaceWon X M [(0, jm_vr wd1 X 2 0), (1, jm_i l1), (2, jm_i l2), (3, jm_i l3), (4, jm_i l4)] [] 29 (fX2_isRaceWon_29 fu n M l1 l2 l3 l4) := by
  intro n
  induction n with
  | zero => intro M l1 l2 l3 l4 hl1 hl2 hl3 hl4; exact j_none
  | succ n ih => intro M l1 l2 l3 l4 hl1 hl2 hl3 hl4; exact b0X2_isRaceWon_29 X fu (fX2_isRaceWon_29 fu n) ih M l1 l2 l3 l4 hl1 hl2 hl3 hl4
set_option maxHeartbeats 4000000 in
set_option maxRecDepth 100000 in
theorem ct_X2_isRaceWon (fu : Nat) (M : jm_M) (l1 l2 : Int) (hl1 : jm_in l1) (hl2 : jm_in l2) : jm_Ci wd1 yX2_isRaceWon cX2_isRaceWon 6 (some .boolean) rmX2_isRaceWon M (fun G ad => [.ref (ad (jm_r wd1 2 0)), jm_i l1, jm_i l2]) (fX2_isRaceWon fu M l1 l2) := by
  refine jm_met_i (fun X => [(0, jm_vr wd1 X 2 0), (1, jm_i l1), (2, jm_i l2)]) (by decide) (fun _ _ => (Nat.le_of_ble_eq_true rfl)) (fun _ => rfl) (fun X => ?_)
  unfold fX2_isRaceWon
  refine j_aload_n (pc := 0) dX2_isRaceWon_0 rfl (q := 0) rfl ?_
  refine j_getr (pc := 1) jv1_2 jm_01 kf_RX2_9 0 kg1_2_0 rfl dX2_isRaceWon_1 ?_
  refine j_aload_n (pc := 4) dX2_isRaceWon_4 rfl (q := 0) rfl ?_
  refine j_getr (pc := 5) jv1_2 jm_01 kf_RX2_9 0 kg1_2_0 rfl dX2_isRaceWon_5 ?_
  refine j_geti (pc := 8) jv1_1 jm_01 kf_RX2_227 kg1_1_1 dX2_isRaceWon_8 (fun h1 => ?_)
  refine j_iconst (pc := 11) dX2_isRaceWon_11 ?_
  refine j_isub (pc := 12) dX2_isRaceWon_12 ?_
  refine j_aload_n (pc := 13) dX2_isRaceWon_13 rfl (q := 0) rfl ?_
  refine j_getr (pc := 14) jv1_2 jm_01 kf_RX2_9 0 kg1_2_0 rfl dX2_isRaceWon_14 ?_
  refine j_geti (pc := 17) jv1_1 jm_01 kf_RX2_159 kg1_1_0 dX2_isRaceWon_17 (fun h2 => ?_)
  refine j_iconst (pc := 20) dX2_isRaceWon_20 ?_
  refine j_isub (pc := 21) dX2_isRaceWon_21 ?_
  refine j_callVi2 (pc := 22) (ct_X9_lineOf M (jm_w ((M 1 0 1) - 1)) (jm_w ((M 1 0 0) - 1)) (jm_w_in _) (jm_w_in _)) kg_962 km_X9_lineOf kv_X9_lineOf rfl rfl ⟨(Nat.le_of_ble_eq_true rfl), (Nat.le_of_ble_eq_true rfl)⟩ jv1_1 jm_01 ko1_1 rfl rfl (Nat.le_of_ble_eq_true rfl) dX2_isRaceWon_22 (fun v3 M4 h5 => ?_)
  refine j_istore_n (pc := 25) [(3, jm_i v3), (0, jm_vr wd1 X 2 0), (1, jm_i l1), (2, jm_i l2)] dX2_isRaceWon_25 rfl (by decide) rfl ?_
  refine j_iconst (pc := 26) dX2_isRaceWon_26 ?_
  refine j_istore (pc := 27) [(4, jm_i 0), (3, jm_i v3), (0, jm_vr wd1 X 2 0), (1, jm_i l1), (2, jm_i l2)] dX2_isRaceWon_27 (by decide) rfl ?_
  refine j_sub (pc := 29) [(0, jm_vr wd1 X 2 0), (1, jm_i l1), (2, jm_i l2), (3, jm_i v3), (4, jm_i 0)] [2, 3, 4, 1, 0] rfl ?_
  exact bX2_isRaceWon_29 X fu  fu M4 l1 l2 v3 0 hl1 hl2 h5 (jm_inL (by decide) (by decide))
abbrev rmX1_isAsked : Room := { frames := 0, cells := 0, slots := 0, locals := 0 }
set_option maxHeartbeats 4000000 in
set_option maxRecDepth 100000 in
theorem ct_X1_isAsked (M : jm_M) (r0 : Int) (gr0 : 0 ≤ r0 ∧ r0 < 6) : jm_Ci wd1 yX1_isAsked cX1_isAsked 1 (some .boolean) rmX1_isAsked M (fun G ad => [.ref (ad (jm_r wd1 8 r0))]) (fX1_isAsked M r0) := by
  refine jm_met_i (fun X => [(0, jm_vr wd1 X 8 r0)]) (by decide) (fun _ _ => (Nat.le_of_ble_eq_true rfl)) (fun _ => rfl) (fun X => ?_)
  unfold fX1_isAsked
  refine j_aload_n (pc := 0) dX1_isAsked_0 rfl (q := 0) rfl ?_
  refine j_geti (pc := 1) jv1_8 gr0 kf_RX1_43 kg1_8_12 dX1_isAsked_1 (fun h1 => ?_)
  refine j_if_eq (tgt := 18) (pc := 4) h1 dX1_isAsked_4 (by decide) (fun c2 => ?_) (fun c2 => ?_)
  · skip
    refine j_iconst (pc := 18) dX1_isAsked_18 ?_
    exact j_iret (pc := 19) (jm_inL (by decide) (by decide)) rfl dX1_isAsked_19
  · skip
    refine j_aload_n (pc := 7) dX1_isAsked_7 rfl (q := 0) rfl ?_
    refine j_geti (pc := 8) jv1_8 gr0 kf_RX1_47 kg1_8_13 dX1_isAsked_8 (fun h3 => ?_)
    refine j_if_ne (tgt := 18) (pc := 11) h3 dX1_isAsked_11 (by decide) (fun c4 => ?_) (fun c4 => ?_)
    · skip
      refine j_iconst (pc := 14) dX1_isAsked_14 ?_
      refine j_goto (tgt := 19) (pc := 15) dX1_isAsked_15 (by decide) ?_
      exact j_iret (pc := 19) (jm_inL (by decide) (by decide)) rfl dX1_isAsked_19
    · skip
      refine j_iconst (pc := 18) dX1_isAsked_18 ?_
      exact j_iret (pc := 19) (jm_inL (by decide) (by decide)) rfl dX1_isAsked_19
abbrev rmX4_let : Room := { frames := 1, cells := 0, slots := 0, locals := 21 }
set_option maxHeartbeats 4000000 in
set_option maxRecDepth 100000 in
theorem ct_X4_let (M : jm_M) (l1 l2 : Int) (hl1 : jm_in l1) (hl2 : jm_in l2) : jm_Cv wd1 yX4_let cX4_let 3 none rmX4_let M (fun G ad => [.ref (ad (jm_r wd1 7 0)), jm_i l1, jm_i l2]) (fX4_let M l1 l2) := by
  refine jm_met_v (fun X => [(0, jm_vr wd1 X 7 0), (1, jm_i l1), (2, jm_i l2)]) (by decide) (fun _ _ => (Nat.le_of_ble_eq_true rfl)) (fun _ => rfl) (fun X => ?_)
  unfold fX4_let
  refine j_iload_n (pc := 0) dX4_let_0 rfl (q := 1) rfl ?_
  refine j_bipush (pc := 1) 97 dX4_let_1 (by decide) ?_
  refine j_isub (pc := 3) dX4_let_3 ?_
  refine j_bipush (pc := 4) 26 dX4_let_4 (by decide) ?_
  refine j_callNi2 (pc := 6) (ct_X11_isIndex M (jm_w (l1 - 97)) 26 (jm_w_in _) (jm_inL (by decide) (by decide))) (host := "RaceByLaps") (by decide) km_X11_isIndex kg_562 rfl rfl ⟨(Nat.le_of_ble_eq_true rfl), (Nat.le_of_ble_eq_true rfl)⟩ rfl rfl (Nat.le_of_ble_eq_true rfl) dX4_let_6 (fun v1 M2 h3 => ?_)
  refine j_if_eq (tgt := 22) (pc := 9) h3 dX4_let_9 (by decide) (fun c4 => ?_) (fun c4 => ?_)
  · skip
    exact j_vret (pc := 22) dX4_let_22
  · skip
    refine j_aload_n (pc := 12) dX4_let_12 rfl (q := 0) rfl ?_
    refine j_getr (pc := 13) jv1_7 jm_01 kf_RX4_11 0 kg1_7_0 rfl dX4_let_13 ?_
    refine j_iload_n (pc := 16) dX4_let_16 rfl (q := 1) rfl ?_
    refine j_bipush (pc := 17) 97 dX4_let_17 (by decide) ?_
    refine j_isub (pc := 19) dX4_let_19 ?_
    refine j_iload_n (pc := 20) dX4_let_20 rfl (q := 2) rfl ?_
    refine j_iast (pc := 21) jv1_27 jm_01 rfl (by decide) wI1 ka1_27 hl2 dX4_let_21 (fun c5 M6 => ?_)
    exact j_vret (pc := 22) dX4_let_22
abbrev rmX2_freeFrom : Room := { frames := 1, cells := 0, slots := 0, locals := 21 }
set_option maxHeartbeats 4000000 in
set_option maxRecDepth 100000 in
theorem ct_X2_freeFrom (M : jm_M) (l1 : Int) (hl1 : jm_in l1) : jm_Ci wd1 yX2_freeFrom cX2_freeFrom 2 (some .int) rmX2_freeFrom M (fun G ad => [.ref (ad (jm_r wd1 2 0)), jm_i l1]) (fX2_freeFrom M l1) := by
  refine jm_met_i (fun X => [(0, jm_vr wd1 X 2 0), (1, jm_i l1)]) (by decide) (fun _ _ => (Nat.le_of_ble_eq_true rfl)) (fun _ => rfl) (fun X => ?_)
  unfold fX2_freeFrom
  refine j_iload_n (pc := 0) dX2_freeFrom_0 rfl (q := 1) rfl ?_
  refine j_iconst (pc := 1) dX2_freeFrom_1 ?_
  refine j_callNi2 (pc := 2) (ct_X11_isIndex M l1 4 hl1 (jm_inL (by decide) (by decide))) (host := "RaceByLaps") (by decide) km_X11_isIndex kg_562 rfl rfl ⟨(Nat.le_of_ble_eq_true rfl), (Nat.le_of_ble_eq_true rfl)⟩ rfl rfl (Nat.le_of_ble_eq_true rfl) dX2_freeFrom_2 (fun v1 M2 h3 => ?_)
  refine j_if_eq (tgt := 17) (pc := 5) h3 dX2_freeFrom_5 (by decide) (fun c4 => ?_) (fun c4 => ?_)
  · skip
    refine j_iconst (pc := 17) dX2_freeFrom_17 ?_
    exact j_iret (pc := 18) (jm_inL (by decide) (by decide)) rfl dX2_freeFrom_18
  · skip
    refine j_aload_n (pc := 8) dX2_freeFrom_8 rfl (q := 0) rfl ?_
    refine j_getr (pc := 9) jv1_2 jm_01 kf_RX2_31 0 kg1_2_4 rfl dX2_freeFrom_9 ?_
    refine j_iload_n (pc := 12) dX2_freeFrom_12 rfl (q := 1) rfl ?_
    refine j_iald (pc := 13) jv1_34 jm_01 rfl (by decide) ka1_34 dX2_freeFrom_13 (fun c5 h6 => ?_)
    refine j_goto (tgt := 18) (pc := 14) dX2_freeFrom_14 (by decide) ?_
    exact j_iret (pc := 18) h6 rfl dX2_freeFrom_18
abbrev rmX2_setLetters : Room := { frames := 2, cells := 0, slots := 0, locals := 48 }
set_option maxHeartbeats 4000000 in
set_option maxRecDepth 100000 in
theorem bX2_setLetters_321 (X : jm_X) (fu : Nat) : ∀ (M : jm_M) (r2 r3 l5 s0 s1 : Int) (gr2 : 0 ≤ r2 ∧ r2 < 6) (gr3 : 0 ≤ r3 ∧ r3 < 6) (hl5 : jm_in l5) (hs0 : jm_in s0) (hs1 : jm_in s1), jm_J wd1 jm_qv cX2_setLetters 11 RX2 rmX2_setLetters X M [(0, jm_vr wd1 X 2 0), (2, jm_vr wd1 X 8 r2), (3, jm_vr wd1 X 9 r3), (5, jm_i l5)] [jm_i s0, jm_i s1, jm_vr wd1 X 7 0] 321 (gX2_setLetters_321 fu M r2 r3 l5 s0 s1) := by
  intro M r2 r3 l5 s0 s1 gr2 gr3 hl5 hs0 hs1
  unfold gX2_setLetters_321
  refine j_callVv2 (pc := 321) (ct_X4_let M s1 s0 hs1 hs0) kg_978 km_X4_let kv_X4_let rfl rfl ⟨(Nat.le_of_ble_eq_true rfl), (Nat.le_of_ble_eq_true rfl)⟩ jv1_7 jm_01 ko1_7 rfl rfl (Nat.le_of_ble_eq_true rfl) dX2_setLetters_321 (fun v1 M2 => ?_)
  refine j_aload_n (pc := 324) dX2_setLetters_324 rfl (q := 0) rfl ?_
  refine j_getr (pc := 325) jv1_2 jm_01 kf_RX2_15 0 kg1_2_1 rfl dX2_setLetters_325 ?_
  refine j_bipush (pc := 328) 116 dX2_setLetters_328 (by decide) ?_
  refine j_aload_n (pc := 330) dX2_setLetters_330 rfl (q := 2) rfl ?_
  refine j_geti (pc := 331) jv1_9 gr3 kf_RX2_278 kg1_9_5 dX2_setLetters_331 (fun h3 => ?_)
  refine j_callVv2 (pc := 334) (ct_X4_let M2 116 (M2 9 r3 5) (jm_inL (by decide) (by decide)) h3) kg_978 km_X4_let kv_X4_let rfl rfl ⟨(Nat.le_of_ble_eq_true rfl), (Nat.le_of_ble_eq_true rfl)⟩ jv1_7 jm_01 ko1_7 rfl rfl (Nat.le_of_ble_eq_true rfl) dX2_setLetters_334 (fun v4 M5 => ?_)
  refine j_aload_n (pc := 337) dX2_setLetters_337 rfl (q := 0) rfl ?_
  refine j_getr (pc := 338) jv1_2 jm_01 kf_RX2_15 0 kg1_2_1 rfl dX2_setLetters_338 ?_
  refine j_bipush (pc := 341) 104 dX2_setLetters_341 (by decide) ?_
  refine j_aload_n (pc := 343) dX2_setLetters_343 rfl (q := 0) rfl ?_
  refine j_aload_n (pc := 344) dX2_setLetters_344 rfl (q := 1) rfl ?_
  refine j_geti (pc := 345) jv1_8 gr2 kf_RX2_281 kg1_8_3 dX2_setLetters_345 (fun h6 => ?_)
  refine j_callVi1 (pc := 348) (ct_X2_freeFrom M5 (M5 8 r2 3) h6) kg_983 km_X2_freeFrom kv_X2_freeFrom rfl rfl ⟨(Nat.le_of_ble_eq_true rfl), (Nat.le_of_ble_eq_true rfl)⟩ jv1_2 jm_01 ko1_2 rfl rfl (Nat.le_of_ble_eq_true rfl) dX2_setLetters_348 (fun v7 M8 h9 => ?_)
  refine j_iload (pc := 351) dX2_setLetters_351 (q := 3) rfl ?_
  refine j_aload_n (pc := 353) dX2_setLetters_353 rfl (q := 0) rfl ?_
  refine j_getr (pc := 354) jv1_2 jm_01 kf_RX2_9 0 kg1_2_0 rfl dX2_setLetters_354 ?_
  refine j_getr (pc := 357) jv1_1 jm_01 kf_RX2_70 0 kg1_1_6 rfl dX2_setLetters_357 ?_
  refine j_iconst (pc := 360) dX2_setLetters_360 ?_
  refine j_iald (pc := 361) jv1_18 jm_01 rfl (by decide) ka1_18 dX2_setLetters_361 (fun c10 h11 => ?_)
  refine j_iadd (pc := 362) dX2_setLetters_362 ?_
  refine j_icmp_gt (tgt := 370) (pc := 363) h9 (jm_w_in _) dX2_setLetters_363 (by decide) (fun c12 => ?_) (fun c12 => ?_)
  · skip
    refine j_iconst (pc := 370) dX2_setLetters_370 ?_
    refine j_callVv2 (pc := 371) (ct_X4_let M8 104 0 (jm_inL (by decide) (by decide)) (jm_inL (by decide) (by decide))) kg_978 km_X4_let kv_X4_let rfl rfl ⟨(Nat.le_of_ble_eq_true rfl), (Nat.le_of_ble_eq_true rfl)⟩ jv1_7 jm_01 ko1_7 rfl rfl (Nat.le_of_ble_eq_true rfl) dX2_setLetters_371 (fun v13 M14 => ?_)
    exact j_vret (pc := 374) dX2_setLetters_374
  · skip
    refine j_iconst (pc := 366) dX2_setLetters_366 ?_
    refine j_goto (tgt := 371) (pc := 367) dX2_setLetters_367 (by decide) ?_
    refine j_callVv2 (pc := 371) (ct_X4_let M8 104 1 (jm_inL (by decide) (by decide)) (jm_inL (by decide) (by decide))) kg_978 km_X4_let kv_X4_let rfl rfl ⟨(Nat.le_of_ble_eq_true rfl), (Nat.le_of_ble_eq_true rfl)⟩ jv1_7 jm_01 ko1_7 rfl rfl (Nat.le_of_ble_eq_true rfl) dX2_setLetters_371 (fun v15 M16 => ?_)
    exact j_vret (pc := 374) dX2_setLetters_374
set_option maxHeartbeats 4000000 in
set_option maxRecDepth 100000 in
theorem bX2_setLetters_294 (X : jm_X) (fu : Nat) : ∀ (M : jm_M) (r2 r3 l5 s0 s1 : Int) (gr2 : 0 ≤ r2 ∧ r2 < 6) (gr3 : 0 ≤ r3 ∧ r3 < 6) (hl5 : jm_in l5) (hs0 : jm_in s0) (hs1 : jm_in s1), jm_J wd1 jm_qv cX2_setLetters 11 RX2 rmX2_setLetters X M [(0, jm_vr wd1 X 2 0), (2, jm_vr wd1 X 8 r2), (3, jm_vr wd1 X 9 r3), (5, jm_i l5)] [jm_i s0, jm_i s1, jm_vr wd1 X 7 0] 294 (gX2_setLetters_294 fu M r2 r3 l5 s0 s1) := by
  intro M r2 r3 l5 s0 s1 gr2 gr3 hl5 hs0 hs1
  unfold gX2_setLetters_294
  refine j_callVv2 (pc := 294) (ct_X4_let M s1 s0 hs1 hs0) kg_978 km_X4_let kv_X4_let rfl rfl ⟨(Nat.le_of_ble_eq_true rfl), (Nat.le_of_ble_eq_true rfl)⟩ jv1_7 jm_01 ko1_7 rfl rfl (Nat.le_of_ble_eq_true rfl) dX2_setLetters_294 (fun v1 M2 => ?_)
  refine j_aload_n (pc := 297) dX2_setLetters_297 rfl (q := 0) rfl ?_
  refine j_getr (pc := 298) jv1_2 jm_01 kf_RX2_15 0 kg1_2_1 rfl dX2_setLetters_298 ?_
  refine j_bipush (pc := 301) 121 dX2_setLetters_301 (by decide) ?_
  refine j_aload_n (pc := 303) dX2_setLetters_303 rfl (q := 0) rfl ?_
  refine j_getr (pc := 304) jv1_2 jm_01 kf_RX2_9 0 kg1_2_0 rfl dX2_setLetters_304 ?_
  refine j_iconst (pc := 307) dX2_setLetters_307 ?_
  refine j_iload (pc := 308) dX2_setLetters_308 (q := 3) rfl ?_
  refine j_callVi2 (pc := 310) (ct_X9_yellowAt fu M2 (-1) l5 (jm_inL (by decide) (by decide)) hl5) kg_942 km_X9_yellowAt kv_X9_yellowAt rfl rfl ⟨(Nat.le_of_ble_eq_true rfl), (Nat.le_of_ble_eq_true rfl)⟩ jv1_1 jm_01 ko1_1 rfl rfl (Nat.le_of_ble_eq_true rfl) dX2_setLetters_310 (fun v3 M4 h5 => ?_)
  refine j_if_eq (tgt := 320) (pc := 313) h5 dX2_setLetters_313 (by decide) (fun c6 => ?_) (fun c6 => ?_)
  · skip
    refine j_iconst (pc := 320) dX2_setLetters_320 ?_
    refine j_sub (pc := 321) [(0, jm_vr wd1 X 2 0), (2, jm_vr wd1 X 8 r2), (3, jm_vr wd1 X 9 r3), (5, jm_i l5)] [0, 1, 2, 3] rfl ?_
    exact bX2_setLetters_321 X fu  M4 r2 r3 l5 0 121 gr2 gr3 hl5 (jm_inL (by decide) (by decide)) (jm_inL (by decide) (by decide))
  · skip
    refine j_iconst (pc := 316) dX2_setLetters_316 ?_
    refine j_goto (tgt := 321) (pc := 317) dX2_setLetters_317 (by decide) ?_
    refine j_sub (pc := 321) [(0, jm_vr wd1 X 2 0), (2, jm_vr wd1 X 8 r2), (3, jm_vr wd1 X 9 r3), (5, jm_i l5)] [0, 1, 2, 3] rfl ?_
    exact bX2_setLetters_321 X fu  M4 r2 r3 l5 1 121 gr2 gr3 hl5 (jm_inL (by decide) (by decide)) (jm_inL (by decide) (by decide))
set_option maxHeartbeats 4000000 in
set_option maxRecDepth 100000 in
theorem bX2_setLetters_168 (X : jm_X) (fu : Nat) : ∀ (M : jm_M) (r2 r3 l5 s0 s1 : Int) (gr2 : 0 ≤ r2 ∧ r2 < 6) (gr3 : 0 ≤ r3 ∧ r3 < 6) (hl5 : jm_in l5) (hs0 : jm_in s0) (hs1 : jm_in s1), jm_J wd1 jm_qv cX2_setLetters 11 RX2 rmX2_setLetters X M [(0, jm_vr wd1 X 2 0), (2, jm_vr wd1 X 8 r2), (3, jm_vr wd1 X 9 r3), (5, jm_i l5)] [jm_i s0, jm_i s1, jm_vr wd1 X 7 0] 168 (gX2_setLetters_168 fu M r2 r3 l5 s0 s1) := by
  intro M r2 r3 l5 s0 s1 gr2 gr3 hl5 hs0 hs1
  unfold gX2_setLetters_168
  refine j_callVv2 (pc := 168) (ct_X4_let M s1 s0 hs1 hs0) kg_978 km_X4_let kv_X4_let rfl rfl ⟨(Nat.le_of_ble_eq_true rfl), (Nat.le_of_ble_eq_true rfl)⟩ jv1_7 jm_01 ko1_7 rfl rfl (Nat.le_of_ble_eq_true rfl) dX2_setLetters_168 (fun v1 M2 => ?_)
  refine j_aload_n (pc := 171) dX2_setLetters_171 rfl (q := 0) rfl ?_
  refine j_getr (pc := 172) jv1_2 jm_01 kf_RX2_15 0 kg1_2_1 rfl dX2_setLetters_172 ?_
  refine j_bipush (pc := 175) 102 dX2_setLetters_175 (by decide) ?_
  refine j_aload_n (pc := 177) dX2_setLetters_177 rfl (q := 2) rfl ?_
  refine j_geti (pc := 178) jv1_9 gr3 kf_RX2_131 kg1_9_8 dX2_setLetters_178 (fun h3 => ?_)
  refine j_callVv2 (pc := 181) (ct_X4_let M2 102 (M2 9 r3 8) (jm_inL (by decide) (by decide)) h3) kg_978 km_X4_let kv_X4_let rfl rfl ⟨(Nat.le_of_ble_eq_true rfl), (Nat.le_of_ble_eq_true rfl)⟩ jv1_7 jm_01 ko1_7 rfl rfl (Nat.le_of_ble_eq_true rfl) dX2_setLetters_181 (fun v4 M5 => ?_)
  refine j_aload_n (pc := 184) dX2_setLetters_184 rfl (q := 0) rfl ?_
  refine j_getr (pc := 185) jv1_2 jm_01 kf_RX2_15 0 kg1_2_1 rfl dX2_setLetters_185 ?_
  refine j_bipush (pc := 188) 110 dX2_setLetters_188 (by decide) ?_
  refine j_aload_n (pc := 190) dX2_setLetters_190 rfl (q := 1) rfl ?_
  refine j_geti (pc := 191) jv1_8 gr2 kf_RX2_125 kg1_8_2 dX2_setLetters_191 (fun h6 => ?_)
  refine j_aload_n (pc := 194) dX2_setLetters_194 rfl (q := 0) rfl ?_
  refine j_getr (pc := 195) jv1_2 jm_01 kf_RX2_9 0 kg1_2_0 rfl dX2_setLetters_195 ?_
  refine j_geti (pc := 198) jv1_1 jm_01 kf_RX2_227 kg1_1_1 dX2_setLetters_198 (fun h7 => ?_)
  refine j_aload_n (pc := 201) dX2_setLetters_201 rfl (q := 0) rfl ?_
  refine j_getr (pc := 202) jv1_2 jm_01 kf_RX2_9 0 kg1_2_0 rfl dX2_setLetters_202 ?_
  refine j_geti (pc := 205) jv1_1 jm_01 kf_RX2_159 kg1_1_0 dX2_setLetters_205 (fun h8 => ?_)
  refine j_imul (pc := 208) dX2_setLetters_208 ?_
  refine j_aload_n (pc := 209) dX2_setLetters_209 rfl (q := 2) rfl ?_
  refine j_geti (pc := 210) jv1_9 gr3 kf_RX2_275 kg1_9_2 dX2_setLetters_210 (fun h9 => ?_)
  refine j_isub (pc := 213) dX2_setLetters_213 ?_
  refine j_imul (pc := 214) dX2_setLetters_214 ?_
  refine j_callVv2 (pc := 215) (ct_X4_let M5 110 (jm_w ((M5 8 r2 2) * (jm_w ((jm_w ((M5 1 0 1) * (M5 1 0 0))) - (M5 9 r3 2))))) (jm_inL (by decide) (by decide)) (jm_w_in _)) kg_978 km_X4_let kv_X4_let rfl rfl ⟨(Nat.le_of_ble_eq_true rfl), (Nat.le_of_ble_eq_true rfl)⟩ jv1_7 jm_01 ko1_7 rfl rfl (Nat.le_of_ble_eq_true rfl) dX2_setLetters_215 (fun v10 M11 => ?_)
  refine j_aload_n (pc := 218) dX2_setLetters_218 rfl (q := 0) rfl ?_
  refine j_getr (pc := 219) jv1_2 jm_01 kf_RX2_15 0 kg1_2_1 rfl dX2_setLetters_219 ?_
  refine j_bipush (pc := 222) 111 dX2_setLetters_222 (by decide) ?_
  refine j_aload_n (pc := 224) dX2_setLetters_224 rfl (q := 2) rfl ?_
  refine j_callVi0 (pc := 225) (ct_X6_age M11 r3 gr3) kg_912 km_X6_age kv_X6_age rfl rfl ⟨(Nat.le_of_ble_eq_true rfl), (Nat.le_of_ble_eq_true rfl)⟩ jv1_9 gr3 ko1_9 rfl rfl (Nat.le_of_ble_eq_true rfl) dX2_setLetters_225 (fun v12 M13 h14 => ?_)
  refine j_callVv2 (pc := 228) (ct_X4_let M13 111 v12 (jm_inL (by decide) (by decide)) h14) kg_978 km_X4_let kv_X4_let rfl rfl ⟨(Nat.le_of_ble_eq_true rfl), (Nat.le_of_ble_eq_true rfl)⟩ jv1_7 jm_01 ko1_7 rfl rfl (Nat.le_of_ble_eq_true rfl) dX2_setLetters_228 (fun v15 M16 => ?_)
  refine j_aload_n (pc := 231) dX2_setLetters_231 rfl (q := 0) rfl ?_
  refine j_getr (pc := 232) jv1_2 jm_01 kf_RX2_15 0 kg1_2_1 rfl dX2_setLetters_232 ?_
  refine j_bipush (pc := 235) 107 dX2_setLetters_235 (by decide) ?_
  refine j_aload_n (pc := 237) dX2_setLetters_237 rfl (q := 1) rfl ?_
  refine j_getr (pc := 238) jv1_8 gr2 kf_RX2_115 r2 kg1_8_6 rfl dX2_setLetters_238 ?_
  refine j_aload_n (pc := 241) dX2_setLetters_241 rfl (q := 2) rfl ?_
  refine j_geti (pc := 242) jv1_9 gr3 kf_RX2_118 kg1_9_9 dX2_setLetters_242 (fun h17 => ?_)
  refine j_iconst (pc := 245) dX2_setLetters_245 ?_
  refine j_callVi2 (pc := 246) (ct_X7_cell M16 r2 (M16 9 r3 9) 0 (by omega) h17 (jm_inL (by decide) (by decide))) kg_894 km_X7_cell kv_X7_cell rfl rfl ⟨(Nat.le_of_ble_eq_true rfl), (Nat.le_of_ble_eq_true rfl)⟩ jv1_10 (by omega) ko1_10 rfl rfl (Nat.le_of_ble_eq_true rfl) dX2_setLetters_246 (fun v18 M19 h20 => ?_)
  refine j_callVv2 (pc := 249) (ct_X4_let M19 107 v18 (jm_inL (by decide) (by decide)) h20) kg_978 km_X4_let kv_X4_let rfl rfl ⟨(Nat.le_of_ble_eq_true rfl), (Nat.le_of_ble_eq_true rfl)⟩ jv1_7 jm_01 ko1_7 rfl rfl (Nat.le_of_ble_eq_true rfl) dX2_setLetters_249 (fun v21 M22 => ?_)
  refine j_aload_n (pc := 252) dX2_setLetters_252 rfl (q := 0) rfl ?_
  refine j_getr (pc := 253) jv1_2 jm_01 kf_RX2_15 0 kg1_2_1 rfl dX2_setLetters_253 ?_
  refine j_bipush (pc := 256) 119 dX2_setLetters_256 (by decide) ?_
  refine j_aload_n (pc := 258) dX2_setLetters_258 rfl (q := 0) rfl ?_
  refine j_getr (pc := 259) jv1_2 jm_01 kf_RX2_9 0 kg1_2_0 rfl dX2_setLetters_259 ?_
  refine j_iconst (pc := 262) dX2_setLetters_262 ?_
  refine j_iload (pc := 263) dX2_setLetters_263 (q := 3) rfl ?_
  refine j_callVi2 (pc := 265) (ct_X9_wetAt fu M22 0 l5 (jm_inL (by decide) (by decide)) hl5) kg_917 km_X9_wetAt kv_X9_wetAt rfl rfl ⟨(Nat.le_of_ble_eq_true rfl), (Nat.le_of_ble_eq_true rfl)⟩ jv1_1 jm_01 ko1_1 rfl rfl (Nat.le_of_ble_eq_true rfl) dX2_setLetters_265 (fun v23 M24 h25 => ?_)
  refine j_callVv2 (pc := 268) (ct_X4_let M24 119 v23 (jm_inL (by decide) (by decide)) h25) kg_978 km_X4_let kv_X4_let rfl rfl ⟨(Nat.le_of_ble_eq_true rfl), (Nat.le_of_ble_eq_true rfl)⟩ jv1_7 jm_01 ko1_7 rfl rfl (Nat.le_of_ble_eq_true rfl) dX2_setLetters_268 (fun v26 M27 => ?_)
  refine j_aload_n (pc := 271) dX2_setLetters_271 rfl (q := 0) rfl ?_
  refine j_getr (pc := 272) jv1_2 jm_01 kf_RX2_15 0 kg1_2_1 rfl dX2_setLetters_272 ?_
  refine j_bipush (pc := 275) 118 dX2_setLetters_275 (by decide) ?_
  refine j_aload_n (pc := 277) dX2_setLetters_277 rfl (q := 0) rfl ?_
  refine j_getr (pc := 278) jv1_2 jm_01 kf_RX2_9 0 kg1_2_0 rfl dX2_setLetters_278 ?_
  refine j_iload (pc := 281) dX2_setLetters_281 (q := 3) rfl ?_
  refine j_callVi1 (pc := 283) (ct_X9_slowAt fu M27 l5 hl5) kg_899 km_X9_slowAt kv_X9_slowAt rfl rfl ⟨(Nat.le_of_ble_eq_true rfl), (Nat.le_of_ble_eq_true rfl)⟩ jv1_1 jm_01 ko1_1 rfl rfl (Nat.le_of_ble_eq_true rfl) dX2_setLetters_283 (fun v28 M29 h30 => ?_)
  refine j_if_eq (tgt := 293) (pc := 286) h30 dX2_setLetters_286 (by decide) (fun c31 => ?_) (fun c31 => ?_)
  · skip
    refine j_iconst (pc := 293) dX2_setLetters_293 ?_
    refine j_sub (pc := 294) [(0, jm_vr wd1 X 2 0), (2, jm_vr wd1 X 8 r2), (3, jm_vr wd1 X 9 r3), (5, jm_i l5)] [0, 1, 2, 3] rfl ?_
    exact bX2_setLetters_294 X fu  M29 r2 r3 l5 0 118 gr2 gr3 hl5 (jm_inL (by decide) (by decide)) (jm_inL (by decide) (by decide))
  · skip
    refine j_iconst (pc := 289) dX2_setLetters_289 ?_
    refine j_goto (tgt := 294) (pc := 290) dX2_setLetters_290 (by decide) ?_
    refine j_sub (pc := 294) [(0, jm_vr wd1 X 2 0), (2, jm_vr wd1 X 8 r2), (3, jm_vr wd1 X 9 r3), (5, jm_i l5)] [0, 1, 2, 3] rfl ?_
    exact bX2_setLetters_294 X fu  M29 r2 r3 l5 1 118 gr2 gr3 hl5 (jm_inL (by decide) (by decide)) (jm_inL (by decide) (by decide))
set_option maxHeartbeats 4000000 in
set_option maxRecDepth 100000 in
theorem bX2_setLetters_96 (X : jm_X) (fu : Nat) : ∀ (M : jm_M) (r2 r3 l4 l5 l7 l8 : Int) (gr2 : 0 ≤ r2 ∧ r2 < 6) (gr3 : 0 ≤ r3 ∧ r3 < 6) (hl4 : jm_in l4) (hl5 : jm_in l5) (hl7 : jm_in l7) (hl8 : jm_in l8), jm_J wd1 jm_qv cX2_setLetters 11 RX2 rmX2_setLetters X M [(0, jm_vr wd1 X 2 0), (2, jm_vr wd1 X 8 r2), (3, jm_vr wd1 X 9 r3), (4, jm_i l4), (5, jm_i l5), (7, jm_i l7), (8, jm_i l8)] [] 96 (gX2_setLetters_96 fu M r2 r3 l4 l5 l7 l8) := by
  intro M r2 r3 l4 l5 l7 l8 gr2 gr3 hl4 hl5 hl7 hl8
  unfold gX2_setLetters_96
  refine j_aload_n (pc := 96) dX2_setLetters_96 rfl (q := 0) rfl ?_
  refine j_getr (pc := 97) jv1_2 jm_01 kf_RX2_15 0 kg1_2_1 rfl dX2_setLetters_97 ?_
  refine j_bipush (pc := 100) 108 dX2_setLetters_100 (by decide) ?_
  refine j_iload (pc := 102) dX2_setLetters_102 (q := 3) rfl ?_
  refine j_iconst (pc := 104) dX2_setLetters_104 ?_
  refine j_iadd (pc := 105) dX2_setLetters_105 ?_
  refine j_callVv2 (pc := 106) (ct_X4_let M 108 (jm_w (l4 + 1)) (jm_inL (by decide) (by decide)) (jm_w_in _)) kg_978 km_X4_let kv_X4_let rfl rfl ⟨(Nat.le_of_ble_eq_true rfl), (Nat.le_of_ble_eq_true rfl)⟩ jv1_7 jm_01 ko1_7 rfl rfl (Nat.le_of_ble_eq_true rfl) dX2_setLetters_106 (fun v1 M2 => ?_)
  refine j_aload_n (pc := 109) dX2_setLetters_109 rfl (q := 0) rfl ?_
  refine j_getr (pc := 110) jv1_2 jm_01 kf_RX2_15 0 kg1_2_1 rfl dX2_setLetters_110 ?_
  refine j_bipush (pc := 113) 114 dX2_setLetters_113 (by decide) ?_
  refine j_aload_n (pc := 115) dX2_setLetters_115 rfl (q := 0) rfl ?_
  refine j_getr (pc := 116) jv1_2 jm_01 kf_RX2_9 0 kg1_2_0 rfl dX2_setLetters_116 ?_
  refine j_geti (pc := 119) jv1_1 jm_01 kf_RX2_227 kg1_1_1 dX2_setLetters_119 (fun h3 => ?_)
  refine j_iload (pc := 122) dX2_setLetters_122 (q := 3) rfl ?_
  refine j_isub (pc := 124) dX2_setLetters_124 ?_
  refine j_iconst (pc := 125) dX2_setLetters_125 ?_
  refine j_isub (pc := 126) dX2_setLetters_126 ?_
  refine j_callVv2 (pc := 127) (ct_X4_let M2 114 (jm_w ((jm_w ((M2 1 0 1) - l4)) - 1)) (jm_inL (by decide) (by decide)) (jm_w_in _)) kg_978 km_X4_let kv_X4_let rfl rfl ⟨(Nat.le_of_ble_eq_true rfl), (Nat.le_of_ble_eq_true rfl)⟩ jv1_7 jm_01 ko1_7 rfl rfl (Nat.le_of_ble_eq_true rfl) dX2_setLetters_127 (fun v4 M5 => ?_)
  refine j_aload_n (pc := 130) dX2_setLetters_130 rfl (q := 0) rfl ?_
  refine j_getr (pc := 131) jv1_2 jm_01 kf_RX2_15 0 kg1_2_1 rfl dX2_setLetters_131 ?_
  refine j_bipush (pc := 134) 112 dX2_setLetters_134 (by decide) ?_
  refine j_iload (pc := 136) dX2_setLetters_136 (q := 5) rfl ?_
  refine j_iconst (pc := 138) dX2_setLetters_138 ?_
  refine j_iadd (pc := 139) dX2_setLetters_139 ?_
  refine j_callVv2 (pc := 140) (ct_X4_let M5 112 (jm_w (l7 + 1)) (jm_inL (by decide) (by decide)) (jm_w_in _)) kg_978 km_X4_let kv_X4_let rfl rfl ⟨(Nat.le_of_ble_eq_true rfl), (Nat.le_of_ble_eq_true rfl)⟩ jv1_7 jm_01 ko1_7 rfl rfl (Nat.le_of_ble_eq_true rfl) dX2_setLetters_140 (fun v6 M7 => ?_)
  refine j_aload_n (pc := 143) dX2_setLetters_143 rfl (q := 0) rfl ?_
  refine j_getr (pc := 144) jv1_2 jm_01 kf_RX2_15 0 kg1_2_1 rfl dX2_setLetters_144 ?_
  refine j_bipush (pc := 147) 97 dX2_setLetters_147 (by decide) ?_
  refine j_iload (pc := 149) dX2_setLetters_149 (q := 5) rfl ?_
  refine j_if_ne (tgt := 160) (pc := 151) hl7 dX2_setLetters_151 (by decide) (fun c8 => ?_) (fun c8 => ?_)
  · skip
    refine j_sipush (pc := 154) 999 dX2_setLetters_154 (by decide) ?_
    refine j_goto (tgt := 168) (pc := 157) dX2_setLetters_157 (by decide) ?_
    refine j_sub (pc := 168) [(0, jm_vr wd1 X 2 0), (2, jm_vr wd1 X 8 r2), (3, jm_vr wd1 X 9 r3), (5, jm_i l5)] [0, 1, 2, 4] rfl ?_
    exact bX2_setLetters_168 X fu  M7 r2 r3 l5 999 97 gr2 gr3 hl5 (jm_inL (by decide) (by decide)) (jm_inL (by decide) (by decide))
  · skip
    refine j_iload (pc := 160) dX2_setLetters_160 (q := 4) rfl ?_
    refine j_iload (pc := 162) dX2_setLetters_162 (q := 6) rfl ?_
    refine j_isub (pc := 164) dX2_setLetters_164 ?_
    refine j_bipush (pc := 165) 100 dX2_setLetters_165 (by decide) ?_
    refine j_idiv (pc := 167) (jm_w_in _) (jm_inL (by decide) (by decide)) dX2_setLetters_167 (by decide) ?_
    refine j_sub (pc := 168) [(0, jm_vr wd1 X 2 0), (2, jm_vr wd1 X 8 r2), (3, jm_vr wd1 X 9 r3), (5, jm_i l5)] [0, 1, 2, 4] rfl ?_
    exact bX2_setLetters_168 X fu  M7 r2 r3 l5 (jm_div (jm_w (l5 - l8)) 100) 97 gr2 gr3 hl5 (jm_div_in _ _) (jm_inL (by decide) (by decide))
set_option maxHeartbeats 4000000 in
set_option maxRecDepth 100000 in
theorem b0X2_setLetters_29 (X : jm_X) (fu : Nat) (k29 : jm_M → Int → Int → Int → Int → Int → Int → Int → Int → Int → jm_R) (hk29 : ∀ (M : jm_M) (l1 r2 r3 l4 l5 l6 l7 l8 l9 : Int) (hl1 : jm_in l1) (gr2 : 0 ≤ r2 ∧ r2 < 6) (gr3 : 0 ≤ r3 ∧ r3 < 6) (hl4 : jm_in l4) (hl5 : jm_in l5) (hl6 : jm_in l6) (hl7 : jm_in l7) (hl8 : jm_in l8) (hl9 : jm_in l9), jm_J wd1 jm_qv cX2_setLetters 11 RX2 rmX2_setLetters X M [(0, jm_vr wd1 X 2 0), (1, jm_i l1), (2, jm_vr wd1 X 8 r2), (3, jm_vr wd1 X 9 r3), (4, jm_i l4), (5, jm_i l5), (6, jm_i l6), (7, jm_i l7), (8, jm_i l8), (9, jm_i l9)] [] 29 (k29 M l1 r2 r3 l4 l5 l6 l7 l8 l9)) : ∀ (M : jm_M) (l1 r2 r3 l4 l5 l6 l7 l8 l9 : Int) (hl1 : jm_in l1) (gr2 : 0 ≤ r2 ∧ r2 < 6) (gr3 : 0 ≤ r3 ∧ r3 < 6) (hl4 : jm_in l4) (hl5 : jm_in l5) (hl6 : jm_in l6) (hl7 : jm_in l7) (hl8 : jm_in l8) (hl9 : jm_in l9), jm_J wd1 jm_qv cX2_setLetters 11 RX2 rmX2_setLetters X M [(0, jm_vr wd1 X 2 0), (1, jm_i l1), (2, jm_vr wd1 X 8 r2), (3, jm_vr wd1 X 9 r3), (4, jm_i l4), (5, jm_i l5), (6, jm_i l6), (7, jm_i l7), (8, jm_i l8), (9, jm_i l9)] [] 29 (gX2_setLetters_29 fu k29 M l1 r2 r3 l4 l5 l6 l7 l8 l9) := by
  intro M l1 r2 r3 l4 l5 l6 l7 l8 l9 hl1 gr2 gr3 hl4 hl5 hl6 hl7 hl8 hl9
  unfold gX2_setLetters_29
  refine j_iload (pc := 29) dX2_setLetters_29 (q := 9) rfl ?_
  refine j_aload_n (pc := 31) dX2_setLetters_31 rfl (q := 0) rfl ?_
  refine j_geti (pc := 32) jv1_2 jm_01 kf_RX2_37 kg1_2_5 dX2_setLetters_32 (fun h1 => ?_)
  refine j_icmp_ge (tgt := 96) (pc := 35) hl9 h1 dX2_setLetters_35 (by decide) (fun c2 => ?_) (fun c2 => ?_)
  · skip
    refine j_sub (pc := 96) [(0, jm_vr wd1 X 2 0), (2, jm_vr wd1 X 8 r2), (3, jm_vr wd1 X 9 r3), (4, jm_i l4), (5, jm_i l5), (7, jm_i l7), (8, jm_i l8)] [0, 2, 3, 4, 5, 7, 8] rfl ?_
    exact bX2_setLetters_96 X fu  M r2 r3 l4 l5 l7 l8 gr2 gr3 hl4 hl5 hl7 hl8
  · skip
    refine j_iload (pc := 38) dX2_setLetters_38 (q := 9) rfl ?_
    refine j_bipush (pc := 40) 6 dX2_setLetters_40 (by decide) ?_
    refine j_icmp_ge (tgt := 96) (pc := 42) hl9 (jm_inL (by decide) (by decide)) dX2_setLetters_42 (by decide) (fun c3 => ?_) (fun c3 => ?_)
    · skip
      refine j_sub (pc := 96) [(0, jm_vr wd1 X 2 0), (2, jm_vr wd1 X 8 r2), (3, jm_vr wd1 X 9 r3), (4, jm_i l4), (5, jm_i l5), (7, jm_i l7), (8, jm_i l8)] [0, 2, 3, 4, 5, 7, 8] rfl ?_
      exact bX2_setLetters_96 X fu  M r2 r3 l4 l5 l7 l8 gr2 gr3 hl4 hl5 hl7 hl8
    · skip
      refine j_aload_n (pc := 45) dX2_setLetters_45 rfl (q := 0) rfl ?_
      refine j_getr (pc := 46) jv1_2 jm_01 kf_RX2_27 0 kg1_2_3 rfl dX2_setLetters_46 ?_
      refine j_iload (pc := 49) dX2_setLetters_49 (q := 9) rfl ?_
      refine j_aald (pc := 51) jv1_47 jm_01 (by decide) kr1_47 dX2_setLetters_51 (fun c4 => ?_)
      refine j_iload (pc := 52) dX2_setLetters_52 (q := 6) rfl ?_
      refine j_callVi1 (pc := 54) (ct_X6_timeAt M l9 l6 (by omega) hl6) kg_966 km_X6_timeAt kv_X6_timeAt rfl rfl ⟨(Nat.le_of_ble_eq_true rfl), (Nat.le_of_ble_eq_true rfl)⟩ jv1_9 (by omega) ko1_9 rfl rfl (Nat.le_of_ble_eq_true rfl) dX2_setLetters_54 (fun v5 M6 h7 => ?_)
      refine j_istore (pc := 57) [(10, jm_i v5), (0, jm_vr wd1 X 2 0), (1, jm_i l1), (2, jm_vr wd1 X 8 r2), (3, jm_vr wd1 X 9 r3), (4, jm_i l4), (5, jm_i l5), (6, jm_i l6), (7, jm_i l7), (8, jm_i l8), (9, jm_i l9)] dX2_setLetters_57 (by decide) rfl ?_
      refine j_iload (pc := 59) dX2_setLetters_59 (q := 10) rfl ?_
      refine j_iload_n (pc := 61) dX2_setLetters_61 rfl (q := 2) rfl ?_
      refine j_icmp_eq (tgt := 90) (pc := 62) hl9 hl1 dX2_setLetters_62 (by decide) (fun c8 => ?_) (fun c8 => ?_)
      · skip
        refine j_iinc (pc := 90) [(10, jm_i v5), (0, jm_vr wd1 X 2 0), (1, jm_i l1), (2, jm_vr wd1 X 8 r2), (3, jm_vr wd1 X 9 r3), (4, jm_i l4), (5, jm_i l5), (6, jm_i l6), (7, jm_i l7), (8, jm_i l8)] (q := 10) dX2_setLetters_90 rfl (by decide) (fun _ => rfl) (fun v9 h10 => ?_)
        refine j_goto (tgt := 29) (pc := 93) dX2_setLetters_93 (by decide) ?_
        refine j_sub (pc := 29) [(0, jm_vr wd1 X 2 0), (1, jm_i l1), (2, jm_vr wd1 X 8 r2), (3, jm_vr wd1 X 9 r3), (4, jm_i l4), (5, jm_i l5), (6, jm_i l6), (7, jm_i l7), (8, jm_i l8), (9, jm_i v9)] [2, 3, 4, 5, 6, 7, 8, 9, 10, 0] rfl ?_
        exact hk29 M6 l1 r2 r3 l4 l5 l6 l7 l8 v9 hl1 gr2 gr3 hl4 hl5 hl6 hl7 hl8 h10
      · skip
        refine j_iload (pc := 65) dX2_setLetters_65 (q := 0) rfl ?_
        refine j_iconst (pc := 67) dX2_setLetters_67 ?_
        refine j_icmp_eq (tgt := 90) (pc := 68) h7 (jm_inL (by decide) (by decide)) dX2_setLetters_68 (by decide) (fun c11 => ?_) (fun c11 => ?_)
        · skip
          refine j_iinc (pc := 90) [(10, jm_i v5), (0, jm_vr wd1 X 2 0), (1, jm_i l1), (2, jm_vr wd1 X 8 r2), (3, jm_vr wd1 X 9 r3), (4, jm_i l4), (5, jm_i l5), (6, jm_i l6), (7, jm_i l7), (8, jm_i l8)] (q := 10) dX2_setLetters_90 rfl (by decide) (fun _ => rfl) (fun v12 h13 => ?_)
          refine j_goto (tgt := 29) (pc := 93) dX2_setLetters_93 (by decide) ?_
          refine j_sub (pc := 29) [(0, jm_vr wd1 X 2 0), (1, jm_i l1), (2, jm_vr wd1 X 8 r2), (3, jm_vr wd1 X 9 r3), (4, jm_i l4), (5, jm_i l5), (6, jm_i l6), (7, jm_i l7), (8, jm_i l8), (9, jm_i v12)] [2, 3, 4, 5, 6, 7, 8, 9, 10, 0] rfl ?_
          exact hk29 M6 l1 r2 r3 l4 l5 l6 l7 l8 v12 hl1 gr2 gr3 hl4 hl5 hl6 hl7 hl8 h13
        · skip
          refine j_iload (pc := 71) dX2_setLetters_71 (q := 0) rfl ?_
          refine j_iload (pc := 73) dX2_setLetters_73 (q := 6) rfl ?_
          refine j_icmp_gt (tgt := 90) (pc := 75) h7 hl5 dX2_setLetters_75 (by decide) (fun c14 => ?_) (fun c14 => ?_)
          · skip
            refine j_iinc (pc := 90) [(10, jm_i v5), (0, jm_vr wd1 X 2 0), (1, jm_i l1), (2, jm_vr wd1 X 8 r2), (3, jm_vr wd1 X 9 r3), (4, jm_i l4), (5, jm_i l5), (6, jm_i l6), (7, jm_i l7), (8, jm_i l8)] (q := 10) dX2_setLetters_90 rfl (by decide) (fun _ => rfl) (fun v15 h16 => ?_)
            refine j_goto (tgt := 29) (pc := 93) dX2_setLetters_93 (by decide) ?_
            refine j_sub (pc := 29) [(0, jm_vr wd1 X 2 0), (1, jm_i l1), (2, jm_vr wd1 X 8 r2), (3, jm_vr wd1 X 9 r3), (4, jm_i l4), (5, jm_i l5), (6, jm_i l6), (7, jm_i l7), (8, jm_i l8), (9, jm_i v15)] [2, 3, 4, 5, 6, 7, 8, 9, 10, 0] rfl ?_
            exact hk29 M6 l1 r2 r3 l4 l5 l6 l7 l8 v15 hl1 gr2 gr3 hl4 hl5 hl6 hl7 hl8 h16
          · skip
            refine j_iinc (pc := 78) [(10, jm_i v5), (0, jm_vr wd1 X 2 0), (1, jm_i l1), (2, jm_vr wd1 X 8 r2), (3, jm_vr wd1 X 9 r3), (4, jm_i l4), (5, jm_i l5), (6, jm_i l6), (8, jm_i l8), (9, jm_i l9)] (q := 8) dX2_setLetters_78 rfl (by decide) (fun _ => rfl) (fun v17 h18 => ?_)
            refine j_iload (pc := 81) dX2_setLetters_81 (q := 9) rfl ?_
            refine j_iload (pc := 83) dX2_setLetters_83 (q := 1) rfl ?_
            refine j_mmax (pc := 85) hl8 h7 kg_925 kg_61 kg_5 kg_62 ⟨(Nat.le_of_ble_eq_true rfl), (Nat.le_of_ble_eq_true rfl)⟩ (Nat.le_of_ble_eq_true rfl) dX2_setLetters_85 ?_
            refine j_nm (pc := 88) (jm_max_in hl8 h7) (fun v19 h20 => ?_)
            refine j_istore (pc := 88) [(8, jm_i v19), (7, jm_i v17), (10, jm_i v5), (0, jm_vr wd1 X 2 0), (1, jm_i l1), (2, jm_vr wd1 X 8 r2), (3, jm_vr wd1 X 9 r3), (4, jm_i l4), (5, jm_i l5), (6, jm_i l6), (9, jm_i l9)] dX2_setLetters_88 (by decide) rfl ?_
            refine j_iinc (pc := 90) [(8, jm_i v19), (7, jm_i v17), (10, jm_i v5), (0, jm_vr wd1 X 2 0), (1, jm_i l1), (2, jm_vr wd1 X 8 r2), (3, jm_vr wd1 X 9 r3), (4, jm_i l4), (5, jm_i l5), (6, jm_i l6)] (q := 10) dX2_setLetters_90 rfl (by decide) (fun _ => rfl) (fun v21 h22 => ?_)
            refine j_goto (tgt := 29) (pc := 93) dX2_setLetters_93 (by decide) ?_
            refine j_sub (pc := 29) [(0, jm_vr wd1 X 2 0), (1, jm_i l1), (2, jm_vr wd1 X 8 r2), (3, jm_vr wd1 X 9 r3), (4, jm_i l4), (5, jm_i l5), (6, jm_i l6), (7, jm_i v17), (8, jm_i v19), (9, jm_i v21)] [4, 5, 6, 7, 8, 9, 10, 2, 1, 0] rfl ?_
            exact hk29 M6 l1 r2 r3 l4 l5 l6 v17 v19 v21 hl1 gr2 gr3 hl4 hl5 hl6 h18 h20 h22
theorem bX2_setLetters_29 (X : jm_X) (fu : Nat) : ∀ (n : Nat) (M : jm_M) (l1 r2 r3 l4 l5 l6 l7 l8 l9 : Int) (hl1 : jm_in l1) (gr2 : 0 ≤ r2 ∧ r2 < 6) (gr3 : 0 ≤ r3 ∧ r3 < 6) (hl4 : jm_in l4) (hl5 : jm_in l5) (hl6 : jm_in l6) (hl7 : jm_in l7) (hl8 : jm_in l8) (hl9 : jm_in l9), jm_J wd1 jm_qv cX2_setLetters 11 RX2 rmX2_setLetters X M [(0, jm_vr wd1 X 2 0), (1, jm_i l1), (2, jm_vr wd1 X 8 r2), (3, jm_vr wd1 X 9 r3), (4, jm_i l4), (5, jm_i l5), (6, jm_i l6), (7, jm_i l7), (8, jm_i l8), (9, jm_i l9)] [] 29 (fX2_setLetters_29 fu n M l1 r2 r3 l4 l5 l6 l7 l8 l9) := by
  intro n
  induction n with
  | zero => intro M l1 r2 r3 l4 l5 l6 l7 l8 l9 hl1 gr2 gr3 hl4 hl5 hl6 hl7 hl8 hl9; exact j_none
  | succ n ih => intro M l1 r2 r3 l4 l5 l6 l7 l8 l9 hl1 gr2 gr3 hl4 hl5 hl6 hl7 hl8 hl9; exact b0X2_setLetters_29 X fu (fX2_setLetters_29 fu n) ih M l1 r2 r3 l4 l5 l6 l7 l8 l9 hl1 gr2 gr3 hl4 hl5 hl6 hl7 hl8 hl9
set_option maxHeartbeats 4000000 in
set_option maxRecDepth 100000 in
theorem ct_X2_setLetters (fu : Nat) (M : jm_M) (l1 r2 r3 l4 l5 : Int) (hl1 : jm_in l1) (gr2 : 0 ≤ r2 ∧ r2 < 6) (gr3 : 0 ≤ r3 ∧ r3 < 6) (hl4 : jm_in l4) (hl5 : jm_in l5) : jm_Cv wd1 yX2_setLetters cX2_setLetters 11 none rmX2_setLetters M (fun G ad => [.ref (ad (jm_r wd1 2 0)), jm_i l1, .ref (ad (jm_r wd1 8 r2)), .ref (ad (jm_r wd1 9 r3)), jm_i l4, jm_i l5]) (fX2_setLetters fu M l1 r2 r3 l4 l5) := by
  refine jm_met_v (fun X => [(0, jm_vr wd1 X 2 0), (1, jm_i l1), (2, jm_vr wd1 X 8 r2), (3, jm_vr wd1 X 9 r3), (4, jm_i l4), (5, jm_i l5)]) (by decide) (fun _ _ => (Nat.le_of_ble_eq_true rfl)) (fun _ => rfl) (fun X => ?_)
  unfold fX2_setLetters
  refine j_aload_n (pc := 0) dX2_setLetters_0 rfl (q := 0) rfl ?_
  refine j_getr (pc := 1) jv1_2 jm_01 kf_RX2_9 0 kg1_2_0 rfl dX2_setLetters_1 ?_
  refine j_iload (pc := 4) dX2_setLetters_4 (q := 4) rfl ?_
  refine j_aload_n (pc := 6) dX2_setLetters_6 rfl (q := 0) rfl ?_
  refine j_getr (pc := 7) jv1_2 jm_01 kf_RX2_9 0 kg1_2_0 rfl dX2_setLetters_7 ?_
  refine j_geti (pc := 10) jv1_1 jm_01 kf_RX2_159 kg1_1_0 dX2_setLetters_10 (fun h1 => ?_)
  refine j_iconst (pc := 13) dX2_setLetters_13 ?_
  refine j_isub (pc := 14) dX2_setLetters_14 ?_
  refine j_callVi2 (pc := 15) (ct_X9_lineOf M l4 (jm_w ((M 1 0 0) - 1)) hl4 (jm_w_in _)) kg_962 km_X9_lineOf kv_X9_lineOf rfl rfl ⟨(Nat.le_of_ble_eq_true rfl), (Nat.le_of_ble_eq_true rfl)⟩ jv1_1 jm_01 ko1_1 rfl rfl (Nat.le_of_ble_eq_true rfl) dX2_setLetters_15 (fun v2 M3 h4 => ?_)
  refine j_istore (pc := 18) [(6, jm_i v2), (0, jm_vr wd1 X 2 0), (1, jm_i l1), (2, jm_vr wd1 X 8 r2), (3, jm_vr wd1 X 9 r3), (4, jm_i l4), (5, jm_i l5)] dX2_setLetters_18 (by decide) rfl ?_
  refine j_iconst (pc := 20) dX2_setLetters_20 ?_
  refine j_istore (pc := 21) [(7, jm_i 0), (6, jm_i v2), (0, jm_vr wd1 X 2 0), (1, jm_i l1), (2, jm_vr wd1 X 8 r2), (3, jm_vr wd1 X 9 r3), (4, jm_i l4), (5, jm_i l5)] dX2_setLetters_21 (by decide) rfl ?_
  refine j_iconst (pc := 23) dX2_setLetters_23 ?_
  refine j_istore (pc := 24) [(8, jm_i (-1)), (7, jm_i 0), (6, jm_i v2), (0, jm_vr wd1 X 2 0), (1, jm_i l1), (2, jm_vr wd1 X 8 r2), (3, jm_vr wd1 X 9 r3), (4, jm_i l4), (5, jm_i l5)] dX2_setLetters_24 (by decide) rfl ?_
  refine j_iconst (pc := 26) dX2_setLetters_26 ?_
  refine j_istore (pc := 27) [(9, jm_i 0), (8, jm_i (-1)), (7, jm_i 0), (6, jm_i v2), (0, jm_vr wd1 X 2 0), (1, jm_i l1), (2, jm_vr wd1 X 8 r2), (3, jm_vr wd1 X 9 r3), (4, jm_i l4), (5, jm_i l5)] dX2_setLetters_27 (by decide) rfl ?_
  refine j_sub (pc := 29) [(0, jm_vr wd1 X 2 0), (1, jm_i l1), (2, jm_vr wd1 X 8 r2), (3, jm_vr wd1 X 9 r3), (4, jm_i l4), (5, jm_i l5), (6, jm_i v2), (7, jm_i 0), (8, jm_i (-1)), (9, jm_i 0)] [4, 5, 6, 7, 8, 9, 3, 2, 1, 0] rfl ?_
  exact bX2_setLetters_29 X fu  fu M3 l1 r2 r3 l4 l5 v2 0 (-1) 0 hl1 gr2 gr3 hl4 hl5 h4 (jm_inL (by decide) (by decide)) (jm_inL (by decide) (by decide)) (jm_inL (by decide) (by decide))
abbrev rmX4_valueOf : Room := { frames := 0, cells := 0, slots := 0, locals := 0 }
set_option maxHeartbeats 4000000 in
set_option maxRecDepth 100000 in
theorem ct_X4_valueOf (M : jm_M) (l1 : Int) (hl1 : jm_in l1) : jm_Ci wd1 yX4_valueOf cX4_valueOf 3 (some .int) rmX4_valueOf M (fun G ad => [.ref (ad (jm_r wd1 7 0)), jm_i l1]) (fX4_valueOf M l1) := by
  refine jm_met_i (fun X => [(0, jm_vr wd1 X 7 0), (1, jm_i l1)]) (by decide) (fun _ _ => (Nat.le_of_ble_eq_true rfl)) (fun _ => rfl) (fun X => ?_)
  unfold fX4_valueOf
  refine j_iload_n (pc := 0) dX4_valueOf_0 rfl (q := 1) rfl ?_
  refine j_sipush (pc := 1) 1000 dX4_valueOf_1 (by decide) ?_
  refine j_icmp_ge (tgt := 9) (pc := 4) hl1 (jm_inL (by decide) (by decide)) dX4_valueOf_4 (by decide) (fun c1 => ?_) (fun c1 => ?_)
  · skip
    refine j_iload_n (pc := 9) dX4_valueOf_9 rfl (q := 1) rfl ?_
    refine j_sipush (pc := 10) 1000 dX4_valueOf_10 (by decide) ?_
    refine j_isub (pc := 13) dX4_valueOf_13 ?_
    refine j_nm (pc := 14) (jm_w_in _) (fun v2 h3 => ?_)
    refine j_istore_n (pc := 14) [(2, jm_i v2), (0, jm_vr wd1 X 7 0), (1, jm_i l1)] dX4_valueOf_14 rfl (by decide) rfl ?_
    refine j_iload_n (pc := 15) dX4_valueOf_15 rfl (q := 0) rfl ?_
    refine j_bipush (pc := 16) 26 dX4_valueOf_16 (by decide) ?_
    refine j_icmp_ge (tgt := 30) (pc := 18) h3 (jm_inL (by decide) (by decide)) dX4_valueOf_18 (by decide) (fun c4 => ?_) (fun c4 => ?_)
    · skip
      refine j_iconst (pc := 30) dX4_valueOf_30 ?_
      exact j_iret (pc := 31) (jm_inL (by decide) (by decide)) rfl dX4_valueOf_31
    · skip
      refine j_aload_n (pc := 21) dX4_valueOf_21 rfl (q := 1) rfl ?_
      refine j_getr (pc := 22) jv1_7 jm_01 kf_RX4_11 0 kg1_7_0 rfl dX4_valueOf_22 ?_
      refine j_iload_n (pc := 25) dX4_valueOf_25 rfl (q := 0) rfl ?_
      refine j_iald (pc := 26) jv1_27 jm_01 rfl (by decide) ka1_27 dX4_valueOf_26 (fun c5 h6 => ?_)
      refine j_goto (tgt := 31) (pc := 27) dX4_valueOf_27 (by decide) ?_
      exact j_iret (pc := 31) h6 rfl dX4_valueOf_31
  · skip
    refine j_iload_n (pc := 7) dX4_valueOf_7 rfl (q := 1) rfl ?_
    exact j_iret (pc := 8) hl1 rfl dX4_valueOf_8
abbrev rmX4_join : Room := { frames := 0, cells := 0, slots := 0, locals := 0 }
set_option maxHeartbeats 4000000 in
set_option maxRecDepth 100000 in
theorem ct_X4_join (M : jm_M) (l0 l1 l2 : Int) (hl0 : jm_in l0) (hl1 : jm_in l1) (hl2 : jm_in l2) : jm_Ci wd1 yX4_join cX4_join 3 (some .int) rmX4_join M (fun G ad => [jm_i l0, jm_i l1, jm_i l2]) (fX4_join M l0 l1 l2) := by
  refine jm_met_i (fun X => [(0, jm_i l0), (1, jm_i l1), (2, jm_i l2)]) (by decide) (fun _ _ => (Nat.le_of_ble_eq_true rfl)) (fun _ => rfl) (fun X => ?_)
  unfold fX4_join
  refine j_iload_n (pc := 0) dX4_join_0 rfl (q := 0) rfl ?_
  refine j_ite (pc := 1) (fun c1 => ?_) (fun c1 => ?_)
  · skip
    refine j_look (off := (81)) (tgt := 82) (pc := 1) hl0 dX4_join_1 (by decide) (by rw [c1]; rfl) (by decide) ?_
    refine j_iload_n (pc := 82) dX4_join_82 rfl (q := 1) rfl ?_
    refine j_if_eq (tgt := 94) (pc := 83) hl1 dX4_join_83 (by decide) (fun c2 => ?_) (fun c2 => ?_)
    · skip
      refine j_iconst (pc := 94) dX4_join_94 ?_
      exact j_iret (pc := 95) (jm_inL (by decide) (by decide)) rfl dX4_join_95
    · skip
      refine j_iload_n (pc := 86) dX4_join_86 rfl (q := 2) rfl ?_
      refine j_if_eq (tgt := 94) (pc := 87) hl2 dX4_join_87 (by decide) (fun c3 => ?_) (fun c3 => ?_)
      · skip
        refine j_iconst (pc := 94) dX4_join_94 ?_
        exact j_iret (pc := 95) (jm_inL (by decide) (by decide)) rfl dX4_join_95
      · skip
        refine j_iconst (pc := 90) dX4_join_90 ?_
        refine j_goto (tgt := 95) (pc := 91) dX4_join_91 (by decide) ?_
        exact j_iret (pc := 95) (jm_inL (by decide) (by decide)) rfl dX4_join_95
  · skip
    refine j_ite (pc := 1) (fun c4 => ?_) (fun c4 => ?_)
    · skip
      refine j_look (off := (128)) (tgt := 129) (pc := 1) hl0 dX4_join_1 (by decide) (by rw [c4]; rfl) (by decide) ?_
      refine j_iload_n (pc := 129) dX4_join_129 rfl (q := 1) rfl ?_
      refine j_iload_n (pc := 130) dX4_join_130 rfl (q := 2) rfl ?_
      refine j_iadd (pc := 131) dX4_join_131 ?_
      exact j_iret (pc := 132) (jm_w_in _) rfl dX4_join_132
    · skip
      refine j_ite (pc := 1) (fun c5 => ?_) (fun c5 => ?_)
      · skip
        refine j_look (off := (132)) (tgt := 133) (pc := 1) hl0 dX4_join_1 (by decide) (by rw [c5]; rfl) (by decide) ?_
        refine j_iload_n (pc := 133) dX4_join_133 rfl (q := 1) rfl ?_
        refine j_iload_n (pc := 134) dX4_join_134 rfl (q := 2) rfl ?_
        refine j_isub (pc := 135) dX4_join_135 ?_
        exact j_iret (pc := 136) (jm_w_in _) rfl dX4_join_136
      · skip
        refine j_ite (pc := 1) (fun c6 => ?_) (fun c6 => ?_)
        · skip
          refine j_look (off := (95)) (tgt := 96) (pc := 1) hl0 dX4_join_1 (by decide) (by rw [c6]; rfl) (by decide) ?_
          refine j_iload_n (pc := 96) dX4_join_96 rfl (q := 1) rfl ?_
          refine j_iload_n (pc := 97) dX4_join_97 rfl (q := 2) rfl ?_
          refine j_icmp_ge (tgt := 105) (pc := 98) hl1 hl2 dX4_join_98 (by decide) (fun c7 => ?_) (fun c7 => ?_)
          · skip
            refine j_iconst (pc := 105) dX4_join_105 ?_
            exact j_iret (pc := 106) (jm_inL (by decide) (by decide)) rfl dX4_join_106
          · skip
            refine j_iconst (pc := 101) dX4_join_101 ?_
            refine j_goto (tgt := 106) (pc := 102) dX4_join_102 (by decide) ?_
            exact j_iret (pc := 106) (jm_inL (by decide) (by decide)) rfl dX4_join_106
        · skip
          refine j_ite (pc := 1) (fun c8 => ?_) (fun c8 => ?_)
          · skip
            refine j_look (off := (117)) (tgt := 118) (pc := 1) hl0 dX4_join_1 (by decide) (by rw [c8]; rfl) (by decide) ?_
            refine j_iload_n (pc := 118) dX4_join_118 rfl (q := 1) rfl ?_
            refine j_iload_n (pc := 119) dX4_join_119 rfl (q := 2) rfl ?_
            refine j_icmp_ne (tgt := 127) (pc := 120) hl1 hl2 dX4_join_120 (by decide) (fun c9 => ?_) (fun c9 => ?_)
            · skip
              refine j_iconst (pc := 123) dX4_join_123 ?_
              refine j_goto (tgt := 128) (pc := 124) dX4_join_124 (by decide) ?_
              exact j_iret (pc := 128) (jm_inL (by decide) (by decide)) rfl dX4_join_128
            · skip
              refine j_iconst (pc := 127) dX4_join_127 ?_
              exact j_iret (pc := 128) (jm_inL (by decide) (by decide)) rfl dX4_join_128
          · skip
            refine j_ite (pc := 1) (fun c10 => ?_) (fun c10 => ?_)
            · skip
              refine j_look (off := (106)) (tgt := 107) (pc := 1) hl0 dX4_join_1 (by decide) (by rw [c10]; rfl) (by decide) ?_
              refine j_iload_n (pc := 107) dX4_join_107 rfl (q := 1) rfl ?_
              refine j_iload_n (pc := 108) dX4_join_108 rfl (q := 2) rfl ?_
              refine j_icmp_le (tgt := 116) (pc := 109) hl1 hl2 dX4_join_109 (by decide) (fun c11 => ?_) (fun c11 => ?_)
              · skip
                refine j_iconst (pc := 116) dX4_join_116 ?_
                exact j_iret (pc := 117) (jm_inL (by decide) (by decide)) rfl dX4_join_117
              · skip
                refine j_iconst (pc := 112) dX4_join_112 ?_
                refine j_goto (tgt := 117) (pc := 113) dX4_join_113 (by decide) ?_
                exact j_iret (pc := 117) (jm_inL (by decide) (by decide)) rfl dX4_join_117
            · skip
              refine j_ite (pc := 1) (fun c12 => ?_) (fun c12 => ?_)
              · skip
                refine j_look (off := (67)) (tgt := 68) (pc := 1) hl0 dX4_join_1 (by decide) (by rw [c12]; rfl) (by decide) ?_
                refine j_iload_n (pc := 68) dX4_join_68 rfl (q := 1) rfl ?_
                refine j_if_ne (tgt := 76) (pc := 69) hl1 dX4_join_69 (by decide) (fun c13 => ?_) (fun c13 => ?_)
                · skip
                  refine j_iload_n (pc := 72) dX4_join_72 rfl (q := 2) rfl ?_
                  refine j_if_eq (tgt := 80) (pc := 73) hl2 dX4_join_73 (by decide) (fun c14 => ?_) (fun c14 => ?_)
                  · skip
                    refine j_iconst (pc := 80) dX4_join_80 ?_
                    exact j_iret (pc := 81) (jm_inL (by decide) (by decide)) rfl dX4_join_81
                  · skip
                    refine j_iconst (pc := 76) dX4_join_76 ?_
                    refine j_goto (tgt := 81) (pc := 77) dX4_join_77 (by decide) ?_
                    exact j_iret (pc := 81) (jm_inL (by decide) (by decide)) rfl dX4_join_81
                · skip
                  refine j_iconst (pc := 76) dX4_join_76 ?_
                  refine j_goto (tgt := 81) (pc := 77) dX4_join_77 (by decide) ?_
                  exact j_iret (pc := 81) (jm_inL (by decide) (by decide)) rfl dX4_join_81
              · skip
                refine j_look (off := (136)) (tgt := 137) (pc := 1) hl0 dX4_join_1 (by decide) (by show Op.lookupswitch.offset [(38, 81), (43, 128), (45, 132), (60, 95), (61, 117), (62, 106), (124, 67)] _ _ = _; rw [Op.lookupswitch.offset_cons, if_neg (fun q => c1 q.symm), Op.lookupswitch.offset_cons, if_neg (fun q => c4 q.symm), Op.lookupswitch.offset_cons, if_neg (fun q => c5 q.symm), Op.lookupswitch.offset_cons, if_neg (fun q => c6 q.symm), Op.lookupswitch.offset_cons, if_neg (fun q => c8 q.symm), Op.lookupswitch.offset_cons, if_neg (fun q => c10 q.symm), Op.lookupswitch.offset_cons, if_neg (fun q => c12 q.symm), Op.lookupswitch.offset_nil]) (by decide) ?_
                refine j_iload_n (pc := 137) dX4_join_137 rfl (q := 1) rfl ?_
                refine j_iload_n (pc := 138) dX4_join_138 rfl (q := 2) rfl ?_
                refine j_imul (pc := 139) dX4_join_139 ?_
                exact j_iret (pc := 140) (jm_w_in _) rfl dX4_join_140
abbrev rmX4_holds : Room := { frames := 1, cells := 0, slots := 0, locals := 22 }
set_option maxHeartbeats 4000000 in
set_option maxRecDepth 100000 in
theorem bX4_holds_163 (X : jm_X) (fu : Nat) (k47 : jm_M → Int → Int → Int → Int → Int → jm_R) (hk47 : ∀ (M : jm_M) (r1 l3 l4 l5 l6 : Int) (gr1 : 0 ≤ r1 ∧ r1 < 17) (hl3 : jm_in l3) (hl4 : jm_in l4) (hl5 : jm_in l5) (hl6 : jm_in l6), jm_J wd1 (jm_qi .boolean) cX4_holds 8 RX4 rmX4_holds X M [(0, jm_vr wd1 X 7 0), (1, jm_vr wd1 X 11 r1), (3, jm_i l3), (4, jm_i l4), (5, jm_i l5), (6, jm_i l6)] [] 47 (k47 M r1 l3 l4 l5 l6)) : ∀ (M : jm_M) (r1 l3 l4 l5 l6 l7 : Int) (gr1 : 0 ≤ r1 ∧ r1 < 17) (hl3 : jm_in l3) (hl4 : jm_in l4) (hl5 : jm_in l5) (hl6 : jm_in l6) (hl7 : jm_in l7), jm_J wd1 (jm_qi .boolean) cX4_holds 8 RX4 rmX4_holds X M [(0, jm_vr wd1 X 7 0), (1, jm_vr wd1 X 11 r1), (3, jm_i l3), (4, jm_i l4), (5, jm_i l5), (6, jm_i l6), (7, jm_i l7)] [] 163 (gX4_holds_163 fu k47 M r1 l3 l4 l5 l6 l7) := by
  intro M r1 l3 l4 l5 l6 l7 gr1 hl3 hl4 hl5 hl6 hl7
  unfold gX4_holds_163
  refine j_iload (pc := 163) dX4_holds_163 (q := 4) rfl ?_
  refine j_iconst (pc := 165) dX4_holds_165 ?_
  refine j_icmp_lt (tgt := 204) (pc := 166) hl5 (jm_inL (by decide) (by decide)) dX4_holds_166 (by decide) (fun c1 => ?_) (fun c1 => ?_)
  · skip
    refine j_iinc (pc := 204) [(0, jm_vr wd1 X 7 0), (1, jm_vr wd1 X 11 r1), (3, jm_i l3), (4, jm_i l4), (5, jm_i l5), (7, jm_i l7)] (q := 5) dX4_holds_204 rfl (by decide) (fun _ => rfl) (fun v2 h3 => ?_)
    refine j_goto (tgt := 47) (pc := 207) dX4_holds_207 (by decide) ?_
    refine j_sub (pc := 47) [(0, jm_vr wd1 X 7 0), (1, jm_vr wd1 X 11 r1), (3, jm_i l3), (4, jm_i l4), (5, jm_i l5), (6, jm_i v2)] [1, 2, 3, 4, 5, 0] rfl ?_
    exact hk47 M r1 l3 l4 l5 v2 gr1 hl3 hl4 hl5 h3
  · skip
    refine j_iinc (pc := 169) [(0, jm_vr wd1 X 7 0), (1, jm_vr wd1 X 11 r1), (3, jm_i l3), (4, jm_i l4), (6, jm_i l6), (7, jm_i l7)] (q := 4) dX4_holds_169 rfl (by decide) (fun _ => rfl) (fun v4 h5 => ?_)
    refine j_aload_n (pc := 172) dX4_holds_172 rfl (q := 1) rfl ?_
    refine j_getr (pc := 173) jv1_7 jm_01 kf_RX4_15 0 kg1_7_1 rfl dX4_holds_173 ?_
    refine j_iload (pc := 176) dX4_holds_176 (q := 0) rfl ?_
    refine j_iload (pc := 178) dX4_holds_178 (q := 6) rfl ?_
    refine j_sipush (pc := 180) 2000 dX4_holds_180 (by decide) ?_
    refine j_isub (pc := 183) dX4_holds_183 ?_
    refine j_aload_n (pc := 184) dX4_holds_184 rfl (q := 1) rfl ?_
    refine j_getr (pc := 185) jv1_7 jm_01 kf_RX4_15 0 kg1_7_1 rfl dX4_holds_185 ?_
    refine j_iload (pc := 188) dX4_holds_188 (q := 0) rfl ?_
    refine j_iald (pc := 190) jv1_28 jm_01 rfl (by decide) ka1_28 dX4_holds_190 (fun c6 h7 => ?_)
    refine j_aload_n (pc := 191) dX4_holds_191 rfl (q := 1) rfl ?_
    refine j_getr (pc := 192) jv1_7 jm_01 kf_RX4_15 0 kg1_7_1 rfl dX4_holds_192 ?_
    refine j_iload (pc := 195) dX4_holds_195 (q := 0) rfl ?_
    refine j_iconst (pc := 197) dX4_holds_197 ?_
    refine j_iadd (pc := 198) dX4_holds_198 ?_
    refine j_iald (pc := 199) jv1_28 jm_01 rfl (by decide) ka1_28 dX4_holds_199 (fun c8 h9 => ?_)
    refine j_callSi3 (pc := 200) (ct_X4_join M (jm_w (l7 - 2000)) (M 28 0 v4) (M 28 0 (jm_w (v4 + 1))) (jm_w_in _) h7 h9) kg_1000 km_X4_join kg_1001 rfl rfl ⟨(Nat.le_of_ble_eq_true rfl), (Nat.le_of_ble_eq_true rfl)⟩ rfl rfl (Nat.le_of_ble_eq_true rfl) dX4_holds_200 (fun v10 M11 h12 => ?_)
    refine j_iast (pc := 203) jv1_28 jm_01 rfl (by decide) wI1 ka1_28 h12 dX4_holds_203 (fun c13 M14 => ?_)
    refine j_iinc (pc := 204) [(5, jm_i v4), (0, jm_vr wd1 X 7 0), (1, jm_vr wd1 X 11 r1), (3, jm_i l3), (4, jm_i l4), (7, jm_i l7)] (q := 5) dX4_holds_204 rfl (by decide) (fun _ => rfl) (fun v15 h16 => ?_)
    refine j_goto (tgt := 47) (pc := 207) dX4_holds_207 (by decide) ?_
    refine j_sub (pc := 47) [(0, jm_vr wd1 X 7 0), (1, jm_vr wd1 X 11 r1), (3, jm_i l3), (4, jm_i l4), (5, jm_i v4), (6, jm_i v15)] [2, 3, 4, 5, 1, 0] rfl ?_
    exact hk47 M14 r1 l3 l4 v4 v15 gr1 hl3 hl4 h5 h16
set_option maxHeartbeats 4000000 in
set_option maxRecDepth 100000 in
theorem bX4_holds_119 (X : jm_X) (fu : Nat) (k47 : jm_M → Int → Int → Int → Int → Int → jm_R) (hk47 : ∀ (M : jm_M) (r1 l3 l4 l5 l6 : Int) (gr1 : 0 ≤ r1 ∧ r1 < 17) (hl3 : jm_in l3) (hl4 : jm_in l4) (hl5 : jm_in l5) (hl6 : jm_in l6), jm_J wd1 (jm_qi .boolean) cX4_holds 8 RX4 rmX4_holds X M [(0, jm_vr wd1 X 7 0), (1, jm_vr wd1 X 11 r1), (3, jm_i l3), (4, jm_i l4), (5, jm_i l5), (6, jm_i l6)] [] 47 (k47 M r1 l3 l4 l5 l6)) : ∀ (M : jm_M) (r1 l3 l4 l5 l6 l7 : Int) (gr1 : 0 ≤ r1 ∧ r1 < 17) (hl3 : jm_in l3) (hl4 : jm_in l4) (hl5 : jm_in l5) (hl6 : jm_in l6) (hl7 : jm_in l7), jm_J wd1 (jm_qi .boolean) cX4_holds 8 RX4 rmX4_holds X M [(0, jm_vr wd1 X 7 0), (1, jm_vr wd1 X 11 r1), (3, jm_i l3), (4, jm_i l4), (5, jm_i l5), (6, jm_i l6), (7, jm_i l7)] [] 119 (gX4_holds_119 fu k47 M r1 l3 l4 l5 l6 l7) := by
  intro M r1 l3 l4 l5 l6 l7 gr1 hl3 hl4 hl5 hl6 hl7
  unfold gX4_holds_119
  refine j_aload_n (pc := 119) dX4_holds_119 rfl (q := 0) rfl ?_
  refine j_getr (pc := 120) jv1_7 jm_01 kf_RX4_15 0 kg1_7_1 rfl dX4_holds_120 ?_
  refine j_iload (pc := 123) dX4_holds_123 (q := 4) rfl ?_
  refine j_iload (pc := 125) dX4_holds_125 (q := 6) rfl ?_
  refine j_sipush (pc := 127) 2126 dX4_holds_127 (by decide) ?_
  refine j_icmp_ne (tgt := 144) (pc := 130) hl7 (jm_inL (by decide) (by decide)) dX4_holds_130 (by decide) (fun c1 => ?_) (fun c1 => ?_)
  · skip
    refine j_aload_n (pc := 133) dX4_holds_133 rfl (q := 0) rfl ?_
    refine j_getr (pc := 134) jv1_7 jm_01 kf_RX4_15 0 kg1_7_1 rfl dX4_holds_134 ?_
    refine j_iload (pc := 137) dX4_holds_137 (q := 4) rfl ?_
    refine j_iald (pc := 139) jv1_28 jm_01 rfl (by decide) ka1_28 dX4_holds_139 (fun c2 h3 => ?_)
    refine j_ineg (pc := 140) dX4_holds_140 ?_
    refine j_goto (tgt := 159) (pc := 141) dX4_holds_141 (by decide) ?_
    refine j_iast (pc := 159) jv1_28 jm_01 rfl (by decide) wI1 ka1_28 (jm_w_in _) dX4_holds_159 (fun c4 M5 => ?_)
    refine j_goto (tgt := 204) (pc := 160) dX4_holds_160 (by decide) ?_
    refine j_iinc (pc := 204) [(0, jm_vr wd1 X 7 0), (1, jm_vr wd1 X 11 r1), (3, jm_i l3), (4, jm_i l4), (5, jm_i l5), (7, jm_i l7)] (q := 5) dX4_holds_204 rfl (by decide) (fun _ => rfl) (fun v6 h7 => ?_)
    refine j_goto (tgt := 47) (pc := 207) dX4_holds_207 (by decide) ?_
    refine j_sub (pc := 47) [(0, jm_vr wd1 X 7 0), (1, jm_vr wd1 X 11 r1), (3, jm_i l3), (4, jm_i l4), (5, jm_i l5), (6, jm_i v6)] [1, 2, 3, 4, 5, 0] rfl ?_
    exact hk47 M5 r1 l3 l4 l5 v6 gr1 hl3 hl4 hl5 h7
  · skip
    refine j_aload_n (pc := 144) dX4_holds_144 rfl (q := 0) rfl ?_
    refine j_getr (pc := 145) jv1_7 jm_01 kf_RX4_15 0 kg1_7_1 rfl dX4_holds_145 ?_
    refine j_iload (pc := 148) dX4_holds_148 (q := 4) rfl ?_
    refine j_iald (pc := 150) jv1_28 jm_01 rfl (by decide) ka1_28 dX4_holds_150 (fun c8 h9 => ?_)
    refine j_if_ne (tgt := 158) (pc := 151) h9 dX4_holds_151 (by decide) (fun c10 => ?_) (fun c10 => ?_)
    · skip
      refine j_iconst (pc := 154) dX4_holds_154 ?_
      refine j_goto (tgt := 159) (pc := 155) dX4_holds_155 (by decide) ?_
      refine j_iast (pc := 159) jv1_28 jm_01 rfl (by decide) wI1 ka1_28 (jm_inL (by decide) (by decide)) dX4_holds_159 (fun c11 M12 => ?_)
      refine j_goto (tgt := 204) (pc := 160) dX4_holds_160 (by decide) ?_
      refine j_iinc (pc := 204) [(0, jm_vr wd1 X 7 0), (1, jm_vr wd1 X 11 r1), (3, jm_i l3), (4, jm_i l4), (5, jm_i l5), (7, jm_i l7)] (q := 5) dX4_holds_204 rfl (by decide) (fun _ => rfl) (fun v13 h14 => ?_)
      refine j_goto (tgt := 47) (pc := 207) dX4_holds_207 (by decide) ?_
      refine j_sub (pc := 47) [(0, jm_vr wd1 X 7 0), (1, jm_vr wd1 X 11 r1), (3, jm_i l3), (4, jm_i l4), (5, jm_i l5), (6, jm_i v13)] [1, 2, 3, 4, 5, 0] rfl ?_
      exact hk47 M12 r1 l3 l4 l5 v13 gr1 hl3 hl4 hl5 h14
    · skip
      refine j_iconst (pc := 158) dX4_holds_158 ?_
      refine j_iast (pc := 159) jv1_28 jm_01 rfl (by decide) wI1 ka1_28 (jm_inL (by decide) (by decide)) dX4_holds_159 (fun c15 M16 => ?_)
      refine j_goto (tgt := 204) (pc := 160) dX4_holds_160 (by decide) ?_
      refine j_iinc (pc := 204) [(0, jm_vr wd1 X 7 0), (1, jm_vr wd1 X 11 r1), (3, jm_i l3), (4, jm_i l4), (5, jm_i l5), (7, jm_i l7)] (q := 5) dX4_holds_204 rfl (by decide) (fun _ => rfl) (fun v17 h18 => ?_)
      refine j_goto (tgt := 47) (pc := 207) dX4_holds_207 (by decide) ?_
      refine j_sub (pc := 47) [(0, jm_vr wd1 X 7 0), (1, jm_vr wd1 X 11 r1), (3, jm_i l3), (4, jm_i l4), (5, jm_i l5), (6, jm_i v17)] [1, 2, 3, 4, 5, 0] rfl ?_
      exact hk47 M16 r1 l3 l4 l5 v17 gr1 hl3 hl4 hl5 h18
set_option maxHeartbeats 4000000 in
set_option maxRecDepth 100000 in
theorem b0X4_holds_47 (X : jm_X) (fu : Nat) (k47 : jm_M → Int → Int → Int → Int → Int → jm_R) (hk47 : ∀ (M : jm_M) (r1 l3 l4 l5 l6 : Int) (gr1 : 0 ≤ r1 ∧ r1 < 17) (hl3 : jm_in l3) (hl4 : jm_in l4) (hl5 : jm_in l5) (hl6 : jm_in l6), jm_J wd1 (jm_qi .boolean) cX4_holds 8 RX4 rmX4_holds X M [(0, jm_vr wd1 X 7 0), (1, jm_vr wd1 X 11 r1), (3, jm_i l3), (4, jm_i l4), (5, jm_i l5), (6, jm_i l6)] [] 47 (k47 M r1 l3 l4 l5 l6)) : ∀ (M : jm_M) (r1 l3 l4 l5 l6 : Int) (gr1 : 0 ≤ r1 ∧ r1 < 17) (hl3 : jm_in l3) (hl4 : jm_in l4) (hl5 : jm_in l5) (hl6 : jm_in l6), jm_J wd1 (jm_qi .boolean) cX4_holds 8 RX4 rmX4_holds X M [(0, jm_vr wd1 X 7 0), (1, jm_vr wd1 X 11 r1), (3, jm_i l3), (4, jm_i l4), (5, jm_i l5), (6, jm_i l6)] [] 47 (gX4_holds_47 fu k47 M r1 l3 l4 l5 l6) := by
  intro M r1 l3 l4 l5 l6 gr1 hl3 hl4 hl5 hl6
  unfold gX4_holds_47
  refine j_iload (pc := 47) dX4_holds_47 (q := 5) rfl ?_
  refine j_iload (pc := 49) dX4_holds_49 (q := 3) rfl ?_
  refine j_icmp_ge (tgt := 210) (pc := 51) hl6 hl4 dX4_holds_51 (by decide) (fun c1 => ?_) (fun c1 => ?_)
  · skip
    refine j_iload_n (pc := 210) dX4_holds_210 rfl (q := 2) rfl ?_
    refine j_iload (pc := 211) dX4_holds_211 (q := 3) rfl ?_
    refine j_icmp_eq (tgt := 225) (pc := 213) hl3 hl4 dX4_holds_213 (by decide) (fun c2 => ?_) (fun c2 => ?_)
    · skip
      refine j_iconst (pc := 225) dX4_holds_225 ?_
      refine j_goto (tgt := 230) (pc := 226) dX4_holds_226 (by decide) ?_
      exact j_iret (pc := 230) (jm_inL (by decide) (by decide)) rfl dX4_holds_230
    · skip
      refine j_aload_n (pc := 216) dX4_holds_216 rfl (q := 0) rfl ?_
      refine j_getr (pc := 217) jv1_7 jm_01 kf_RX4_15 0 kg1_7_1 rfl dX4_holds_217 ?_
      refine j_iconst (pc := 220) dX4_holds_220 ?_
      refine j_iald (pc := 221) jv1_28 jm_01 rfl (by decide) ka1_28 dX4_holds_221 (fun c3 h4 => ?_)
      refine j_if_eq (tgt := 229) (pc := 222) h4 dX4_holds_222 (by decide) (fun c5 => ?_) (fun c5 => ?_)
      · skip
        refine j_iconst (pc := 229) dX4_holds_229 ?_
        exact j_iret (pc := 230) (jm_inL (by decide) (by decide)) rfl dX4_holds_230
      · skip
        refine j_iconst (pc := 225) dX4_holds_225 ?_
        refine j_goto (tgt := 230) (pc := 226) dX4_holds_226 (by decide) ?_
        exact j_iret (pc := 230) (jm_inL (by decide) (by decide)) rfl dX4_holds_230
  · skip
    refine j_aload_n (pc := 54) dX4_holds_54 rfl (q := 1) rfl ?_
    refine j_getr (pc := 55) jv1_11 gr1 kf_RX4_41 r1 kg1_11_0 rfl dX4_holds_55 ?_
    refine j_iload (pc := 58) dX4_holds_58 (q := 5) rfl ?_
    refine j_iald (pc := 60) jv1_20 (by omega) rfl (by decide) ka1_20 dX4_holds_60 (fun c6 h7 => ?_)
    refine j_nm (pc := 61) h7 (fun v8 h9 => ?_)
    refine j_istore (pc := 61) [(7, jm_i v8), (0, jm_vr wd1 X 7 0), (1, jm_vr wd1 X 11 r1), (3, jm_i l3), (4, jm_i l4), (5, jm_i l5), (6, jm_i l6)] dX4_holds_61 (by decide) rfl ?_
    refine j_iload (pc := 63) dX4_holds_63 (q := 0) rfl ?_
    refine j_sipush (pc := 65) 2000 dX4_holds_65 (by decide) ?_
    refine j_icmp_ge (tgt := 98) (pc := 68) h9 (jm_inL (by decide) (by decide)) dX4_holds_68 (by decide) (fun c10 => ?_) (fun c10 => ?_)
    · skip
      refine j_iload (pc := 98) dX4_holds_98 (q := 5) rfl ?_
      refine j_if_lt (tgt := 163) (pc := 100) hl5 dX4_holds_100 (by decide) (fun c11 => ?_) (fun c11 => ?_)
      · skip
        refine j_sub (pc := 163) [(0, jm_vr wd1 X 7 0), (1, jm_vr wd1 X 11 r1), (3, jm_i l3), (4, jm_i l4), (5, jm_i l5), (6, jm_i l6), (7, jm_i v8)] [1, 2, 3, 4, 5, 6, 0] rfl ?_
        exact bX4_holds_163 X fu k47 hk47 M r1 l3 l4 l5 l6 v8 gr1 hl3 hl4 hl5 hl6 h9
      · skip
        refine j_iload (pc := 103) dX4_holds_103 (q := 0) rfl ?_
        refine j_sipush (pc := 105) 2033 dX4_holds_105 (by decide) ?_
        refine j_icmp_eq (tgt := 119) (pc := 108) h9 (jm_inL (by decide) (by decide)) dX4_holds_108 (by decide) (fun c12 => ?_) (fun c12 => ?_)
        · skip
          refine j_sub (pc := 119) [(0, jm_vr wd1 X 7 0), (1, jm_vr wd1 X 11 r1), (3, jm_i l3), (4, jm_i l4), (5, jm_i l5), (6, jm_i l6), (7, jm_i v8)] [1, 2, 3, 4, 5, 6, 0] rfl ?_
          exact bX4_holds_119 X fu k47 hk47 M r1 l3 l4 l5 l6 v8 gr1 hl3 hl4 hl5 hl6 h9
        · skip
          refine j_iload (pc := 111) dX4_holds_111 (q := 0) rfl ?_
          refine j_sipush (pc := 113) 2126 dX4_holds_113 (by decide) ?_
          refine j_icmp_ne (tgt := 163) (pc := 116) h9 (jm_inL (by decide) (by decide)) dX4_holds_116 (by decide) (fun c13 => ?_) (fun c13 => ?_)
          · skip
            refine j_sub (pc := 119) [(0, jm_vr wd1 X 7 0), (1, jm_vr wd1 X 11 r1), (3, jm_i l3), (4, jm_i l4), (5, jm_i l5), (6, jm_i l6), (7, jm_i v8)] [1, 2, 3, 4, 5, 6, 0] rfl ?_
            exact bX4_holds_119 X fu k47 hk47 M r1 l3 l4 l5 l6 v8 gr1 hl3 hl4 hl5 hl6 h9
          · skip
            refine j_sub (pc := 163) [(0, jm_vr wd1 X 7 0), (1, jm_vr wd1 X 11 r1), (3, jm_i l3), (4, jm_i l4), (5, jm_i l5), (6, jm_i l6), (7, jm_i v8)] [1, 2, 3, 4, 5, 6, 0] rfl ?_
            exact bX4_holds_163 X fu k47 hk47 M r1 l3 l4 l5 l6 v8 gr1 hl3 hl4 hl5 hl6 h9
    · skip
      refine j_iload (pc := 71) dX4_holds_71 (q := 5) rfl ?_
      refine j_iconst (pc := 73) dX4_holds_73 ?_
      refine j_iadd (pc := 74) dX4_holds_74 ?_
      refine j_bipush (pc := 75) 59 dX4_holds_75 (by decide) ?_
      refine j_mmin (pc := 77) (jm_w_in _) (jm_inL (by decide) (by decide)) kg_995 kg_717 kg_5 kg_718 ⟨(Nat.le_of_ble_eq_true rfl), (Nat.le_of_ble_eq_true rfl)⟩ (Nat.le_of_ble_eq_true rfl) dX4_holds_77 ?_
      refine j_nm (pc := 80) (jm_min_in (jm_w_in _) (jm_inL (by decide) (by decide))) (fun v14 h15 => ?_)
      refine j_istore (pc := 80) [(5, jm_i v14), (7, jm_i v8), (0, jm_vr wd1 X 7 0), (1, jm_vr wd1 X 11 r1), (3, jm_i l3), (4, jm_i l4), (6, jm_i l6)] dX4_holds_80 (by decide) rfl ?_
      refine j_aload_n (pc := 82) dX4_holds_82 rfl (q := 2) rfl ?_
      refine j_getr (pc := 83) jv1_7 jm_01 kf_RX4_15 0 kg1_7_1 rfl dX4_holds_83 ?_
      refine j_iload (pc := 86) dX4_holds_86 (q := 0) rfl ?_
      refine j_aload_n (pc := 88) dX4_holds_88 rfl (q := 2) rfl ?_
      refine j_iload (pc := 89) dX4_holds_89 (q := 1) rfl ?_
      refine j_callVi1 (pc := 91) (ct_X4_valueOf M v8 h9) kg_996 km_X4_valueOf kv_X4_valueOf rfl rfl ⟨(Nat.le_of_ble_eq_true rfl), (Nat.le_of_ble_eq_true rfl)⟩ jv1_7 jm_01 ko1_7 rfl rfl (Nat.le_of_ble_eq_true rfl) dX4_holds_91 (fun v16 M17 h18 => ?_)
      refine j_iast (pc := 94) jv1_28 jm_01 rfl (by decide) wI1 ka1_28 h18 dX4_holds_94 (fun c19 M20 => ?_)
      refine j_goto (tgt := 204) (pc := 95) dX4_holds_95 (by decide) ?_
      refine j_iinc (pc := 204) [(5, jm_i v14), (7, jm_i v8), (0, jm_vr wd1 X 7 0), (1, jm_vr wd1 X 11 r1), (3, jm_i l3), (4, jm_i l4)] (q := 6) dX4_holds_204 rfl (by decide) (fun _ => rfl) (fun v21 h22 => ?_)
      refine j_goto (tgt := 47) (pc := 207) dX4_holds_207 (by decide) ?_
      refine j_sub (pc := 47) [(0, jm_vr wd1 X 7 0), (1, jm_vr wd1 X 11 r1), (3, jm_i l3), (4, jm_i l4), (5, jm_i v14), (6, jm_i v21)] [3, 4, 5, 6, 1, 0] rfl ?_
      exact hk47 M20 r1 l3 l4 v14 v21 gr1 hl3 hl4 h15 h22
theorem bX4_holds_47 (X : jm_X) (fu : Nat) : ∀ (n : Nat) (M : jm_M) (r1 l3 l4 l5 l6 : Int) (gr1 : 0 ≤ r1 ∧ r1 < 17) (hl3 : jm_in l3) (hl4 : jm_in l4) (hl5 : jm_in l5) (hl6 : jm_in l6), jm_J wd1 (jm_qi .boolean) cX4_holds 8 RX4 rmX4_holds X M [(0, jm_vr wd1 X 7 0), (1, jm_vr wd1 X 11 r1), (3, jm_i l3), (4, jm_i l4), (5, jm_i l5), (6, jm_i l6)] [] 47 (fX4_holds_47 fu n M r1 l3 l4 l5 l6) := by
  intro n
  induction n with
  | zero => intro M r1 l3 l4 l5 l6 gr1 hl3 hl4 hl5 hl6; exact j_none
  | succ n ih => intro M r1 l3 l4 l5 l6 gr1 hl3 hl4 hl5 hl6; exact b0X4_holds_47 X fu (fX4_holds_47 fu n) ih M r1 l3 l4 l5 l6 gr1 hl3 hl4 hl5 hl6
set_option maxHeartbeats 4000000 in
set_option maxRecDepth 100000 in
theorem bX4_holds_27 (X : jm_X) (fu : Nat) : ∀ (M : jm_M) (r1 l2 s0 : Int) (gr1 : 0 ≤ r1 ∧ r1 < 17) (hl2 : jm_in l2) (hs0 : jm_in s0), jm_J wd1 (jm_qi .boolean) cX4_holds 8 RX4 rmX4_holds X M [(0, jm_vr wd1 X 7 0), (1, jm_vr wd1 X 11 r1), (2, jm_i l2)] [jm_i s0] 27 (gX4_holds_27 fu M r1 l2 s0) := by
  intro M r1 l2 s0 gr1 hl2 hs0
  unfold gX4_holds_27
  refine j_istore_n (pc := 27) [(3, jm_i s0), (0, jm_vr wd1 X 7 0), (1, jm_vr wd1 X 11 r1), (2, jm_i l2)] dX4_holds_27 rfl (by decide) rfl ?_
  refine j_aload_n (pc := 28) dX4_holds_28 rfl (q := 2) rfl ?_
  refine j_getr (pc := 29) jv1_11 gr1 kf_RX4_32 r1 kg1_11_2 rfl dX4_holds_29 ?_
  refine j_iload_n (pc := 32) dX4_holds_32 rfl (q := 3) rfl ?_
  refine j_iald (pc := 33) jv1_21 (by omega) rfl (by decide) ka1_21 dX4_holds_33 (fun c1 h2 => ?_)
  refine j_bipush (pc := 34) 60 dX4_holds_34 (by decide) ?_
  refine j_mmin (pc := 36) h2 (jm_inL (by decide) (by decide)) kg_995 kg_717 kg_5 kg_718 ⟨(Nat.le_of_ble_eq_true rfl), (Nat.le_of_ble_eq_true rfl)⟩ (Nat.le_of_ble_eq_true rfl) dX4_holds_36 ?_
  refine j_nm (pc := 39) (jm_min_in h2 (jm_inL (by decide) (by decide))) (fun v3 h4 => ?_)
  refine j_istore (pc := 39) [(4, jm_i v3), (3, jm_i s0), (0, jm_vr wd1 X 7 0), (1, jm_vr wd1 X 11 r1), (2, jm_i l2)] dX4_holds_39 (by decide) rfl ?_
  refine j_iconst (pc := 41) dX4_holds_41 ?_
  refine j_istore (pc := 42) [(5, jm_i (-1)), (4, jm_i v3), (3, jm_i s0), (0, jm_vr wd1 X 7 0), (1, jm_vr wd1 X 11 r1), (2, jm_i l2)] dX4_holds_42 (by decide) rfl ?_
  refine j_iload_n (pc := 44) dX4_holds_44 rfl (q := 2) rfl ?_
  refine j_istore (pc := 45) [(6, jm_i s0), (5, jm_i (-1)), (4, jm_i v3), (3, jm_i s0), (0, jm_vr wd1 X 7 0), (1, jm_vr wd1 X 11 r1), (2, jm_i l2)] dX4_holds_45 (by decide) rfl ?_
  refine j_sub (pc := 47) [(0, jm_vr wd1 X 7 0), (1, jm_vr wd1 X 11 r1), (3, jm_i s0), (4, jm_i v3), (5, jm_i (-1)), (6, jm_i s0)] [4, 5, 3, 2, 1, 0] rfl ?_
  exact bX4_holds_47 X fu  fu M r1 s0 v3 (-1) s0 gr1 hs0 h4 (jm_inL (by decide) (by decide)) hs0
set_option maxHeartbeats 4000000 in
set_option maxRecDepth 100000 in
theorem ct_X4_holds (fu : Nat) (M : jm_M) (r1 l2 : Int) (gr1 : 0 ≤ r1 ∧ r1 < 17) (hl2 : jm_in l2) : jm_Ci wd1 yX4_holds cX4_holds 8 (some .boolean) rmX4_holds M (fun G ad => [.ref (ad (jm_r wd1 7 0)), .ref (ad (jm_r wd1 11 r1)), jm_i l2]) (fX4_holds fu M r1 l2) := by
  refine jm_met_i (fun X => [(0, jm_vr wd1 X 7 0), (1, jm_vr wd1 X 11 r1), (2, jm_i l2)]) (by decide) (fun _ _ => (Nat.le_of_ble_eq_true rfl)) (fun _ => rfl) (fun X => ?_)
  unfold fX4_holds
  refine j_iload_n (pc := 0) dX4_holds_0 rfl (q := 2) rfl ?_
  refine j_bipush (pc := 1) 21 dX4_holds_1 (by decide) ?_
  refine j_callNi2 (pc := 3) (ct_X11_isIndex M l2 21 hl2 (jm_inL (by decide) (by decide))) (host := "RaceByLaps") (by decide) km_X11_isIndex kg_562 rfl rfl ⟨(Nat.le_of_ble_eq_true rfl), (Nat.le_of_ble_eq_true rfl)⟩ rfl rfl (Nat.le_of_ble_eq_true rfl) dX4_holds_3 (fun v1 M2 h3 => ?_)
  refine j_if_ne (tgt := 11) (pc := 6) h3 dX4_holds_6 (by decide) (fun c4 => ?_) (fun c4 => ?_)
  · skip
    refine j_iconst (pc := 9) dX4_holds_9 ?_
    exact j_iret (pc := 10) (jm_inL (by decide) (by decide)) rfl dX4_holds_10
  · skip
    refine j_iload_n (pc := 11) dX4_holds_11 rfl (q := 2) rfl ?_
    refine j_if_ne (tgt := 19) (pc := 12) hl2 dX4_holds_12 (by decide) (fun c5 => ?_) (fun c5 => ?_)
    · skip
      refine j_iconst (pc := 15) dX4_holds_15 ?_
      refine j_goto (tgt := 27) (pc := 16) dX4_holds_16 (by decide) ?_
      refine j_sub (pc := 27) [(0, jm_vr wd1 X 7 0), (1, jm_vr wd1 X 11 r1), (2, jm_i l2)] [0, 1, 2] rfl ?_
      exact bX4_holds_27 X fu  M2 r1 l2 0 gr1 hl2 (jm_inL (by decide) (by decide))
    · skip
      refine j_aload_n (pc := 19) dX4_holds_19 rfl (q := 1) rfl ?_
      refine j_getr (pc := 20) jv1_11 gr1 kf_RX4_32 r1 kg1_11_2 rfl dX4_holds_20 ?_
      refine j_iload_n (pc := 23) dX4_holds_23 rfl (q := 2) rfl ?_
      refine j_iconst (pc := 24) dX4_holds_24 ?_
      refine j_isub (pc := 25) dX4_holds_25 ?_
      refine j_iald (pc := 26) jv1_21 (by omega) rfl (by decide) ka1_21 dX4_holds_26 (fun c6 h7 => ?_)
      refine j_sub (pc := 27) [(0, jm_vr wd1 X 7 0), (1, jm_vr wd1 X 11 r1), (2, jm_i l2)] [0, 1, 2] rfl ?_
      exact bX4_holds_27 X fu  M2 r1 l2 (M2 21 r1 (jm_w (l2 - 1))) gr1 hl2 h7
abbrev rmX4_firstTrue : Room := { frames := 2, cells := 0, slots := 0, locals := 49 }
set_option maxHeartbeats 4000000 in
set_option maxRecDepth 100000 in
theorem b0X4_firstTrue_2 (X : jm_X) (fu : Nat) (k2 : jm_M → Int → Int → jm_R) (hk2 : ∀ (M : jm_M) (r1 l2 : Int) (gr1 : 0 ≤ r1 ∧ r1 < 17) (hl2 : jm_in l2), jm_J wd1 (jm_qi .int) cX4_firstTrue 3 RX4 rmX4_firstTrue X M [(0, jm_vr wd1 X 7 0), (1, jm_vr wd1 X 11 r1), (2, jm_i l2)] [] 2 (k2 M r1 l2)) : ∀ (M : jm_M) (r1 l2 : Int) (gr1 : 0 ≤ r1 ∧ r1 < 17) (hl2 : jm_in l2), jm_J wd1 (jm_qi .int) cX4_firstTrue 3 RX4 rmX4_firstTrue X M [(0, jm_vr wd1 X 7 0), (1, jm_vr wd1 X 11 r1), (2, jm_i l2)] [] 2 (gX4_firstTrue_2 fu k2 M r1 l2) := by
  intro M r1 l2 gr1 hl2
  unfold gX4_firstTrue_2
  refine j_iload_n (pc := 2) dX4_firstTrue_2 rfl (q := 2) rfl ?_
  refine j_aload_n (pc := 3) dX4_firstTrue_3 rfl (q := 1) rfl ?_
  refine j_geti (pc := 4) jv1_11 gr1 kf_RX4_22 kg1_11_6 dX4_firstTrue_4 (fun h1 => ?_)
  refine j_icmp_ge (tgt := 27) (pc := 7) hl2 h1 dX4_firstTrue_7 (by decide) (fun c2 => ?_) (fun c2 => ?_)
  · skip
    refine j_iconst (pc := 27) dX4_firstTrue_27 ?_
    exact j_iret (pc := 28) (jm_inL (by decide) (by decide)) rfl dX4_firstTrue_28
  · skip
    refine j_aload_n (pc := 10) dX4_firstTrue_10 rfl (q := 0) rfl ?_
    refine j_aload_n (pc := 11) dX4_firstTrue_11 rfl (q := 1) rfl ?_
    refine j_iload_n (pc := 12) dX4_firstTrue_12 rfl (q := 2) rfl ?_
    refine j_callVi2 (pc := 13) (ct_X4_holds fu M r1 l2 gr1 hl2) kg_991 km_X4_holds kv_X4_holds rfl rfl ⟨(Nat.le_of_ble_eq_true rfl), (Nat.le_of_ble_eq_true rfl)⟩ jv1_7 jm_01 ko1_7 rfl rfl (Nat.le_of_ble_eq_true rfl) dX4_firstTrue_13 (fun v3 M4 h5 => ?_)
    refine j_if_eq (tgt := 21) (pc := 16) h5 dX4_firstTrue_16 (by decide) (fun c6 => ?_) (fun c6 => ?_)
    · skip
      refine j_iinc (pc := 21) [(0, jm_vr wd1 X 7 0), (1, jm_vr wd1 X 11 r1)] (q := 2) dX4_firstTrue_21 rfl (by decide) (fun _ => rfl) (fun v7 h8 => ?_)
      refine j_goto (tgt := 2) (pc := 24) dX4_firstTrue_24 (by decide) ?_
      refine j_sub (pc := 2) [(0, jm_vr wd1 X 7 0), (1, jm_vr wd1 X 11 r1), (2, jm_i v7)] [1, 2, 0] rfl ?_
      exact hk2 M4 r1 v7 gr1 h8
    · skip
      refine j_iload_n (pc := 19) dX4_firstTrue_19 rfl (q := 2) rfl ?_
      exact j_iret (pc := 20) hl2 rfl dX4_firstTrue_20
theorem bX4_firstTrue_2 (X : jm_X) (fu : Nat) : ∀ (n : Nat) (M : jm_M) (r1 l2 : Int) (gr1 : 0 ≤ r1 ∧ r1 < 17) (hl2 : jm_in l2), jm_J wd1 (jm_qi .int) cX4_firstTrue 3 RX4 rmX4_firstTrue X M [(0, jm_vr wd1 X 7 0), (1, jm_vr wd1 X 11 r1), (2, jm_i l2)] [] 2 (fX4_firstTrue_2 fu n M r1 l2) := by
  intro n
  induction n with
  | zero => intro M r1 l2 gr1 hl2; exact j_none
  | succ n ih => intro M r1 l2 gr1 hl2; exact b0X4_firstTrue_2 X fu (fX4_firstTrue_2 fu n) ih M r1 l2 gr1 hl2
set_option maxHeartbeats 4000000 in
set_option maxRecDepth 100000 in
theorem ct_X4_firstTrue (fu : Nat) (M : jm_M) (r1 : Int) (gr1 : 0 ≤ r1 ∧ r1 < 17) : jm_Ci wd1 yX4_firstTrue cX4_firstTrue 3 (some .int) rmX4_firstTrue M (fun G ad => [.ref (ad (jm_r wd1 7 0)), .ref (ad (jm_r wd1 11 r1))]) (fX4_firstTrue fu M r1) := by
  refine jm_met_i (fun X => [(0, jm_vr wd1 X 7 0), (1, jm_vr wd1 X 11 r1)]) (by decide) (fun _ _ => (Nat.le_of_ble_eq_true rfl)) (fun _ => rfl) (fun X => ?_)
  unfold fX4_firstTrue
  refine j_iconst (pc := 0) dX4_firstTrue_0 ?_
  refine j_istore_n (pc := 1) [(2, jm_i 0), (0, jm_vr wd1 X 7 0), (1, jm_vr wd1 X 11 r1)] dX4_firstTrue_1 rfl (by decide) rfl ?_
  refine j_sub (pc := 2) [(0, jm_vr wd1 X 7 0), (1, jm_vr wd1 X 11 r1), (2, jm_i 0)] [1, 2, 0] rfl ?_
  exact bX4_firstTrue_2 X fu  fu M r1 0 gr1 (jm_inL (by decide) (by decide))
abbrev rmX2_follow : Room := { frames := 1, cells := 0, slots := 0, locals := 21 }
set_option maxHeartbeats 4000000 in
set_option maxRecDepth 100000 in
theorem bX2_follow_48 (X : jm_X) (fu : Nat) : ∀ (M : jm_M) (r0 l1 r2 : Int) (gr0 : 0 ≤ r0 ∧ r0 < 17) (hl1 : jm_in l1) (gr2 : 0 ≤ r2 ∧ r2 < 6), jm_J wd1 (jm_qi .int) cX2_follow 4 RX2 rmX2_follow X M [(0, jm_vr wd1 X 11 r0), (1, jm_i l1), (2, jm_vr wd1 X 9 r2)] [] 48 (gX2_follow_48 fu M r0 l1 r2) := by
  intro M r0 l1 r2 gr0 hl1 gr2
  unfold gX2_follow_48
  refine j_aload_n (pc := 48) dX2_follow_48 rfl (q := 0) rfl ?_
  refine j_getr (pc := 49) jv1_11 gr0 kf_RX2_294 r0 kg1_11_4 rfl dX2_follow_49 ?_
  refine j_iload_n (pc := 52) dX2_follow_52 rfl (q := 1) rfl ?_
  refine j_iald (pc := 53) jv1_23 (by omega) rfl (by decide) ka1_23 dX2_follow_53 (fun c1 h2 => ?_)
  refine j_bipush (pc := 54) 9 dX2_follow_54 (by decide) ?_
  refine j_icmp_eq (tgt := 69) (pc := 56) h2 (jm_inL (by decide) (by decide)) dX2_follow_56 (by decide) (fun c3 => ?_) (fun c3 => ?_)
  · skip
    refine j_aload_n (pc := 69) dX2_follow_69 rfl (q := 0) rfl ?_
    refine j_getr (pc := 70) jv1_11 gr0 kf_RX2_296 r0 kg1_11_5 rfl dX2_follow_70 ?_
    refine j_iload_n (pc := 73) dX2_follow_73 rfl (q := 1) rfl ?_
    refine j_iald (pc := 74) jv1_24 (by omega) rfl (by decide) ka1_24 dX2_follow_74 (fun c4 h5 => ?_)
    exact j_iret (pc := 75) h5 rfl dX2_follow_75
  · skip
    refine j_aload_n (pc := 59) dX2_follow_59 rfl (q := 2) rfl ?_
    refine j_aload_n (pc := 60) dX2_follow_60 rfl (q := 0) rfl ?_
    refine j_getr (pc := 61) jv1_11 gr0 kf_RX2_294 r0 kg1_11_4 rfl dX2_follow_61 ?_
    refine j_iload_n (pc := 64) dX2_follow_64 rfl (q := 1) rfl ?_
    refine j_iald (pc := 65) jv1_23 (by omega) rfl (by decide) ka1_23 dX2_follow_65 (fun c6 h7 => ?_)
    refine j_put (pc := 66) jv1_9 gr2 kf_RX2_172 wI1 kp_X6_14 kx1_9_14 h7 rfl rfl dX2_follow_66 (fun M8 => ?_)
    refine j_aload_n (pc := 69) dX2_follow_69 rfl (q := 0) rfl ?_
    refine j_getr (pc := 70) jv1_11 gr0 kf_RX2_296 r0 kg1_11_5 rfl dX2_follow_70 ?_
    refine j_iload_n (pc := 73) dX2_follow_73 rfl (q := 1) rfl ?_
    refine j_iald (pc := 74) jv1_24 (by omega) rfl (by decide) ka1_24 dX2_follow_74 (fun c9 h10 => ?_)
    exact j_iret (pc := 75) h10 rfl dX2_follow_75
set_option maxHeartbeats 4000000 in
set_option maxRecDepth 100000 in
theorem ct_X2_follow (fu : Nat) (M : jm_M) (r0 l1 r2 l3 : Int) (gr0 : 0 ≤ r0 ∧ r0 < 17) (hl1 : jm_in l1) (gr2 : 0 ≤ r2 ∧ r2 < 6) (hl3 : jm_in l3) : jm_Ci wd1 yX2_follow cX2_follow 4 (some .int) rmX2_follow M (fun G ad => [.ref (ad (jm_r wd1 11 r0)), jm_i l1, .ref (ad (jm_r wd1 9 r2)), jm_i l3]) (fX2_follow fu M r0 l1 r2 l3) := by
  refine jm_met_i (fun X => [(0, jm_vr wd1 X 11 r0), (1, jm_i l1), (2, jm_vr wd1 X 9 r2), (3, jm_i l3)]) (by decide) (fun _ _ => (Nat.le_of_ble_eq_true rfl)) (fun _ => rfl) (fun X => ?_)
  unfold fX2_follow
  refine j_iload_n (pc := 0) dX2_follow_0 rfl (q := 1) rfl ?_
  refine j_bipush (pc := 1) 21 dX2_follow_1 (by decide) ?_
  refine j_callNi2 (pc := 3) (ct_X11_isIndex M l1 21 hl1 (jm_inL (by decide) (by decide))) (host := "RaceByLaps") (by decide) km_X11_isIndex kg_562 rfl rfl ⟨(Nat.le_of_ble_eq_true rfl), (Nat.le_of_ble_eq_true rfl)⟩ rfl rfl (Nat.le_of_ble_eq_true rfl) dX2_follow_3 (fun v1 M2 h3 => ?_)
  refine j_if_eq (tgt := 18) (pc := 6) h3 dX2_follow_6 (by decide) (fun c4 => ?_) (fun c4 => ?_)
  · skip
    refine j_iconst (pc := 18) dX2_follow_18 ?_
    exact j_iret (pc := 19) (jm_inL (by decide) (by decide)) rfl dX2_follow_19
  · skip
    refine j_iload_n (pc := 9) dX2_follow_9 rfl (q := 3) rfl ?_
    refine j_bipush (pc := 10) 12 dX2_follow_10 (by decide) ?_
    refine j_callNi2 (pc := 12) (ct_X11_isIndex M2 l3 12 hl3 (jm_inL (by decide) (by decide))) (host := "RaceByLaps") (by decide) km_X11_isIndex kg_562 rfl rfl ⟨(Nat.le_of_ble_eq_true rfl), (Nat.le_of_ble_eq_true rfl)⟩ rfl rfl (Nat.le_of_ble_eq_true rfl) dX2_follow_12 (fun v5 M6 h7 => ?_)
    refine j_if_ne (tgt := 20) (pc := 15) h7 dX2_follow_15 (by decide) (fun c8 => ?_) (fun c8 => ?_)
    · skip
      refine j_iconst (pc := 18) dX2_follow_18 ?_
      exact j_iret (pc := 19) (jm_inL (by decide) (by decide)) rfl dX2_follow_19
    · skip
      refine j_aload_n (pc := 20) dX2_follow_20 rfl (q := 2) rfl ?_
      refine j_getr (pc := 21) jv1_9 gr2 kf_RX2_287 r2 kg1_9_17 rfl dX2_follow_21 ?_
      refine j_iload_n (pc := 24) dX2_follow_24 rfl (q := 3) rfl ?_
      refine j_iload_n (pc := 25) dX2_follow_25 rfl (q := 1) rfl ?_
      refine j_iast (pc := 26) jv1_31 (by omega) rfl (by decide) wI1 ka1_31 hl1 dX2_follow_26 (fun c9 M10 => ?_)
      refine j_aload_n (pc := 27) dX2_follow_27 rfl (q := 0) rfl ?_
      refine j_getr (pc := 28) jv1_11 gr0 kf_RX2_290 r0 kg1_11_3 rfl dX2_follow_28 ?_
      refine j_iload_n (pc := 31) dX2_follow_31 rfl (q := 1) rfl ?_
      refine j_iald (pc := 32) jv1_22 (by omega) rfl (by decide) ka1_22 dX2_follow_32 (fun c11 h12 => ?_)
      refine j_bipush (pc := 33) 9 dX2_follow_33 (by decide) ?_
      refine j_icmp_eq (tgt := 48) (pc := 35) h12 (jm_inL (by decide) (by decide)) dX2_follow_35 (by decide) (fun c13 => ?_) (fun c13 => ?_)
      · skip
        refine j_sub (pc := 48) [(0, jm_vr wd1 X 11 r0), (1, jm_i l1), (2, jm_vr wd1 X 9 r2)] [0, 1, 2] rfl ?_
        exact bX2_follow_48 X fu  M10 r0 l1 r2 gr0 hl1 gr2
      · skip
        refine j_aload_n (pc := 38) dX2_follow_38 rfl (q := 2) rfl ?_
        refine j_aload_n (pc := 39) dX2_follow_39 rfl (q := 0) rfl ?_
        refine j_getr (pc := 40) jv1_11 gr0 kf_RX2_290 r0 kg1_11_3 rfl dX2_follow_40 ?_
        refine j_iload_n (pc := 43) dX2_follow_43 rfl (q := 1) rfl ?_
        refine j_iald (pc := 44) jv1_22 (by omega) rfl (by decide) ka1_22 dX2_follow_44 (fun c14 h15 => ?_)
        refine j_put (pc := 45) jv1_9 gr2 kf_RX2_128 wI1 kp_X6_13 kx1_9_13 h15 rfl rfl dX2_follow_45 (fun M16 => ?_)
        refine j_sub (pc := 48) [(0, jm_vr wd1 X 11 r0), (1, jm_i l1), (2, jm_vr wd1 X 9 r2)] [0, 1, 2] rfl ?_
        exact bX2_follow_48 X fu  M16 r0 l1 r2 gr0 hl1 gr2
abbrev rmX1_stopsInForce : Room := { frames := 0, cells := 0, slots := 0, locals := 0 }
set_option maxHeartbeats 4000000 in
set_option maxRecDepth 100000 in
theorem ct_X1_stopsInForce (M : jm_M) (r0 : Int) (gr0 : 0 ≤ r0 ∧ r0 < 6) : jm_Cr 10 33 wd1 yX1_stopsInForce cX1_stopsInForce 1 (some (.object "RaceByLaps$Table")) rmX1_stopsInForce M (fun G ad => [.ref (ad (jm_r wd1 8 r0))]) (fX1_stopsInForce M r0) := by
  refine jm_met_r (fun X => [(0, jm_vr wd1 X 8 r0)]) (by decide) (fun _ _ => (Nat.le_of_ble_eq_true rfl)) (fun _ => rfl) (fun X => ?_)
  unfold fX1_stopsInForce
  refine j_aload_n (pc := 0) dX1_stopsInForce_0 rfl (q := 0) rfl ?_
  refine j_geti (pc := 1) jv1_8 gr0 kf_RX1_47 kg1_8_13 dX1_stopsInForce_1 (fun h1 => ?_)
  refine j_if_eq (tgt := 14) (pc := 4) h1 dX1_stopsInForce_4 (by decide) (fun c2 => ?_) (fun c2 => ?_)
  · skip
    refine j_aload_n (pc := 14) dX1_stopsInForce_14 rfl (q := 0) rfl ?_
    refine j_getr (pc := 15) jv1_8 gr0 kf_RX1_23 (r0 + 12) kg1_8_8 rfl dX1_stopsInForce_15 ?_
    exact j_aret (pc := 18) (by omega) dX1_stopsInForce_18
  · skip
    refine j_aload_n (pc := 7) dX1_stopsInForce_7 rfl (q := 0) rfl ?_
    refine j_getr (pc := 8) jv1_8 gr0 kf_RX1_29 (r0 + 24) kg1_8_10 rfl dX1_stopsInForce_8 ?_
    refine j_goto (tgt := 18) (pc := 11) dX1_stopsInForce_11 (by decide) ?_
    exact j_aret (pc := 18) (by omega) dX1_stopsInForce_18
abbrev rmX1_stopBehind : Room := { frames := 1, cells := 0, slots := 0, locals := 22 }
set_option maxHeartbeats 4000000 in
set_option maxRecDepth 100000 in
theorem b0X1_stopBehind_12 (X : jm_X) (fu : Nat) (k12 : jm_M → Int → Int → Int → jm_R) (hk12 : ∀ (M : jm_M) (l1 r2 l3 : Int) (hl1 : jm_in l1) (gr2 : 0 ≤ r2 ∧ r2 < 33) (hl3 : jm_in l3), jm_J wd1 (jm_qi .int) cX1_stopBehind 4 RX1 rmX1_stopBehind X M [(1, jm_i l1), (2, jm_vr wd1 X 10 r2), (3, jm_i l3)] [] 12 (k12 M l1 r2 l3)) : ∀ (M : jm_M) (l1 r2 l3 : Int) (hl1 : jm_in l1) (gr2 : 0 ≤ r2 ∧ r2 < 33) (hl3 : jm_in l3), jm_J wd1 (jm_qi .int) cX1_stopBehind 4 RX1 rmX1_stopBehind X M [(1, jm_i l1), (2, jm_vr wd1 X 10 r2), (3, jm_i l3)] [] 12 (gX1_stopBehind_12 fu k12 M l1 r2 l3) := by
  intro M l1 r2 l3 hl1 gr2 hl3
  unfold gX1_stopBehind_12
  refine j_iload_n (pc := 12) dX1_stopBehind_12 rfl (q := 2) rfl ?_
  refine j_if_lt (tgt := 34) (pc := 13) hl3 dX1_stopBehind_13 (by decide) (fun c1 => ?_) (fun c1 => ?_)
  · skip
    refine j_iconst (pc := 34) dX1_stopBehind_34 ?_
    exact j_iret (pc := 35) (jm_inL (by decide) (by decide)) rfl dX1_stopBehind_35
  · skip
    refine j_aload_n (pc := 16) dX1_stopBehind_16 rfl (q := 1) rfl ?_
    refine j_iload_n (pc := 17) dX1_stopBehind_17 rfl (q := 2) rfl ?_
    refine j_iconst (pc := 18) dX1_stopBehind_18 ?_
    refine j_callVi2 (pc := 19) (ct_X7_cell M r2 l3 0 gr2 hl3 (jm_inL (by decide) (by decide))) kg_1014 km_X7_cell kv_X7_cell rfl rfl ⟨(Nat.le_of_ble_eq_true rfl), (Nat.le_of_ble_eq_true rfl)⟩ jv1_10 gr2 ko1_10 rfl rfl (Nat.le_of_ble_eq_true rfl) dX1_stopBehind_19 (fun v2 M3 h4 => ?_)
    refine j_iload_n (pc := 22) dX1_stopBehind_22 rfl (q := 0) rfl ?_
    refine j_icmp_ne (tgt := 28) (pc := 23) h4 hl1 dX1_stopBehind_23 (by decide) (fun c5 => ?_) (fun c5 => ?_)
    · skip
      refine j_iload_n (pc := 26) dX1_stopBehind_26 rfl (q := 2) rfl ?_
      exact j_iret (pc := 27) hl3 rfl dX1_stopBehind_27
    · skip
      refine j_iinc (pc := 28) [(1, jm_i l1), (2, jm_vr wd1 X 10 r2)] (q := 2) dX1_stopBehind_28 rfl (by decide) (fun _ => rfl) (fun v6 h7 => ?_)
      refine j_goto (tgt := 12) (pc := 31) dX1_stopBehind_31 (by decide) ?_
      refine j_sub (pc := 12) [(1, jm_i l1), (2, jm_vr wd1 X 10 r2), (3, jm_i v6)] [1, 2, 0] rfl ?_
      exact hk12 M3 l1 r2 v6 hl1 gr2 h7
theorem bX1_stopBehind_12 (X : jm_X) (fu : Nat) : ∀ (n : Nat) (M : jm_M) (l1 r2 l3 : Int) (hl1 : jm_in l1) (gr2 : 0 ≤ r2 ∧ r2 < 33) (hl3 : jm_in l3), jm_J wd1 (jm_qi .int) cX1_stopBehind 4 RX1 rmX1_stopBehind X M [(1, jm_i l1), (2, jm_vr wd1 X 10 r2), (3, jm_i l3)] [] 12 (fX1_stopBehind_12 fu n M l1 r2 l3) := by
  intro n
  induction n with
  | zero => intro M l1 r2 l3 hl1 gr2 hl3; exact j_none
  | succ n ih => intro M l1 r2 l3 hl1 gr2 hl3; exact b0X1_stopBehind_12 X fu (fX1_stopBehind_12 fu n) ih M l1 r2 l3 hl1 gr2 hl3
set_option maxHeartbeats 4000000 in
set_option maxRecDepth 100000 in
theorem ct_X1_stopBehind (fu : Nat) (M : jm_M) (r0 l1 : Int) (gr0 : 0 ≤ r0 ∧ r0 < 6) (hl1 : jm_in l1) : jm_Ci wd1 yX1_stopBehind cX1_stopBehind 4 (some .int) rmX1_stopBehind M (fun G ad => [.ref (ad (jm_r wd1 8 r0)), jm_i l1]) (fX1_stopBehind fu M r0 l1) := by
  refine jm_met_i (fun X => [(0, jm_vr wd1 X 8 r0), (1, jm_i l1)]) (by decide) (fun _ _ => (Nat.le_of_ble_eq_true rfl)) (fun _ => rfl) (fun X => ?_)
  unfold fX1_stopBehind
  refine j_aload_n (pc := 0) dX1_stopBehind_0 rfl (q := 0) rfl ?_
  refine j_callVr0 (pc := 1) (ct_X1_stopsInForce M r0 gr0) kg_1010 km_X1_stopsInForce kv_X1_stopsInForce rfl rfl ⟨(Nat.le_of_ble_eq_true rfl), (Nat.le_of_ble_eq_true rfl)⟩ jv1_8 gr0 ko1_8 rfl rfl (Nat.le_of_ble_eq_true rfl) dX1_stopBehind_1 (fun v1 M2 gr3 => ?_)
  refine j_astore_n (pc := 4) [(2, jm_vr wd1 X 10 v1), (0, jm_vr wd1 X 8 r0), (1, jm_i l1)] dX1_stopBehind_4 rfl (by decide) rfl ?_
  refine j_aload_n (pc := 5) dX1_stopBehind_5 rfl (q := 0) rfl ?_
  refine j_geti (pc := 6) jv1_10 gr3 kf_RX1_39 kg1_10_3 dX1_stopBehind_6 (fun h4 => ?_)
  refine j_iconst (pc := 9) dX1_stopBehind_9 ?_
  refine j_isub (pc := 10) dX1_stopBehind_10 ?_
  refine j_nm (pc := 11) (jm_w_in _) (fun v5 h6 => ?_)
  refine j_istore_n (pc := 11) [(3, jm_i v5), (2, jm_vr wd1 X 10 v1), (0, jm_vr wd1 X 8 r0), (1, jm_i l1)] dX1_stopBehind_11 rfl (by decide) rfl ?_
  refine j_sub (pc := 12) [(1, jm_i l1), (2, jm_vr wd1 X 10 v1), (3, jm_i v5)] [3, 1, 0] rfl ?_
  exact bX1_stopBehind_12 X fu  fu M2 l1 v1 v5 hl1 gr3 h6
abbrev rmX2_atBox : Room := { frames := 2, cells := 0, slots := 0, locals := 42 }
set_option maxHeartbeats 4000000 in
set_option maxRecDepth 100000 in
theorem bX2_atBox_75 (X : jm_X) (fu : Nat) : ∀ (M : jm_M) (r1 r2 l5 l6 l7 l8 : Int) (gr1 : 0 ≤ r1 ∧ r1 < 6) (gr2 : 0 ≤ r2 ∧ r2 < 6) (hl5 : jm_in l5) (hl6 : jm_in l6) (hl7 : jm_in l7) (hl8 : jm_in l8), jm_J wd1 jm_qv cX2_atBox 10 RX2 rmX2_atBox X M [(0, jm_vr wd1 X 2 0), (1, jm_vr wd1 X 8 r1), (2, jm_vr wd1 X 9 r2), (5, jm_i l5), (6, jm_i l6), (7, jm_i l7), (8, jm_i l8)] [] 75 (gX2_atBox_75 fu M r1 r2 l5 l6 l7 l8) := by
  intro M r1 r2 l5 l6 l7 l8 gr1 gr2 hl5 hl6 hl7 hl8
  unfold gX2_atBox_75
  refine j_iload (pc := 75) dX2_atBox_75 (q := 3) rfl ?_
  refine j_aload_n (pc := 77) dX2_atBox_77 rfl (q := 1) rfl ?_
  refine j_geti (pc := 78) jv1_8 gr1 kf_RX2_299 kg1_8_1 dX2_atBox_78 (fun h1 => ?_)
  refine j_aload_n (pc := 81) dX2_atBox_81 rfl (q := 2) rfl ?_
  refine j_geti (pc := 82) jv1_9 gr2 kf_RX2_131 kg1_9_8 dX2_atBox_82 (fun h2 => ?_)
  refine j_isub (pc := 85) dX2_atBox_85 ?_
  refine j_mmin (pc := 86) hl5 (jm_w_in _) kg_1020 kg_717 kg_5 kg_718 ⟨(Nat.le_of_ble_eq_true rfl), (Nat.le_of_ble_eq_true rfl)⟩ (Nat.le_of_ble_eq_true rfl) dX2_atBox_86 ?_
  refine j_nm (pc := 89) (jm_min_in hl5 (jm_w_in _)) (fun v3 h4 => ?_)
  refine j_istore (pc := 89) [(9, jm_i v3), (0, jm_vr wd1 X 2 0), (1, jm_vr wd1 X 8 r1), (2, jm_vr wd1 X 9 r2), (5, jm_i l5), (6, jm_i l6), (7, jm_i l7), (8, jm_i l8)] dX2_atBox_89 (by decide) rfl ?_
  refine j_iload (pc := 91) dX2_atBox_91 (q := 7) rfl ?_
  refine j_aload_n (pc := 93) dX2_atBox_93 rfl (q := 1) rfl ?_
  refine j_getr (pc := 94) jv1_2 jm_01 kf_RX2_9 0 kg1_2_0 rfl dX2_atBox_94 ?_
  refine j_getr (pc := 97) jv1_1 jm_01 kf_RX2_70 0 kg1_1_6 rfl dX2_atBox_97 ?_
  refine j_iconst (pc := 100) dX2_atBox_100 ?_
  refine j_iald (pc := 101) jv1_18 jm_01 rfl (by decide) ka1_18 dX2_atBox_101 (fun c5 h6 => ?_)
  refine j_iload (pc := 102) dX2_atBox_102 (q := 0) rfl ?_
  refine j_imul (pc := 104) dX2_atBox_104 ?_
  refine j_iadd (pc := 105) dX2_atBox_105 ?_
  refine j_nm (pc := 106) (jm_w_in _) (fun v7 h8 => ?_)
  refine j_istore (pc := 106) [(8, jm_i v7), (9, jm_i v3), (0, jm_vr wd1 X 2 0), (1, jm_vr wd1 X 8 r1), (2, jm_vr wd1 X 9 r2), (5, jm_i l5), (6, jm_i l6), (7, jm_i l7)] dX2_atBox_106 (by decide) rfl ?_
  refine j_aload_n (pc := 108) dX2_atBox_108 rfl (q := 4) rfl ?_
  refine j_dup (pc := 109) dX2_atBox_109 rfl ?_
  refine j_geti (pc := 110) jv1_9 gr2 kf_RX2_131 kg1_9_8 dX2_atBox_110 (fun h9 => ?_)
  refine j_iload (pc := 113) dX2_atBox_113 (q := 1) rfl ?_
  refine j_iadd (pc := 115) dX2_atBox_115 ?_
  refine j_put (pc := 116) jv1_9 gr2 kf_RX2_131 wI1 kp_X6_8 kx1_9_8 (jm_w_in _) rfl rfl dX2_atBox_116 (fun M10 => ?_)
  refine j_aload_n (pc := 119) dX2_atBox_119 rfl (q := 4) rfl ?_
  refine j_dup (pc := 120) dX2_atBox_120 rfl ?_
  refine j_geti (pc := 121) jv1_9 gr2 kf_RX2_305 kg1_9_12 dX2_atBox_121 (fun h11 => ?_)
  refine j_iload (pc := 124) dX2_atBox_124 (q := 7) rfl ?_
  refine j_iload (pc := 126) dX2_atBox_126 (q := 6) rfl ?_
  refine j_isub (pc := 128) dX2_atBox_128 ?_
  refine j_iadd (pc := 129) dX2_atBox_129 ?_
  refine j_put (pc := 130) jv1_9 gr2 kf_RX2_305 wI1 kp_X6_12 kx1_9_12 (jm_w_in _) rfl rfl dX2_atBox_130 (fun M12 => ?_)
  refine j_aload_n (pc := 133) dX2_atBox_133 rfl (q := 4) rfl ?_
  refine j_dup (pc := 134) dX2_atBox_134 rfl ?_
  refine j_geti (pc := 135) jv1_9 gr2 kf_RX2_278 kg1_9_5 dX2_atBox_135 (fun h13 => ?_)
  refine j_iconst (pc := 138) dX2_atBox_138 ?_
  refine j_iadd (pc := 139) dX2_atBox_139 ?_
  refine j_put (pc := 140) jv1_9 gr2 kf_RX2_278 wI1 kp_X6_5 kx1_9_5 (jm_w_in _) rfl rfl dX2_atBox_140 (fun M14 => ?_)
  refine j_aload_n (pc := 143) dX2_atBox_143 rfl (q := 4) rfl ?_
  refine j_iload (pc := 144) dX2_atBox_144 (q := 7) rfl ?_
  refine j_iload (pc := 146) dX2_atBox_146 (q := 0) rfl ?_
  refine j_iadd (pc := 148) dX2_atBox_148 ?_
  refine j_put (pc := 149) jv1_9 gr2 kf_RX2_98 wI1 kp_X6_0 kx1_9_0 (jm_w_in _) rfl rfl dX2_atBox_149 (fun M15 => ?_)
  refine j_aload_n (pc := 152) dX2_atBox_152 rfl (q := 3) rfl ?_
  refine j_geti (pc := 153) jv1_8 gr1 kf_RX2_281 kg1_8_3 dX2_atBox_153 (fun h16 => ?_)
  refine j_iconst (pc := 156) dX2_atBox_156 ?_
  refine j_callNi2 (pc := 157) (ct_X11_isIndex M15 (M15 8 r1 3) 4 h16 (jm_inL (by decide) (by decide))) (host := "RaceByLaps") (by decide) km_X11_isIndex kg_562 rfl rfl ⟨(Nat.le_of_ble_eq_true rfl), (Nat.le_of_ble_eq_true rfl)⟩ rfl rfl (Nat.le_of_ble_eq_true rfl) dX2_atBox_157 (fun v17 M18 h19 => ?_)
  refine j_if_eq (tgt := 177) (pc := 160) h19 dX2_atBox_160 (by decide) (fun c20 => ?_) (fun c20 => ?_)
  · skip
    exact j_vret (pc := 177) dX2_atBox_177
  · skip
    refine j_aload_n (pc := 163) dX2_atBox_163 rfl (q := 2) rfl ?_
    refine j_getr (pc := 164) jv1_2 jm_01 kf_RX2_31 0 kg1_2_4 rfl dX2_atBox_164 ?_
    refine j_aload_n (pc := 167) dX2_atBox_167 rfl (q := 3) rfl ?_
    refine j_geti (pc := 168) jv1_8 gr1 kf_RX2_281 kg1_8_3 dX2_atBox_168 (fun h21 => ?_)
    refine j_iload (pc := 171) dX2_atBox_171 (q := 7) rfl ?_
    refine j_iload (pc := 173) dX2_atBox_173 (q := 0) rfl ?_
    refine j_iadd (pc := 175) dX2_atBox_175 ?_
    refine j_iast (pc := 176) jv1_34 jm_01 rfl (by decide) wI1 ka1_34 (jm_w_in _) dX2_atBox_176 (fun c22 M23 => ?_)
    exact j_vret (pc := 177) dX2_atBox_177
set_option maxHeartbeats 4000000 in
set_option maxRecDepth 100000 in
theorem ct_X2_atBox (fu : Nat) (M : jm_M) (r1 r2 l3 l4 l5 : Int) (gr1 : 0 ≤ r1 ∧ r1 < 6) (gr2 : 0 ≤ r2 ∧ r2 < 6) (hl3 : jm_in l3) (hl4 : jm_in l4) (hl5 : jm_in l5) : jm_Cv wd1 yX2_atBox cX2_atBox 10 none rmX2_atBox M (fun G ad => [.ref (ad (jm_r wd1 2 0)), .ref (ad (jm_r wd1 8 r1)), .ref (ad (jm_r wd1 9 r2)), jm_i l3, jm_i l4, jm_i l5]) (fX2_atBox fu M r1 r2 l3 l4 l5) := by
  refine jm_met_v (fun X => [(0, jm_vr wd1 X 2 0), (1, jm_vr wd1 X 8 r1), (2, jm_vr wd1 X 9 r2), (3, jm_i l3), (4, jm_i l4), (5, jm_i l5)]) (by decide) (fun _ _ => (Nat.le_of_ble_eq_true rfl)) (fun _ => rfl) (fun X => ?_)
  unfold fX2_atBox
  refine j_iload_n (pc := 0) dX2_atBox_0 rfl (q := 3) rfl ?_
  refine j_aload_n (pc := 1) dX2_atBox_1 rfl (q := 0) rfl ?_
  refine j_getr (pc := 2) jv1_2 jm_01 kf_RX2_9 0 kg1_2_0 rfl dX2_atBox_2 ?_
  refine j_getr (pc := 5) jv1_1 jm_01 kf_RX2_70 0 kg1_1_6 rfl dX2_atBox_5 ?_
  refine j_iconst (pc := 8) dX2_atBox_8 ?_
  refine j_iald (pc := 9) jv1_18 jm_01 rfl (by decide) ka1_18 dX2_atBox_9 (fun c1 h2 => ?_)
  refine j_iadd (pc := 10) dX2_atBox_10 ?_
  refine j_nm (pc := 11) (jm_w_in _) (fun v3 h4 => ?_)
  refine j_istore (pc := 11) [(6, jm_i v3), (0, jm_vr wd1 X 2 0), (1, jm_vr wd1 X 8 r1), (2, jm_vr wd1 X 9 r2), (3, jm_i l3), (4, jm_i l4), (5, jm_i l5)] dX2_atBox_11 (by decide) rfl ?_
  refine j_iload (pc := 13) dX2_atBox_13 (q := 0) rfl ?_
  refine j_aload_n (pc := 15) dX2_atBox_15 rfl (q := 1) rfl ?_
  refine j_aload_n (pc := 16) dX2_atBox_16 rfl (q := 2) rfl ?_
  refine j_geti (pc := 17) jv1_8 gr1 kf_RX2_281 kg1_8_3 dX2_atBox_17 (fun h5 => ?_)
  refine j_callVi1 (pc := 20) (ct_X2_freeFrom M (M 8 r1 3) h5) kg_983 km_X2_freeFrom kv_X2_freeFrom rfl rfl ⟨(Nat.le_of_ble_eq_true rfl), (Nat.le_of_ble_eq_true rfl)⟩ jv1_2 jm_01 ko1_2 rfl rfl (Nat.le_of_ble_eq_true rfl) dX2_atBox_20 (fun v6 M7 h8 => ?_)
  refine j_mmax (pc := 23) h4 h8 kg_925 kg_61 kg_5 kg_62 ⟨(Nat.le_of_ble_eq_true rfl), (Nat.le_of_ble_eq_true rfl)⟩ (Nat.le_of_ble_eq_true rfl) dX2_atBox_23 ?_
  refine j_nm (pc := 26) (jm_max_in h4 h8) (fun v9 h10 => ?_)
  refine j_istore (pc := 26) [(7, jm_i v9), (6, jm_i v3), (0, jm_vr wd1 X 2 0), (1, jm_vr wd1 X 8 r1), (2, jm_vr wd1 X 9 r2), (3, jm_i l3), (4, jm_i l4), (5, jm_i l5)] dX2_atBox_26 (by decide) rfl ?_
  refine j_iconst (pc := 28) dX2_atBox_28 ?_
  refine j_istore (pc := 29) [(8, jm_i 0), (7, jm_i v9), (6, jm_i v3), (0, jm_vr wd1 X 2 0), (1, jm_vr wd1 X 8 r1), (2, jm_vr wd1 X 9 r2), (3, jm_i l3), (4, jm_i l4), (5, jm_i l5)] dX2_atBox_29 (by decide) rfl ?_
  refine j_iload (pc := 31) dX2_atBox_31 (q := 7) rfl ?_
  refine j_aload_n (pc := 33) dX2_atBox_33 rfl (q := 4) rfl ?_
  refine j_getr (pc := 34) jv1_8 gr1 kf_RX2_115 r1 kg1_8_6 rfl dX2_atBox_34 ?_
  refine j_geti (pc := 37) jv1_10 (by omega) kf_RX2_49 kg1_10_3 dX2_atBox_37 (fun h11 => ?_)
  refine j_callNi2 (pc := 40) (ct_X11_isIndex M7 l4 (M7 10 r1 3) hl4 h11) (host := "RaceByLaps") (by decide) km_X11_isIndex kg_562 rfl rfl ⟨(Nat.le_of_ble_eq_true rfl), (Nat.le_of_ble_eq_true rfl)⟩ rfl rfl (Nat.le_of_ble_eq_true rfl) dX2_atBox_40 (fun v12 M13 h14 => ?_)
  refine j_if_eq (tgt := 75) (pc := 43) h14 dX2_atBox_43 (by decide) (fun c15 => ?_) (fun c15 => ?_)
  · skip
    refine j_sub (pc := 75) [(0, jm_vr wd1 X 2 0), (1, jm_vr wd1 X 8 r1), (2, jm_vr wd1 X 9 r2), (5, jm_i l5), (6, jm_i v3), (7, jm_i v9), (8, jm_i 0)] [3, 4, 5, 8, 2, 1, 0] rfl ?_
    exact bX2_atBox_75 X fu  M13 r1 r2 l5 v3 v9 0 gr1 gr2 hl5 h4 h10 (jm_inL (by decide) (by decide))
  · skip
    refine j_iload (pc := 46) dX2_atBox_46 (q := 7) rfl ?_
    refine j_aload_n (pc := 48) dX2_atBox_48 rfl (q := 5) rfl ?_
    refine j_geti (pc := 49) jv1_9 gr2 kf_RX2_118 kg1_9_9 dX2_atBox_49 (fun h16 => ?_)
    refine j_icmp_eq (tgt := 75) (pc := 52) hl4 h16 dX2_atBox_52 (by decide) (fun c17 => ?_) (fun c17 => ?_)
    · skip
      refine j_sub (pc := 75) [(0, jm_vr wd1 X 2 0), (1, jm_vr wd1 X 8 r1), (2, jm_vr wd1 X 9 r2), (5, jm_i l5), (6, jm_i v3), (7, jm_i v9), (8, jm_i 0)] [3, 4, 5, 8, 2, 1, 0] rfl ?_
      exact bX2_atBox_75 X fu  M13 r1 r2 l5 v3 v9 0 gr1 gr2 hl5 h4 h10 (jm_inL (by decide) (by decide))
    · skip
      refine j_iload (pc := 55) dX2_atBox_55 (q := 0) rfl ?_
      refine j_aload_n (pc := 57) dX2_atBox_57 rfl (q := 3) rfl ?_
      refine j_getr (pc := 58) jv1_2 jm_01 kf_RX2_9 0 kg1_2_0 rfl dX2_atBox_58 ?_
      refine j_getr (pc := 61) jv1_1 jm_01 kf_RX2_70 0 kg1_1_6 rfl dX2_atBox_61 ?_
      refine j_iconst (pc := 64) dX2_atBox_64 ?_
      refine j_iald (pc := 65) jv1_18 jm_01 rfl (by decide) ka1_18 dX2_atBox_65 (fun c18 h19 => ?_)
      refine j_iadd (pc := 66) dX2_atBox_66 ?_
      refine j_nm (pc := 67) (jm_w_in _) (fun v20 h21 => ?_)
      refine j_istore (pc := 67) [(8, jm_i v20), (7, jm_i v9), (6, jm_i v3), (0, jm_vr wd1 X 2 0), (1, jm_vr wd1 X 8 r1), (2, jm_vr wd1 X 9 r2), (3, jm_i l3), (4, jm_i l4), (5, jm_i l5)] dX2_atBox_67 (by decide) rfl ?_
      refine j_aload_n (pc := 69) dX2_atBox_69 rfl (q := 5) rfl ?_
      refine j_iload (pc := 70) dX2_atBox_70 (q := 7) rfl ?_
      refine j_put (pc := 72) jv1_9 gr2 kf_RX2_118 wI1 kp_X6_9 kx1_9_9 hl4 rfl rfl dX2_atBox_72 (fun M22 => ?_)
      refine j_sub (pc := 75) [(0, jm_vr wd1 X 2 0), (1, jm_vr wd1 X 8 r1), (2, jm_vr wd1 X 9 r2), (5, jm_i l5), (6, jm_i v3), (7, jm_i v9), (8, jm_i v20)] [3, 4, 5, 8, 2, 1, 0] rfl ?_
      exact bX2_atBox_75 X fu  M22 r1 r2 l5 v3 v9 v20 gr1 gr2 hl5 h4 h10 h21
abbrev rmX2_endLap : Room := { frames := 3, cells := 0, slots := 0, locals := 78 }
set_option maxHeartbeats 4000000 in
set_option maxRecDepth 100000 in
theorem bX2_endLap_76 (X : jm_X) (fu : Nat) : ∀ (M : jm_M) (r2 r3 l4 l5 l6 : Int) (gr2 : 0 ≤ r2 ∧ r2 < 6) (gr3 : 0 ≤ r3 ∧ r3 < 6) (hl4 : jm_in l4) (hl5 : jm_in l5) (hl6 : jm_in l6), jm_J wd1 jm_qv cX2_endLap 9 RX2 rmX2_endLap X M [(0, jm_vr wd1 X 2 0), (2, jm_vr wd1 X 8 r2), (3, jm_vr wd1 X 9 r3), (4, jm_i l4), (5, jm_i l5), (6, jm_i l6)] [] 76 (gX2_endLap_76 fu M r2 r3 l4 l5 l6) := by
  intro M r2 r3 l4 l5 l6 gr2 gr3 hl4 hl5 hl6
  unfold gX2_endLap_76
  refine j_aload_n (pc := 76) dX2_endLap_76 rfl (q := 1) rfl ?_
  refine j_iload (pc := 77) dX2_endLap_77 (q := 3) rfl ?_
  refine j_callVi1 (pc := 79) (ct_X1_stopBehind fu M r2 l4 gr2 hl4) kg_1006 km_X1_stopBehind kv_X1_stopBehind rfl rfl ⟨(Nat.le_of_ble_eq_true rfl), (Nat.le_of_ble_eq_true rfl)⟩ jv1_8 gr2 ko1_8 rfl rfl (Nat.le_of_ble_eq_true rfl) dX2_endLap_79 (fun v1 M2 h3 => ?_)
  refine j_istore (pc := 82) [(7, jm_i v1), (0, jm_vr wd1 X 2 0), (2, jm_vr wd1 X 8 r2), (3, jm_vr wd1 X 9 r3), (4, jm_i l4), (5, jm_i l5), (6, jm_i l6)] dX2_endLap_82 (by decide) rfl ?_
  refine j_iload (pc := 84) dX2_endLap_84 (q := 0) rfl ?_
  refine j_iconst (pc := 86) dX2_endLap_86 ?_
  refine j_icmp_eq (tgt := 123) (pc := 87) h3 (jm_inL (by decide) (by decide)) dX2_endLap_87 (by decide) (fun c4 => ?_) (fun c4 => ?_)
  · skip
    refine j_iload (pc := 123) dX2_endLap_123 (q := 6) rfl ?_
    refine j_iconst (pc := 125) dX2_endLap_125 ?_
    refine j_icmp_eq (tgt := 142) (pc := 126) hl6 (jm_inL (by decide) (by decide)) dX2_endLap_126 (by decide) (fun c5 => ?_) (fun c5 => ?_)
    · skip
      exact j_vret (pc := 142) dX2_endLap_142
    · skip
      refine j_aload_n (pc := 129) dX2_endLap_129 rfl (q := 1) rfl ?_
      refine j_aload_n (pc := 130) dX2_endLap_130 rfl (q := 2) rfl ?_
      refine j_aload_n (pc := 131) dX2_endLap_131 rfl (q := 3) rfl ?_
      refine j_iload (pc := 132) dX2_endLap_132 (q := 5) rfl ?_
      refine j_iload (pc := 134) dX2_endLap_134 (q := 6) rfl ?_
      refine j_sipush (pc := 136) 200 dX2_endLap_136 (by decide) ?_
      refine j_callVv5 (pc := 139) (ct_X2_atBox fu M2 r2 r3 l5 l6 200 gr2 gr3 hl5 hl6 (jm_inL (by decide) (by decide))) kg_1016 km_X2_atBox kv_X2_atBox rfl rfl ⟨(Nat.le_of_ble_eq_true rfl), (Nat.le_of_ble_eq_true rfl)⟩ jv1_2 jm_01 ko1_2 rfl rfl (Nat.le_of_ble_eq_true rfl) dX2_endLap_139 (fun v6 M7 => ?_)
      exact j_vret (pc := 142) dX2_endLap_142
  · skip
    refine j_aload_n (pc := 90) dX2_endLap_90 rfl (q := 2) rfl ?_
    refine j_callVr0 (pc := 91) (ct_X1_stopsInForce M2 r2 gr2) kg_1015 km_X1_stopsInForce kv_X1_stopsInForce rfl rfl ⟨(Nat.le_of_ble_eq_true rfl), (Nat.le_of_ble_eq_true rfl)⟩ jv1_8 gr2 ko1_8 rfl rfl (Nat.le_of_ble_eq_true rfl) dX2_endLap_91 (fun v8 M9 gr10 => ?_)
    refine j_astore (pc := 94) [(8, jm_vr wd1 X 10 v8), (7, jm_i v1), (0, jm_vr wd1 X 2 0), (2, jm_vr wd1 X 8 r2), (3, jm_vr wd1 X 9 r3), (4, jm_i l4), (5, jm_i l5), (6, jm_i l6)] dX2_endLap_94 (by decide) rfl ?_
    refine j_aload_n (pc := 96) dX2_endLap_96 rfl (q := 2) rfl ?_
    refine j_aload_n (pc := 97) dX2_endLap_97 rfl (q := 3) rfl ?_
    refine j_aload_n (pc := 98) dX2_endLap_98 rfl (q := 4) rfl ?_
    refine j_iload (pc := 99) dX2_endLap_99 (q := 6) rfl ?_
    refine j_aload (pc := 101) dX2_endLap_101 (q := 0) rfl ?_
    refine j_iload (pc := 103) dX2_endLap_103 (q := 1) rfl ?_
    refine j_iconst (pc := 105) dX2_endLap_105 ?_
    refine j_callVi2 (pc := 106) (ct_X7_cell M9 v8 v1 1 gr10 h3 (jm_inL (by decide) (by decide))) kg_894 km_X7_cell kv_X7_cell rfl rfl ⟨(Nat.le_of_ble_eq_true rfl), (Nat.le_of_ble_eq_true rfl)⟩ jv1_10 gr10 ko1_10 rfl rfl (Nat.le_of_ble_eq_true rfl) dX2_endLap_106 (fun v11 M12 h13 => ?_)
    refine j_aload (pc := 109) dX2_endLap_109 (q := 0) rfl ?_
    refine j_iload (pc := 111) dX2_endLap_111 (q := 1) rfl ?_
    refine j_iconst (pc := 113) dX2_endLap_113 ?_
    refine j_callVi2 (pc := 114) (ct_X7_cell M12 v8 v1 2 gr10 h3 (jm_inL (by decide) (by decide))) kg_894 km_X7_cell kv_X7_cell rfl rfl ⟨(Nat.le_of_ble_eq_true rfl), (Nat.le_of_ble_eq_true rfl)⟩ jv1_10 gr10 ko1_10 rfl rfl (Nat.le_of_ble_eq_true rfl) dX2_endLap_114 (fun v14 M15 h16 => ?_)
    refine j_callVv5 (pc := 117) (ct_X2_atBox fu M15 r2 r3 l5 v11 v14 gr2 gr3 hl5 h13 h16) kg_1016 km_X2_atBox kv_X2_atBox rfl rfl ⟨(Nat.le_of_ble_eq_true rfl), (Nat.le_of_ble_eq_true rfl)⟩ jv1_2 jm_01 ko1_2 rfl rfl (Nat.le_of_ble_eq_true rfl) dX2_endLap_117 (fun v17 M18 => ?_)
    refine j_goto (tgt := 142) (pc := 120) dX2_endLap_120 (by decide) ?_
    exact j_vret (pc := 142) dX2_endLap_142
set_option maxHeartbeats 4000000 in
set_option maxRecDepth 100000 in
theorem ct_X2_endLap (fu : Nat) (M : jm_M) (l1 r2 r3 l4 l5 : Int) (hl1 : jm_in l1) (gr2 : 0 ≤ r2 ∧ r2 < 6) (gr3 : 0 ≤ r3 ∧ r3 < 6) (hl4 : jm_in l4) (hl5 : jm_in l5) : jm_Cv wd1 yX2_endLap cX2_endLap 9 none rmX2_endLap M (fun G ad => [.ref (ad (jm_r wd1 2 0)), jm_i l1, .ref (ad (jm_r wd1 8 r2)), .ref (ad (jm_r wd1 9 r3)), jm_i l4, jm_i l5]) (fX2_endLap fu M l1 r2 r3 l4 l5) := by
  refine jm_met_v (fun X => [(0, jm_vr wd1 X 2 0), (1, jm_i l1), (2, jm_vr wd1 X 8 r2), (3, jm_vr wd1 X 9 r3), (4, jm_i l4), (5, jm_i l5)]) (by decide) (fun _ _ => (Nat.le_of_ble_eq_true rfl)) (fun _ => rfl) (fun X => ?_)
  unfold fX2_endLap
  refine j_iload (pc := 0) dX2_endLap_0 (q := 4) rfl ?_
  refine j_aload_n (pc := 2) dX2_endLap_2 rfl (q := 0) rfl ?_
  refine j_getr (pc := 3) jv1_2 jm_01 kf_RX2_9 0 kg1_2_0 rfl dX2_endLap_3 ?_
  refine j_geti (pc := 6) jv1_1 jm_01 kf_RX2_227 kg1_1_1 dX2_endLap_6 (fun h1 => ?_)
  refine j_iconst (pc := 9) dX2_endLap_9 ?_
  refine j_isub (pc := 10) dX2_endLap_10 ?_
  refine j_icmp_eq (tgt := 24) (pc := 11) hl4 (jm_w_in _) dX2_endLap_11 (by decide) (fun c2 => ?_) (fun c2 => ?_)
  · skip
    refine j_aload_n (pc := 24) dX2_endLap_24 rfl (q := 3) rfl ?_
    refine j_iconst (pc := 25) dX2_endLap_25 ?_
    refine j_iload (pc := 26) dX2_endLap_26 (q := 5) rfl ?_
    refine j_callVv2 (pc := 28) (ct_X6_rest M r3 1 l5 gr3 (jm_inL (by decide) (by decide)) hl5) kg_895 km_X6_rest kv_X6_rest rfl rfl ⟨(Nat.le_of_ble_eq_true rfl), (Nat.le_of_ble_eq_true rfl)⟩ jv1_9 gr3 ko1_9 rfl rfl (Nat.le_of_ble_eq_true rfl) dX2_endLap_28 (fun v3 M4 => ?_)
    exact j_vret (pc := 31) dX2_endLap_31
  · skip
    refine j_aload_n (pc := 14) dX2_endLap_14 rfl (q := 0) rfl ?_
    refine j_iload_n (pc := 15) dX2_endLap_15 rfl (q := 1) rfl ?_
    refine j_iload (pc := 16) dX2_endLap_16 (q := 5) rfl ?_
    refine j_callVi2 (pc := 18) (ct_X2_isRaceWon fu M l1 l5 hl1 hl5) kg_958 km_X2_isRaceWon kv_X2_isRaceWon rfl rfl ⟨(Nat.le_of_ble_eq_true rfl), (Nat.le_of_ble_eq_true rfl)⟩ jv1_2 jm_01 ko1_2 rfl rfl (Nat.le_of_ble_eq_true rfl) dX2_endLap_18 (fun v5 M6 h7 => ?_)
    refine j_if_eq (tgt := 32) (pc := 21) h7 dX2_endLap_21 (by decide) (fun c8 => ?_) (fun c8 => ?_)
    · skip
      refine j_iconst (pc := 32) dX2_endLap_32 ?_
      refine j_istore (pc := 33) [(6, jm_i (-1)), (0, jm_vr wd1 X 2 0), (1, jm_i l1), (2, jm_vr wd1 X 8 r2), (3, jm_vr wd1 X 9 r3), (4, jm_i l4), (5, jm_i l5)] dX2_endLap_33 (by decide) rfl ?_
      refine j_aload_n (pc := 35) dX2_endLap_35 rfl (q := 3) rfl ?_
      refine j_callVi0 (pc := 36) (ct_X1_isAsked M6 r2 gr2) kg_970 km_X1_isAsked kv_X1_isAsked rfl rfl ⟨(Nat.le_of_ble_eq_true rfl), (Nat.le_of_ble_eq_true rfl)⟩ jv1_8 gr2 ko1_8 rfl rfl (Nat.le_of_ble_eq_true rfl) dX2_endLap_36 (fun v9 M10 h11 => ?_)
      refine j_if_eq (tgt := 76) (pc := 39) h11 dX2_endLap_39 (by decide) (fun c12 => ?_) (fun c12 => ?_)
      · skip
        refine j_sub (pc := 76) [(0, jm_vr wd1 X 2 0), (2, jm_vr wd1 X 8 r2), (3, jm_vr wd1 X 9 r3), (4, jm_i l4), (5, jm_i l5), (6, jm_i (-1))] [1, 3, 4, 5, 6, 0] rfl ?_
        exact bX2_endLap_76 X fu  M10 r2 r3 l4 l5 (-1) gr2 gr3 hl4 hl5 (jm_inL (by decide) (by decide))
      · skip
        refine j_aload_n (pc := 42) dX2_endLap_42 rfl (q := 1) rfl ?_
        refine j_iload_n (pc := 43) dX2_endLap_43 rfl (q := 2) rfl ?_
        refine j_aload_n (pc := 44) dX2_endLap_44 rfl (q := 3) rfl ?_
        refine j_aload_n (pc := 45) dX2_endLap_45 rfl (q := 4) rfl ?_
        refine j_iload (pc := 46) dX2_endLap_46 (q := 5) rfl ?_
        refine j_iload (pc := 48) dX2_endLap_48 (q := 6) rfl ?_
        refine j_callVv5 (pc := 50) (ct_X2_setLetters fu M10 l1 r2 r3 l4 l5 hl1 gr2 gr3 hl4 hl5) kg_974 km_X2_setLetters kv_X2_setLetters rfl rfl ⟨(Nat.le_of_ble_eq_true rfl), (Nat.le_of_ble_eq_true rfl)⟩ jv1_2 jm_01 ko1_2 rfl rfl (Nat.le_of_ble_eq_true rfl) dX2_endLap_50 (fun v13 M14 => ?_)
        refine j_aload_n (pc := 53) dX2_endLap_53 rfl (q := 3) rfl ?_
        refine j_gett (pc := 54) jv1_8 gr2 kf_RX2_240 kg1_8_11 dX2_endLap_54 (fun c15 => ?_)
        refine j_aload_n (pc := 57) dX2_endLap_57 rfl (q := 1) rfl ?_
        refine j_getr (pc := 58) jv1_2 jm_01 kf_RX2_15 0 kg1_2_1 rfl dX2_endLap_58 ?_
        refine j_aload_n (pc := 61) dX2_endLap_61 rfl (q := 3) rfl ?_
        refine j_gett (pc := 62) jv1_8 gr2 kf_RX2_240 kg1_8_11 dX2_endLap_62 (fun c16 => ?_)
        refine j_callVi1 (pc := 65) (ct_X4_firstTrue fu M14 (M14 8 r2 11) (by omega)) kg_987 km_X4_firstTrue kv_X4_firstTrue rfl rfl ⟨(Nat.le_of_ble_eq_true rfl), (Nat.le_of_ble_eq_true rfl)⟩ jv1_7 jm_01 ko1_7 rfl rfl (Nat.le_of_ble_eq_true rfl) dX2_endLap_65 (fun v17 M18 h19 => ?_)
        refine j_aload_n (pc := 68) dX2_endLap_68 rfl (q := 4) rfl ?_
        refine j_iload (pc := 69) dX2_endLap_69 (q := 5) rfl ?_
        refine j_callSi4 (pc := 71) (ct_X2_follow fu M18 (M14 8 r2 11) v17 r3 l4 (by omega) h19 gr3 hl4) kg_1003 km_X2_follow kg_1004 rfl rfl ⟨(Nat.le_of_ble_eq_true rfl), (Nat.le_of_ble_eq_true rfl)⟩ rfl rfl (Nat.le_of_ble_eq_true rfl) dX2_endLap_71 (fun v20 M21 h22 => ?_)
        refine j_istore (pc := 74) [(6, jm_i v20), (0, jm_vr wd1 X 2 0), (1, jm_i l1), (2, jm_vr wd1 X 8 r2), (3, jm_vr wd1 X 9 r3), (4, jm_i l4), (5, jm_i l5)] dX2_endLap_74 (by decide) rfl ?_
        refine j_sub (pc := 76) [(0, jm_vr wd1 X 2 0), (2, jm_vr wd1 X 8 r2), (3, jm_vr wd1 X 9 r3), (4, jm_i l4), (5, jm_i l5), (6, jm_i v20)] [1, 3, 4, 5, 6, 0] rfl ?_
        exact bX2_endLap_76 X fu  M21 r2 r3 l4 l5 v20 gr2 gr3 hl4 hl5 h22
    · skip
      refine j_aload_n (pc := 24) dX2_endLap_24 rfl (q := 3) rfl ?_
      refine j_iconst (pc := 25) dX2_endLap_25 ?_
      refine j_iload (pc := 26) dX2_endLap_26 (q := 5) rfl ?_
      refine j_callVv2 (pc := 28) (ct_X6_rest M6 r3 1 l5 gr3 (jm_inL (by decide) (by decide)) hl5) kg_895 km_X6_rest kv_X6_rest rfl rfl ⟨(Nat.le_of_ble_eq_true rfl), (Nat.le_of_ble_eq_true rfl)⟩ jv1_9 gr3 ko1_9 rfl rfl (Nat.le_of_ble_eq_true rfl) dX2_endLap_28 (fun v23 M24 => ?_)
      exact j_vret (pc := 31) dX2_endLap_31
abbrev rmX2_goOn : Room := { frames := 4, cells := 0, slots := 0, locals := 106 }
set_option maxHeartbeats 4000000 in
set_option maxRecDepth 100000 in
theorem bX2_goOn_150 (X : jm_X) (fu : Nat) : ∀ (M : jm_M) (l1 r2 r3 l4 l5 l6 l9 : Int) (hl1 : jm_in l1) (gr2 : 0 ≤ r2 ∧ r2 < 6) (gr3 : 0 ≤ r3 ∧ r3 < 6) (hl4 : jm_in l4) (hl5 : jm_in l5) (hl6 : jm_in l6) (hl9 : jm_in l9), jm_J wd1 jm_qv cX2_goOn 11 RX2 rmX2_goOn X M [(0, jm_vr wd1 X 2 0), (1, jm_i l1), (2, jm_vr wd1 X 8 r2), (3, jm_vr wd1 X 9 r3), (4, jm_i l4), (5, jm_i l5), (6, jm_i l6), (9, jm_i l9)] [] 150 (gX2_goOn_150 fu M l1 r2 r3 l4 l5 l6 l9) := by
  intro M l1 r2 r3 l4 l5 l6 l9 hl1 gr2 gr3 hl4 hl5 hl6 hl9
  unfold gX2_goOn_150
  refine j_aload_n (pc := 150) dX2_goOn_150 rfl (q := 0) rfl ?_
  refine j_dup (pc := 151) dX2_goOn_151 rfl ?_
  refine j_geti (pc := 152) jv1_2 jm_01 kf_RX2_61 kg1_2_6 dX2_goOn_152 (fun h1 => ?_)
  refine j_iconst (pc := 155) dX2_goOn_155 ?_
  refine j_iadd (pc := 156) dX2_goOn_156 ?_
  refine j_put (pc := 157) jv1_2 jm_01 kf_RX2_61 wI1 kp_X2_6 kx1_2_6 (jm_w_in _) rfl rfl dX2_goOn_157 (fun M2 => ?_)
  refine j_aload_n (pc := 160) dX2_goOn_160 rfl (q := 0) rfl ?_
  refine j_iload_n (pc := 161) dX2_goOn_161 rfl (q := 1) rfl ?_
  refine j_iload (pc := 162) dX2_goOn_162 (q := 5) rfl ?_
  refine j_iload (pc := 164) dX2_goOn_164 (q := 6) rfl ?_
  refine j_iload (pc := 166) dX2_goOn_166 (q := 6) rfl ?_
  refine j_iload (pc := 168) dX2_goOn_168 (q := 7) rfl ?_
  refine j_iadd (pc := 170) dX2_goOn_170 ?_
  refine j_callVi4 (pc := 171) (ct_X2_heldEnd fu M2 l1 l5 l6 (jm_w (l6 + l9)) hl1 hl5 hl6 (jm_w_in _)) kg_930 km_X2_heldEnd kv_X2_heldEnd rfl rfl ⟨(Nat.le_of_ble_eq_true rfl), (Nat.le_of_ble_eq_true rfl)⟩ jv1_2 jm_01 ko1_2 rfl rfl (Nat.le_of_ble_eq_true rfl) dX2_goOn_171 (fun v3 M4 h5 => ?_)
  refine j_istore (pc := 174) [(10, jm_i v3), (0, jm_vr wd1 X 2 0), (1, jm_i l1), (2, jm_vr wd1 X 8 r2), (3, jm_vr wd1 X 9 r3), (4, jm_i l4), (5, jm_i l5), (6, jm_i l6), (9, jm_i l9)] dX2_goOn_174 (by decide) rfl ?_
  refine j_aload_n (pc := 176) dX2_goOn_176 rfl (q := 4) rfl ?_
  refine j_iload (pc := 177) dX2_goOn_177 (q := 5) rfl ?_
  refine j_iload (pc := 179) dX2_goOn_179 (q := 6) rfl ?_
  refine j_iload (pc := 181) dX2_goOn_181 (q := 0) rfl ?_
  refine j_aload_n (pc := 183) dX2_goOn_183 rfl (q := 1) rfl ?_
  refine j_geti (pc := 184) jv1_2 jm_01 kf_RX2_61 kg1_2_6 dX2_goOn_184 (fun h6 => ?_)
  refine j_callVv4 (pc := 187) (ct_X6_endLine M4 r3 l4 l5 v3 (M4 2 0 6) gr3 hl4 hl5 h5 h6) kg_946 km_X6_endLine kv_X6_endLine rfl rfl ⟨(Nat.le_of_ble_eq_true rfl), (Nat.le_of_ble_eq_true rfl)⟩ jv1_9 gr3 ko1_9 rfl rfl (Nat.le_of_ble_eq_true rfl) dX2_goOn_187 (fun v7 M8 => ?_)
  refine j_iload (pc := 190) dX2_goOn_190 (q := 6) rfl ?_
  refine j_aload_n (pc := 192) dX2_goOn_192 rfl (q := 1) rfl ?_
  refine j_getr (pc := 193) jv1_2 jm_01 kf_RX2_9 0 kg1_2_0 rfl dX2_goOn_193 ?_
  refine j_geti (pc := 196) jv1_1 jm_01 kf_RX2_159 kg1_1_0 dX2_goOn_196 (fun h9 => ?_)
  refine j_iconst (pc := 199) dX2_goOn_199 ?_
  refine j_isub (pc := 200) dX2_goOn_200 ?_
  refine j_icmp_ne (tgt := 222) (pc := 201) hl5 (jm_w_in _) dX2_goOn_201 (by decide) (fun c10 => ?_) (fun c10 => ?_)
  · skip
    refine j_aload_n (pc := 204) dX2_goOn_204 rfl (q := 1) rfl ?_
    refine j_iload_n (pc := 205) dX2_goOn_205 rfl (q := 2) rfl ?_
    refine j_aload_n (pc := 206) dX2_goOn_206 rfl (q := 3) rfl ?_
    refine j_aload_n (pc := 207) dX2_goOn_207 rfl (q := 4) rfl ?_
    refine j_aload_n (pc := 208) dX2_goOn_208 rfl (q := 1) rfl ?_
    refine j_getr (pc := 209) jv1_2 jm_01 kf_RX2_9 0 kg1_2_0 rfl dX2_goOn_209 ?_
    refine j_iload (pc := 212) dX2_goOn_212 (q := 5) rfl ?_
    refine j_callVi1 (pc := 214) (ct_X9_lapOf M8 l4 hl4) kg_950 km_X9_lapOf kv_X9_lapOf rfl rfl ⟨(Nat.le_of_ble_eq_true rfl), (Nat.le_of_ble_eq_true rfl)⟩ jv1_1 jm_01 ko1_1 rfl rfl (Nat.le_of_ble_eq_true rfl) dX2_goOn_214 (fun v11 M12 h13 => ?_)
    refine j_iload (pc := 217) dX2_goOn_217 (q := 0) rfl ?_
    refine j_callVv5 (pc := 219) (ct_X2_endLap fu M12 l1 r2 r3 v11 v3 hl1 gr2 gr3 h13 h5) kg_954 km_X2_endLap kv_X2_endLap rfl rfl ⟨(Nat.le_of_ble_eq_true rfl), (Nat.le_of_ble_eq_true rfl)⟩ jv1_2 jm_01 ko1_2 rfl rfl (Nat.le_of_ble_eq_true rfl) dX2_goOn_219 (fun v14 M15 => ?_)
    exact j_vret (pc := 222) dX2_goOn_222
  · skip
    exact j_vret (pc := 222) dX2_goOn_222
set_option maxHeartbeats 4000000 in
set_option maxRecDepth 100000 in
theorem ct_X2_goOn (fu : Nat) (M : jm_M) (l1 r2 r3 : Int) (hl1 : jm_in l1) (gr2 : 0 ≤ r2 ∧ r2 < 6) (gr3 : 0 ≤ r3 ∧ r3 < 6) : jm_Cv wd1 yX2_goOn cX2_goOn 11 none rmX2_goOn M (fun G ad => [.ref (ad (jm_r wd1 2 0)), jm_i l1, .ref (ad (jm_r wd1 8 r2)), .ref (ad (jm_r wd1 9 r3))]) (fX2_goOn fu M l1 r2 r3) := by
  refine jm_met_v (fun X => [(0, jm_vr wd1 X 2 0), (1, jm_i l1), (2, jm_vr wd1 X 8 r2), (3, jm_vr wd1 X 9 r3)]) (by decide) (fun _ _ => (Nat.le_of_ble_eq_true rfl)) (fun _ => rfl) (fun X => ?_)
  unfold fX2_goOn
  refine j_aload_n (pc := 0) dX2_goOn_0 rfl (q := 3) rfl ?_
  refine j_geti (pc := 1) jv1_9 gr3 kf_RX2_101 kg1_9_1 dX2_goOn_1 (fun h1 => ?_)
  refine j_nm (pc := 4) h1 (fun v2 h3 => ?_)
  refine j_istore (pc := 4) [(4, jm_i v2), (0, jm_vr wd1 X 2 0), (1, jm_i l1), (2, jm_vr wd1 X 8 r2), (3, jm_vr wd1 X 9 r3)] dX2_goOn_4 (by decide) rfl ?_
  refine j_aload_n (pc := 6) dX2_goOn_6 rfl (q := 1) rfl ?_
  refine j_getr (pc := 7) jv1_2 jm_01 kf_RX2_9 0 kg1_2_0 rfl dX2_goOn_7 ?_
  refine j_iload (pc := 10) dX2_goOn_10 (q := 0) rfl ?_
  refine j_callVi1 (pc := 12) (ct_X9_sectorOf M v2 h3) kg_886 km_X9_sectorOf kv_X9_sectorOf rfl rfl ⟨(Nat.le_of_ble_eq_true rfl), (Nat.le_of_ble_eq_true rfl)⟩ jv1_1 jm_01 ko1_1 rfl rfl (Nat.le_of_ble_eq_true rfl) dX2_goOn_12 (fun v4 M5 h6 => ?_)
  refine j_istore (pc := 15) [(5, jm_i v4), (4, jm_i v2), (0, jm_vr wd1 X 2 0), (1, jm_i l1), (2, jm_vr wd1 X 8 r2), (3, jm_vr wd1 X 9 r3)] dX2_goOn_15 (by decide) rfl ?_
  refine j_aload_n (pc := 17) dX2_goOn_17 rfl (q := 5) rfl ?_
  refine j_geti (pc := 18) jv1_9 gr3 kf_RX2_98 kg1_9_0 dX2_goOn_18 (fun h7 => ?_)
  refine j_nm (pc := 21) h7 (fun v8 h9 => ?_)
  refine j_istore (pc := 21) [(6, jm_i v8), (5, jm_i v4), (4, jm_i v2), (0, jm_vr wd1 X 2 0), (1, jm_i l1), (2, jm_vr wd1 X 8 r2), (3, jm_vr wd1 X 9 r3)] dX2_goOn_21 (by decide) rfl ?_
  refine j_aload_n (pc := 23) dX2_goOn_23 rfl (q := 3) rfl ?_
  refine j_aload_n (pc := 24) dX2_goOn_24 rfl (q := 5) rfl ?_
  refine j_aload_n (pc := 25) dX2_goOn_25 rfl (q := 6) rfl ?_
  refine j_iload (pc := 26) dX2_goOn_26 (q := 2) rfl ?_
  refine j_callVv3 (pc := 28) (ct_X2_hear fu M5 r2 r3 v2 gr2 gr3 h3) kg_890 km_X2_hear kv_X2_hear rfl rfl ⟨(Nat.le_of_ble_eq_true rfl), (Nat.le_of_ble_eq_true rfl)⟩ jv1_2 jm_01 ko1_2 rfl rfl (Nat.le_of_ble_eq_true rfl) dX2_goOn_28 (fun v10 M11 => ?_)
  refine j_aload_n (pc := 31) dX2_goOn_31 rfl (q := 6) rfl ?_
  refine j_dup (pc := 32) dX2_goOn_32 rfl ?_
  refine j_geti (pc := 33) jv1_9 gr3 kf_RX2_101 kg1_9_1 dX2_goOn_33 (fun h12 => ?_)
  refine j_iconst (pc := 36) dX2_goOn_36 ?_
  refine j_iadd (pc := 37) dX2_goOn_37 ?_
  refine j_put (pc := 38) jv1_9 gr3 kf_RX2_101 wI1 kp_X6_1 kx1_9_1 (jm_w_in _) rfl rfl dX2_goOn_38 (fun M13 => ?_)
  refine j_aload_n (pc := 41) dX2_goOn_41 rfl (q := 6) rfl ?_
  refine j_dup (pc := 42) dX2_goOn_42 rfl ?_
  refine j_geti (pc := 43) jv1_9 gr3 kf_RX2_112 kg1_9_6 dX2_goOn_43 (fun h14 => ?_)
  refine j_iconst (pc := 46) dX2_goOn_46 ?_
  refine j_aload_n (pc := 47) dX2_goOn_47 rfl (q := 5) rfl ?_
  refine j_getr (pc := 48) jv1_8 gr2 kf_RX2_115 r2 kg1_8_6 rfl dX2_goOn_48 ?_
  refine j_aload_n (pc := 51) dX2_goOn_51 rfl (q := 6) rfl ?_
  refine j_geti (pc := 52) jv1_9 gr3 kf_RX2_118 kg1_9_9 dX2_goOn_52 (fun h15 => ?_)
  refine j_iconst (pc := 55) dX2_goOn_55 ?_
  refine j_callVi2 (pc := 56) (ct_X7_cell M13 r2 (M13 9 r3 9) 0 (by omega) h15 (jm_inL (by decide) (by decide))) kg_894 km_X7_cell kv_X7_cell rfl rfl ⟨(Nat.le_of_ble_eq_true rfl), (Nat.le_of_ble_eq_true rfl)⟩ jv1_10 (by omega) ko1_10 rfl rfl (Nat.le_of_ble_eq_true rfl) dX2_goOn_56 (fun v16 M17 h18 => ?_)
  refine j_ishl (pc := 59) dX2_goOn_59 ?_
  refine j_ior (pc := 60) dX2_goOn_60 ?_
  refine j_put (pc := 61) jv1_9 gr3 kf_RX2_112 wI1 kp_X6_6 kx1_9_6 (jm_or_in _ _) rfl rfl dX2_goOn_61 (fun M19 => ?_)
  refine j_aload_n (pc := 64) dX2_goOn_64 rfl (q := 5) rfl ?_
  refine j_geti (pc := 65) jv1_8 gr2 kf_RX2_125 kg1_8_2 dX2_goOn_65 (fun h20 => ?_)
  refine j_aload_n (pc := 68) dX2_goOn_68 rfl (q := 6) rfl ?_
  refine j_geti (pc := 69) jv1_9 gr3 kf_RX2_128 kg1_9_13 dX2_goOn_69 (fun h21 => ?_)
  refine j_isub (pc := 72) dX2_goOn_72 ?_
  refine j_nm (pc := 73) (jm_w_in _) (fun v22 h23 => ?_)
  refine j_istore (pc := 73) [(7, jm_i v22), (6, jm_i v8), (5, jm_i v4), (4, jm_i v2), (0, jm_vr wd1 X 2 0), (1, jm_i l1), (2, jm_vr wd1 X 8 r2), (3, jm_vr wd1 X 9 r3)] dX2_goOn_73 (by decide) rfl ?_
  refine j_aload_n (pc := 75) dX2_goOn_75 rfl (q := 7) rfl ?_
  refine j_geti (pc := 76) jv1_9 gr3 kf_RX2_131 kg1_9_8 dX2_goOn_76 (fun h24 => ?_)
  refine j_iload (pc := 79) dX2_goOn_79 (q := 0) rfl ?_
  refine j_icmp_ge (tgt := 92) (pc := 81) h24 h23 dX2_goOn_81 (by decide) (fun c25 => ?_) (fun c25 => ?_)
  · skip
    refine j_aload_n (pc := 92) dX2_goOn_92 rfl (q := 7) rfl ?_
    refine j_dup (pc := 93) dX2_goOn_93 rfl ?_
    refine j_geti (pc := 94) jv1_9 gr3 kf_RX2_131 kg1_9_8 dX2_goOn_94 (fun h26 => ?_)
    refine j_iload (pc := 97) dX2_goOn_97 (q := 0) rfl ?_
    refine j_isub (pc := 99) dX2_goOn_99 ?_
    refine j_put (pc := 100) jv1_9 gr3 kf_RX2_131 wI1 kp_X6_8 kx1_9_8 (jm_w_in _) rfl rfl dX2_goOn_100 (fun M27 => ?_)
    refine j_aload_n (pc := 103) dX2_goOn_103 rfl (q := 4) rfl ?_
    refine j_getr (pc := 104) jv1_2 jm_01 kf_RX2_9 0 kg1_2_0 rfl dX2_goOn_104 ?_
    refine j_iload (pc := 107) dX2_goOn_107 (q := 1) rfl ?_
    refine j_callVi1 (pc := 109) (ct_X9_slowAt fu M27 v8 h9) kg_899 km_X9_slowAt kv_X9_slowAt rfl rfl ⟨(Nat.le_of_ble_eq_true rfl), (Nat.le_of_ble_eq_true rfl)⟩ jv1_1 jm_01 ko1_1 rfl rfl (Nat.le_of_ble_eq_true rfl) dX2_goOn_109 (fun v28 M29 h30 => ?_)
    refine j_istore (pc := 112) [(8, jm_i v28), (7, jm_i v22), (6, jm_i v8), (5, jm_i v4), (4, jm_i v2), (0, jm_vr wd1 X 2 0), (1, jm_i l1), (2, jm_vr wd1 X 8 r2), (3, jm_vr wd1 X 9 r3)] dX2_goOn_112 (by decide) rfl ?_
    refine j_iload (pc := 114) dX2_goOn_114 (q := 0) rfl ?_
    refine j_if_eq (tgt := 129) (pc := 116) h30 dX2_goOn_116 (by decide) (fun c31 => ?_) (fun c31 => ?_)
    · skip
      refine j_aload_n (pc := 129) dX2_goOn_129 rfl (q := 5) rfl ?_
      refine j_aload_n (pc := 130) dX2_goOn_130 rfl (q := 7) rfl ?_
      refine j_aload_n (pc := 131) dX2_goOn_131 rfl (q := 8) rfl ?_
      refine j_iload (pc := 132) dX2_goOn_132 (q := 3) rfl ?_
      refine j_iload (pc := 134) dX2_goOn_134 (q := 2) rfl ?_
      refine j_callVi4 (pc := 136) (ct_X2_freeTime fu M29 r2 r3 v4 v8 gr2 gr3 h6 h9) kg_908 km_X2_freeTime kv_X2_freeTime rfl rfl ⟨(Nat.le_of_ble_eq_true rfl), (Nat.le_of_ble_eq_true rfl)⟩ jv1_2 jm_01 ko1_2 rfl rfl (Nat.le_of_ble_eq_true rfl) dX2_goOn_136 (fun v32 M33 h34 => ?_)
      refine j_istore (pc := 139) [(9, jm_i v32), (8, jm_i v28), (7, jm_i v22), (6, jm_i v8), (5, jm_i v4), (4, jm_i v2), (0, jm_vr wd1 X 2 0), (1, jm_i l1), (2, jm_vr wd1 X 8 r2), (3, jm_vr wd1 X 9 r3)] dX2_goOn_139 (by decide) rfl ?_
      refine j_iload (pc := 141) dX2_goOn_141 (q := 1) rfl ?_
      refine j_if_ne (tgt := 150) (pc := 143) h30 dX2_goOn_143 (by decide) (fun c35 => ?_) (fun c35 => ?_)
      · skip
        refine j_aload_n (pc := 146) dX2_goOn_146 rfl (q := 9) rfl ?_
        refine j_callVv0 (pc := 147) (ct_X6_wear M33 r3 gr3) kg_926 km_X6_wear kv_X6_wear rfl rfl ⟨(Nat.le_of_ble_eq_true rfl), (Nat.le_of_ble_eq_true rfl)⟩ jv1_9 gr3 ko1_9 rfl rfl (Nat.le_of_ble_eq_true rfl) dX2_goOn_147 (fun v36 M37 => ?_)
        refine j_sub (pc := 150) [(0, jm_vr wd1 X 2 0), (1, jm_i l1), (2, jm_vr wd1 X 8 r2), (3, jm_vr wd1 X 9 r3), (4, jm_i v2), (5, jm_i v4), (6, jm_i v8), (9, jm_i v32)] [6, 7, 8, 9, 5, 4, 3, 0] rfl ?_
        exact bX2_goOn_150 X fu  M37 l1 r2 r3 v2 v4 v8 v32 hl1 gr2 gr3 h3 h6 h9 h34
      · skip
        refine j_sub (pc := 150) [(0, jm_vr wd1 X 2 0), (1, jm_i l1), (2, jm_vr wd1 X 8 r2), (3, jm_vr wd1 X 9 r3), (4, jm_i v2), (5, jm_i v4), (6, jm_i v8), (9, jm_i v32)] [6, 7, 8, 9, 5, 4, 3, 0] rfl ?_
        exact bX2_goOn_150 X fu  M33 l1 r2 r3 v2 v4 v8 v32 hl1 gr2 gr3 h3 h6 h9 h34
    · skip
      refine j_aload_n (pc := 119) dX2_goOn_119 rfl (q := 5) rfl ?_
      refine j_iload_n (pc := 120) dX2_goOn_120 rfl (q := 6) rfl ?_
      refine j_iload (pc := 121) dX2_goOn_121 (q := 3) rfl ?_
      refine j_callVi2 (pc := 123) (ct_X2_slowTime fu M29 l1 v4 hl1 h6) kg_904 km_X2_slowTime kv_X2_slowTime rfl rfl ⟨(Nat.le_of_ble_eq_true rfl), (Nat.le_of_ble_eq_true rfl)⟩ jv1_2 jm_01 ko1_2 rfl rfl (Nat.le_of_ble_eq_true rfl) dX2_goOn_123 (fun v38 M39 h40 => ?_)
      refine j_goto (tgt := 139) (pc := 126) dX2_goOn_126 (by decide) ?_
      refine j_istore (pc := 139) [(9, jm_i v38), (8, jm_i v28), (7, jm_i v22), (6, jm_i v8), (5, jm_i v4), (4, jm_i v2), (0, jm_vr wd1 X 2 0), (1, jm_i l1), (2, jm_vr wd1 X 8 r2), (3, jm_vr wd1 X 9 r3)] dX2_goOn_139 (by decide) rfl ?_
      refine j_iload (pc := 141) dX2_goOn_141 (q := 1) rfl ?_
      refine j_if_ne (tgt := 150) (pc := 143) h30 dX2_goOn_143 (by decide) (fun c41 => ?_) (fun c41 => ?_)
      · skip
        refine j_aload_n (pc := 146) dX2_goOn_146 rfl (q := 9) rfl ?_
        refine j_callVv0 (pc := 147) (ct_X6_wear M39 r3 gr3) kg_926 km_X6_wear kv_X6_wear rfl rfl ⟨(Nat.le_of_ble_eq_true rfl), (Nat.le_of_ble_eq_true rfl)⟩ jv1_9 gr3 ko1_9 rfl rfl (Nat.le_of_ble_eq_true rfl) dX2_goOn_147 (fun v42 M43 => ?_)
        refine j_sub (pc := 150) [(0, jm_vr wd1 X 2 0), (1, jm_i l1), (2, jm_vr wd1 X 8 r2), (3, jm_vr wd1 X 9 r3), (4, jm_i v2), (5, jm_i v4), (6, jm_i v8), (9, jm_i v38)] [6, 7, 8, 9, 5, 4, 3, 0] rfl ?_
        exact bX2_goOn_150 X fu  M43 l1 r2 r3 v2 v4 v8 v38 hl1 gr2 gr3 h3 h6 h9 h40
      · skip
        refine j_sub (pc := 150) [(0, jm_vr wd1 X 2 0), (1, jm_i l1), (2, jm_vr wd1 X 8 r2), (3, jm_vr wd1 X 9 r3), (4, jm_i v2), (5, jm_i v4), (6, jm_i v8), (9, jm_i v38)] [6, 7, 8, 9, 5, 4, 3, 0] rfl ?_
        exact bX2_goOn_150 X fu  M39 l1 r2 r3 v2 v4 v8 v38 hl1 gr2 gr3 h3 h6 h9 h40
  · skip
    refine j_aload_n (pc := 84) dX2_goOn_84 rfl (q := 7) rfl ?_
    refine j_iconst (pc := 85) dX2_goOn_85 ?_
    refine j_iload (pc := 86) dX2_goOn_86 (q := 1) rfl ?_
    refine j_callVv2 (pc := 88) (ct_X6_rest M19 r3 2 v8 gr3 (jm_inL (by decide) (by decide)) h9) kg_895 km_X6_rest kv_X6_rest rfl rfl ⟨(Nat.le_of_ble_eq_true rfl), (Nat.le_of_ble_eq_true rfl)⟩ jv1_9 gr3 ko1_9 rfl rfl (Nat.le_of_ble_eq_true rfl) dX2_goOn_88 (fun v44 M45 => ?_)
    exact j_vret (pc := 91) dX2_goOn_91
abbrev rmX2_run : Room := { frames := 5, cells := 0, slots := 0, locals := 136 }
set_option maxHeartbeats 4000000 in
set_option maxRecDepth 100000 in
theorem b0X2_run_69 (X : jm_X) (fu : Nat) (k69 : jm_M → Int → jm_R) (hk69 : ∀ (M : jm_M) (l1 : Int) (hl1 : jm_in l1), jm_J wd1 jm_qv cX2_run 3 RX2 rmX2_run X M [(0, jm_vr wd1 X 2 0), (1, jm_i l1)] [] 69 (k69 M l1)) : ∀ (M : jm_M) (l1 : Int) (hl1 : jm_in l1), jm_J wd1 jm_qv cX2_run 3 RX2 rmX2_run X M [(0, jm_vr wd1 X 2 0), (1, jm_i l1)] [] 69 (gX2_run_69 fu k69 M l1) := by
  intro M l1 hl1
  unfold gX2_run_69
  refine j_iload_n (pc := 69) dX2_run_69 rfl (q := 1) rfl ?_
  refine j_sipush (pc := 70) 361 dX2_run_70 (by decide) ?_
  refine j_icmp_ge (tgt := 113) (pc := 73) hl1 (jm_inL (by decide) (by decide)) dX2_run_73 (by decide) (fun c1 => ?_) (fun c1 => ?_)
  · skip
    exact j_vret (pc := 113) dX2_run_113
  · skip
    refine j_aload_n (pc := 76) dX2_run_76 rfl (q := 0) rfl ?_
    refine j_callVi0 (pc := 77) (ct_X2_nextToGo fu M ) kg_874 km_X2_nextToGo kv_X2_nextToGo rfl rfl ⟨(Nat.le_of_ble_eq_true rfl), (Nat.le_of_ble_eq_true rfl)⟩ jv1_2 jm_01 ko1_2 rfl rfl (Nat.le_of_ble_eq_true rfl) dX2_run_77 (fun v2 M3 h4 => ?_)
    refine j_istore_n (pc := 80) [(2, jm_i v2), (0, jm_vr wd1 X 2 0), (1, jm_i l1)] dX2_run_80 rfl (by decide) rfl ?_
    refine j_aload_n (pc := 81) dX2_run_81 rfl (q := 1) rfl ?_
    refine j_iload_n (pc := 82) dX2_run_82 rfl (q := 0) rfl ?_
    refine j_callVi1 (pc := 83) (ct_X2_has M3 v2 h4) kg_881 km_X2_has kv_X2_has rfl rfl ⟨(Nat.le_of_ble_eq_true rfl), (Nat.le_of_ble_eq_true rfl)⟩ jv1_2 jm_01 ko1_2 rfl rfl (Nat.le_of_ble_eq_true rfl) dX2_run_83 (fun v5 M6 h7 => ?_)
    refine j_if_ne (tgt := 90) (pc := 86) h7 dX2_run_86 (by decide) (fun c8 => ?_) (fun c8 => ?_)
    · skip
      exact j_vret (pc := 89) dX2_run_89
    · skip
      refine j_aload_n (pc := 90) dX2_run_90 rfl (q := 1) rfl ?_
      refine j_iload_n (pc := 91) dX2_run_91 rfl (q := 0) rfl ?_
      refine j_aload_n (pc := 92) dX2_run_92 rfl (q := 1) rfl ?_
      refine j_getr (pc := 93) jv1_2 jm_01 kf_RX2_21 0 kg1_2_2 rfl dX2_run_93 ?_
      refine j_iload_n (pc := 96) dX2_run_96 rfl (q := 0) rfl ?_
      refine j_aald (pc := 97) jv1_46 jm_01 (by decide) kr1_46 dX2_run_97 (fun c9 => ?_)
      refine j_aload_n (pc := 98) dX2_run_98 rfl (q := 1) rfl ?_
      refine j_getr (pc := 99) jv1_2 jm_01 kf_RX2_27 0 kg1_2_3 rfl dX2_run_99 ?_
      refine j_iload_n (pc := 102) dX2_run_102 rfl (q := 0) rfl ?_
      refine j_aald (pc := 103) jv1_47 jm_01 (by decide) kr1_47 dX2_run_103 (fun c10 => ?_)
      refine j_callVv3 (pc := 104) (ct_X2_goOn fu M6 v2 v2 v2 h4 (by omega) (by omega)) kg_882 km_X2_goOn kv_X2_goOn rfl rfl ⟨(Nat.le_of_ble_eq_true rfl), (Nat.le_of_ble_eq_true rfl)⟩ jv1_2 jm_01 ko1_2 rfl rfl (Nat.le_of_ble_eq_true rfl) dX2_run_104 (fun v11 M12 => ?_)
      refine j_iinc (pc := 107) [(2, jm_i v2), (0, jm_vr wd1 X 2 0)] (q := 2) dX2_run_107 rfl (by decide) (fun _ => rfl) (fun v13 h14 => ?_)
      refine j_goto (tgt := 69) (pc := 110) dX2_run_110 (by decide) ?_
      refine j_sub (pc := 69) [(0, jm_vr wd1 X 2 0), (1, jm_i v13)] [2, 0] rfl ?_
      exact hk69 M12 v13 h14
theorem bX2_run_69 (X : jm_X) (fu : Nat) : ∀ (n : Nat) (M : jm_M) (l1 : Int) (hl1 : jm_in l1), jm_J wd1 jm_qv cX2_run 3 RX2 rmX2_run X M [(0, jm_vr wd1 X 2 0), (1, jm_i l1)] [] 69 (fX2_run_69 fu n M l1) := by
  intro n
  induction n with
  | zero => intro M l1 hl1; exact j_none
  | succ n ih => intro M l1 hl1; exact b0X2_run_69 X fu (fX2_run_69 fu n) ih M l1 hl1
set_option maxHeartbeats 4000000 in
set_option maxRecDepth 100000 in
theorem b0X2_run_20 (X : jm_X) (fu : Nat) (k20 : jm_M → Int → jm_R) (hk20 : ∀ (M : jm_M) (l1 : Int) (hl1 : jm_in l1), jm_J wd1 jm_qv cX2_run 3 RX2 rmX2_run X M [(0, jm_vr wd1 X 2 0), (1, jm_i l1)] [] 20 (k20 M l1)) : ∀ (M : jm_M) (l1 : Int) (hl1 : jm_in l1), jm_J wd1 jm_qv cX2_run 3 RX2 rmX2_run X M [(0, jm_vr wd1 X 2 0), (1, jm_i l1)] [] 20 (gX2_run_20 fu k20 M l1) := by
  intro M l1 hl1
  unfold gX2_run_20
  refine j_iload_n (pc := 20) dX2_run_20 rfl (q := 1) rfl ?_
  refine j_aload_n (pc := 21) dX2_run_21 rfl (q := 0) rfl ?_
  refine j_geti (pc := 22) jv1_2 jm_01 kf_RX2_37 kg1_2_5 dX2_run_22 (fun h1 => ?_)
  refine j_icmp_ge (tgt := 67) (pc := 25) hl1 h1 dX2_run_25 (by decide) (fun c2 => ?_) (fun c2 => ?_)
  · skip
    refine j_iconst (pc := 67) dX2_run_67 ?_
    refine j_istore_n (pc := 68) [(1, jm_i 0), (0, jm_vr wd1 X 2 0)] dX2_run_68 rfl (by decide) rfl ?_
    refine j_sub (pc := 69) [(0, jm_vr wd1 X 2 0), (1, jm_i 0)] [1, 0] rfl ?_
    exact bX2_run_69 X fu  fu M 0 (jm_inL (by decide) (by decide))
  · skip
    refine j_iload_n (pc := 28) dX2_run_28 rfl (q := 1) rfl ?_
    refine j_bipush (pc := 29) 6 dX2_run_29 (by decide) ?_
    refine j_icmp_ge (tgt := 67) (pc := 31) hl1 (jm_inL (by decide) (by decide)) dX2_run_31 (by decide) (fun c3 => ?_) (fun c3 => ?_)
    · skip
      refine j_iconst (pc := 67) dX2_run_67 ?_
      refine j_istore_n (pc := 68) [(1, jm_i 0), (0, jm_vr wd1 X 2 0)] dX2_run_68 rfl (by decide) rfl ?_
      refine j_sub (pc := 69) [(0, jm_vr wd1 X 2 0), (1, jm_i 0)] [1, 0] rfl ?_
      exact bX2_run_69 X fu  fu M 0 (jm_inL (by decide) (by decide))
    · skip
      refine j_aload_n (pc := 34) dX2_run_34 rfl (q := 0) rfl ?_
      refine j_getr (pc := 35) jv1_2 jm_01 kf_RX2_27 0 kg1_2_3 rfl dX2_run_35 ?_
      refine j_iload_n (pc := 38) dX2_run_38 rfl (q := 1) rfl ?_
      refine j_aald (pc := 39) jv1_47 jm_01 (by decide) kr1_47 dX2_run_39 (fun c4 => ?_)
      refine j_aload_n (pc := 40) dX2_run_40 rfl (q := 0) rfl ?_
      refine j_getr (pc := 41) jv1_2 jm_01 kf_RX2_21 0 kg1_2_2 rfl dX2_run_41 ?_
      refine j_iload_n (pc := 44) dX2_run_44 rfl (q := 1) rfl ?_
      refine j_aald (pc := 45) jv1_46 jm_01 (by decide) kr1_46 dX2_run_45 (fun c5 => ?_)
      refine j_aload_n (pc := 46) dX2_run_46 rfl (q := 0) rfl ?_
      refine j_getr (pc := 47) jv1_2 jm_01 kf_RX2_9 0 kg1_2_0 rfl dX2_run_47 ?_
      refine j_getr (pc := 50) jv1_1 jm_01 kf_RX2_70 0 kg1_1_6 rfl dX2_run_50 ?_
      refine j_bipush (pc := 53) 6 dX2_run_53 (by decide) ?_
      refine j_iald (pc := 55) jv1_18 jm_01 rfl (by decide) ka1_18 dX2_run_55 (fun c6 h7 => ?_)
      refine j_iload_n (pc := 56) dX2_run_56 rfl (q := 1) rfl ?_
      refine j_imul (pc := 57) dX2_run_57 ?_
      refine j_callVv2 (pc := 58) (ct_X6_start fu M l1 l1 (jm_w ((M 18 0 6) * l1)) (by omega) (by omega) (jm_w_in _)) kg_868 km_X6_start kv_X6_start rfl rfl ⟨(Nat.le_of_ble_eq_true rfl), (Nat.le_of_ble_eq_true rfl)⟩ jv1_9 (by omega) ko1_9 rfl rfl (Nat.le_of_ble_eq_true rfl) dX2_run_58 (fun v8 M9 => ?_)
      refine j_iinc (pc := 61) [(0, jm_vr wd1 X 2 0)] (q := 1) dX2_run_61 rfl (by decide) (fun _ => rfl) (fun v10 h11 => ?_)
      refine j_goto (tgt := 20) (pc := 64) dX2_run_64 (by decide) ?_
      refine j_sub (pc := 20) [(0, jm_vr wd1 X 2 0), (1, jm_i v10)] [1, 0] rfl ?_
      exact hk20 M9 v10 h11
theorem bX2_run_20 (X : jm_X) (fu : Nat) : ∀ (n : Nat) (M : jm_M) (l1 : Int) (hl1 : jm_in l1), jm_J wd1 jm_qv cX2_run 3 RX2 rmX2_run X M [(0, jm_vr wd1 X 2 0), (1, jm_i l1)] [] 20 (fX2_run_20 fu n M l1) := by
  intro n
  induction n with
  | zero => intro M l1 hl1; exact j_none
  | succ n ih => intro M l1 hl1; exact b0X2_run_20 X fu (fX2_run_20 fu n) ih M l1 hl1
set_option maxHeartbeats 4000000 in
set_option maxRecDepth 100000 in
theorem ct_X2_run (fu : Nat) (M : jm_M) : jm_Cv wd1 yX2_run cX2_run 3 none rmX2_run M (fun G ad => [.ref (ad (jm_r wd1 2 0))]) (fX2_run fu M ) := by
  refine jm_met_v (fun X => [(0, jm_vr wd1 X 2 0)]) (by decide) (fun _ _ => (Nat.le_of_ble_eq_true rfl)) (fun _ => rfl) (fun X => ?_)
  unfold fX2_run
  refine j_aload_n (pc := 0) dX2_run_0 rfl (q := 0) rfl ?_
  refine j_iconst (pc := 1) dX2_run_1 ?_
  refine j_put (pc := 2) jv1_2 jm_01 kf_RX2_54 wI1 kp_X2_7 kx1_2_7 (jm_inL (by decide) (by decide)) rfl rfl dX2_run_2 (fun M1 => ?_)
  refine j_aload_n (pc := 5) dX2_run_5 rfl (q := 0) rfl ?_
  refine j_iconst (pc := 6) dX2_run_6 ?_
  refine j_put (pc := 7) jv1_2 jm_01 kf_RX2_61 wI1 kp_X2_6 kx1_2_6 (jm_inL (by decide) (by decide)) rfl rfl dX2_run_7 (fun M2 => ?_)
  refine j_aload_n (pc := 10) dX2_run_10 rfl (q := 0) rfl ?_
  refine j_getr (pc := 11) jv1_2 jm_01 kf_RX2_31 0 kg1_2_4 rfl dX2_run_11 ?_
  refine j_iconst (pc := 14) dX2_run_14 ?_
  refine j_callSv2 (pc := 15) (ct_J7_fill_53178_a34_w1 fu M2 0 (jm_inL (by decide) (by decide))) kg_865 km_J7_fill_53178 kg_866 rfl rfl ⟨(Nat.le_of_ble_eq_true rfl), (Nat.le_of_ble_eq_true rfl)⟩ rfl rfl (Nat.le_of_ble_eq_true rfl) dX2_run_15 (fun v3 M4 => ?_)
  refine j_iconst (pc := 18) dX2_run_18 ?_
  refine j_istore_n (pc := 19) [(1, jm_i 0), (0, jm_vr wd1 X 2 0)] dX2_run_19 rfl (by decide) rfl ?_
  refine j_sub (pc := 20) [(0, jm_vr wd1 X 2 0), (1, jm_i 0)] [1, 0] rfl ?_
  exact bX2_run_20 X fu  fu M4 0 (jm_inL (by decide) (by decide))
abbrev rmX2_reckon : Room := { frames := 6, cells := 0, slots := 0, locals := 158 }
set_option maxHeartbeats 4000000 in
set_option maxRecDepth 100000 in
theorem ct_X2_reckon (fu : Nat) (M : jm_M) : jm_Cv wd1 yX2_reckon cX2_reckon 1 none rmX2_reckon M (fun G ad => [.ref (ad (jm_r wd1 2 0))]) (fX2_reckon fu M ) := by
  refine jm_met_v (fun X => [(0, jm_vr wd1 X 2 0)]) (by decide) (fun _ _ => (Nat.le_of_ble_eq_true rfl)) (fun _ => rfl) (fun X => ?_)
  unfold fX2_reckon
  refine j_aload_n (pc := 0) dX2_reckon_0 rfl (q := 0) rfl ?_
  refine j_geti (pc := 1) jv1_2 jm_01 kf_RX2_54 kg1_2_7 dX2_reckon_1 (fun h1 => ?_)
  refine j_if_ne (tgt := 16) (pc := 4) h1 dX2_reckon_4 (by decide) (fun c2 => ?_) (fun c2 => ?_)
  · skip
    refine j_aload_n (pc := 7) dX2_reckon_7 rfl (q := 0) rfl ?_
    refine j_callVv0 (pc := 8) (ct_X2_run fu M ) kg_861 km_X2_run kv_X2_run rfl rfl ⟨(Nat.le_of_ble_eq_true rfl), (Nat.le_of_ble_eq_true rfl)⟩ jv1_2 jm_01 ko1_2 rfl rfl (Nat.le_of_ble_eq_true rfl) dX2_reckon_8 (fun v3 M4 => ?_)
    refine j_aload_n (pc := 11) dX2_reckon_11 rfl (q := 0) rfl ?_
    refine j_iconst (pc := 12) dX2_reckon_12 ?_
    refine j_put (pc := 13) jv1_2 jm_01 kf_RX2_54 wI1 kp_X2_7 kx1_2_7 (jm_inL (by decide) (by decide)) rfl rfl dX2_reckon_13 (fun M5 => ?_)
    exact j_vret (pc := 16) dX2_reckon_16
  · skip
    exact j_vret (pc := 16) dX2_reckon_16
abbrev rmJ6_bitCount_0f7a4_w1 : Room := { frames := 0, cells := 0, slots := 0, locals := 0 }
set_option maxHeartbeats 4000000 in
set_option maxRecDepth 100000 in
theorem ct_J6_bitCount_0f7a4_w1 (M : jm_M) (l0 : Int) (hl0 : jm_in l0) : jm_Ci wd1 yJ6_bitCount_0f7a4 cJ6_bitCount_0f7a4 1 (some .int) rmJ6_bitCount_0f7a4_w1 M (fun G ad => [jm_i l0]) (fJ6_bitCount_0f7a4_w1 M l0) := by
  refine jm_met_i (fun X => [(0, jm_i l0)]) (by decide) (fun _ _ => (Nat.le_of_ble_eq_true rfl)) (fun _ => rfl) (fun X => ?_)
  unfold fJ6_bitCount_0f7a4_w1
  refine j_iload_n (pc := 0) dJ6_bitCount_0f7a4_0 rfl (q := 0) rfl ?_
  refine j_iload_n (pc := 1) dJ6_bitCount_0f7a4_1 rfl (q := 0) rfl ?_
  refine j_iconst (pc := 2) dJ6_bitCount_0f7a4_2 ?_
  refine j_iushr (pc := 3) dJ6_bitCount_0f7a4_3 ?_
  refine j_ldcw (pc := 4) 1431655765 kg_1093 (by decide) dJ6_bitCount_0f7a4_4 ?_
  refine j_iand (pc := 7) dJ6_bitCount_0f7a4_7 ?_
  refine j_isub (pc := 8) dJ6_bitCount_0f7a4_8 ?_
  refine j_nm (pc := 9) (jm_w_in _) (fun v1 h2 => ?_)
  refine j_istore_n (pc := 9) [(0, jm_i v1)] dJ6_bitCount_0f7a4_9 rfl (by decide) rfl ?_
  refine j_iload_n (pc := 10) dJ6_bitCount_0f7a4_10 rfl (q := 0) rfl ?_
  refine j_ldcw (pc := 11) 858993459 kg_1094 (by decide) dJ6_bitCount_0f7a4_11 ?_
  refine j_iand (pc := 14) dJ6_bitCount_0f7a4_14 ?_
  refine j_iload_n (pc := 15) dJ6_bitCount_0f7a4_15 rfl (q := 0) rfl ?_
  refine j_iconst (pc := 16) dJ6_bitCount_0f7a4_16 ?_
  refine j_iushr (pc := 17) dJ6_bitCount_0f7a4_17 ?_
  refine j_ldcw (pc := 18) 858993459 kg_1094 (by decide) dJ6_bitCount_0f7a4_18 ?_
  refine j_iand (pc := 21) dJ6_bitCount_0f7a4_21 ?_
  refine j_iadd (pc := 22) dJ6_bitCount_0f7a4_22 ?_
  refine j_nm (pc := 23) (jm_w_in _) (fun v3 h4 => ?_)
  refine j_istore_n (pc := 23) [(0, jm_i v3)] dJ6_bitCount_0f7a4_23 rfl (by decide) rfl ?_
  refine j_iload_n (pc := 24) dJ6_bitCount_0f7a4_24 rfl (q := 0) rfl ?_
  refine j_iload_n (pc := 25) dJ6_bitCount_0f7a4_25 rfl (q := 0) rfl ?_
  refine j_iconst (pc := 26) dJ6_bitCount_0f7a4_26 ?_
  refine j_iushr (pc := 27) dJ6_bitCount_0f7a4_27 ?_
  refine j_iadd (pc := 28) dJ6_bitCount_0f7a4_28 ?_
  refine j_ldcw (pc := 29) 252645135 kg_1095 (by decide) dJ6_bitCount_0f7a4_29 ?_
  refine j_iand (pc := 32) dJ6_bitCount_0f7a4_32 ?_
  refine j_nm (pc := 33) (jm_and_in _ _) (fun v5 h6 => ?_)
  refine j_istore_n (pc := 33) [(0, jm_i v5)] dJ6_bitCount_0f7a4_33 rfl (by decide) rfl ?_
  refine j_iload_n (pc := 34) dJ6_bitCount_0f7a4_34 rfl (q := 0) rfl ?_
  refine j_iload_n (pc := 35) dJ6_bitCount_0f7a4_35 rfl (q := 0) rfl ?_
  refine j_bipush (pc := 36) 8 dJ6_bitCount_0f7a4_36 (by decide) ?_
  refine j_iushr (pc := 38) dJ6_bitCount_0f7a4_38 ?_
  refine j_iadd (pc := 39) dJ6_bitCount_0f7a4_39 ?_
  refine j_nm (pc := 40) (jm_w_in _) (fun v7 h8 => ?_)
  refine j_istore_n (pc := 40) [(0, jm_i v7)] dJ6_bitCount_0f7a4_40 rfl (by decide) rfl ?_
  refine j_iload_n (pc := 41) dJ6_bitCount_0f7a4_41 rfl (q := 0) rfl ?_
  refine j_iload_n (pc := 42) dJ6_bitCount_0f7a4_42 rfl (q := 0) rfl ?_
  refine j_bipush (pc := 43) 16 dJ6_bitCount_0f7a4_43 (by decide) ?_
  refine j_iushr (pc := 45) dJ6_bitCount_0f7a4_45 ?_
  refine j_iadd (pc := 46) dJ6_bitCount_0f7a4_46 ?_
  refine j_nm (pc := 47) (jm_w_in _) (fun v9 h10 => ?_)
  refine j_istore_n (pc := 47) [(0, jm_i v9)] dJ6_bitCount_0f7a4_47 rfl (by decide) rfl ?_
  refine j_iload_n (pc := 48) dJ6_bitCount_0f7a4_48 rfl (q := 0) rfl ?_
  refine j_bipush (pc := 49) 63 dJ6_bitCount_0f7a4_49 (by decide) ?_
  refine j_iand (pc := 51) dJ6_bitCount_0f7a4_51 ?_
  exact j_iret (pc := 52) (jm_and_in _ _) rfl dJ6_bitCount_0f7a4_52
abbrev rmX6_tell : Room := { frames := 2, cells := 0, slots := 0, locals := 41 }
set_option maxHeartbeats 4000000 in
set_option maxRecDepth 100000 in
theorem ct_X6_tell (M : jm_M) (r0 l1 : Int) (gr0 : 0 ≤ r0 ∧ r0 < 6) (hl1 : jm_in l1) : jm_Ci wd1 yX6_tell cX6_tell 2 (some .int) rmX6_tell M (fun G ad => [.ref (ad (jm_r wd1 9 r0)), jm_i l1]) (fX6_tell M r0 l1) := by
  refine jm_met_i (fun X => [(0, jm_vr wd1 X 9 r0), (1, jm_i l1)]) (by decide) (fun _ _ => (Nat.le_of_ble_eq_true rfl)) (fun _ => rfl) (fun X => ?_)
  unfold fX6_tell
  refine j_iload_n (pc := 0) dX6_tell_0 rfl (q := 1) rfl ?_
  refine j_ite (pc := 1) (fun c1 => ?_) (fun c1 => ?_)
  · skip
    refine j_tabIn (off := (55)) (tgt := 56) (pc := 1) 0 hl1 dX6_tell_1 c1 (by decide) (by decide) rfl (by decide) ?_
    refine j_aload_n (pc := 56) dX6_tell_56 rfl (q := 0) rfl ?_
    refine j_geti (pc := 57) jv1_9 gr0 kf_RX6_48 kg1_9_3 dX6_tell_57 (fun h2 => ?_)
    exact j_iret (pc := 60) h2 rfl dX6_tell_60
  · skip
    refine j_ite (pc := 1) (fun c3 => ?_) (fun c3 => ?_)
    · skip
      refine j_tabIn (off := (60)) (tgt := 61) (pc := 1) 1 hl1 dX6_tell_1 c3 (by decide) (by decide) rfl (by decide) ?_
      refine j_aload_n (pc := 61) dX6_tell_61 rfl (q := 0) rfl ?_
      refine j_geti (pc := 62) jv1_9 gr0 kf_RX6_51 kg1_9_4 dX6_tell_62 (fun h4 => ?_)
      exact j_iret (pc := 65) h4 rfl dX6_tell_65
    · skip
      refine j_ite (pc := 1) (fun c5 => ?_) (fun c5 => ?_)
      · skip
        refine j_tabIn (off := (65)) (tgt := 66) (pc := 1) 2 hl1 dX6_tell_1 c5 (by decide) (by decide) rfl (by decide) ?_
        refine j_aload_n (pc := 66) dX6_tell_66 rfl (q := 0) rfl ?_
        refine j_geti (pc := 67) jv1_9 gr0 kf_RX6_34 kg1_9_2 dX6_tell_67 (fun h6 => ?_)
        exact j_iret (pc := 70) h6 rfl dX6_tell_70
      · skip
        refine j_ite (pc := 1) (fun c7 => ?_) (fun c7 => ?_)
        · skip
          refine j_tabIn (off := (70)) (tgt := 71) (pc := 1) 3 hl1 dX6_tell_1 c7 (by decide) (by decide) rfl (by decide) ?_
          refine j_aload_n (pc := 71) dX6_tell_71 rfl (q := 0) rfl ?_
          refine j_geti (pc := 72) jv1_9 gr0 kf_RX6_54 kg1_9_5 dX6_tell_72 (fun h8 => ?_)
          exact j_iret (pc := 75) h8 rfl dX6_tell_75
        · skip
          refine j_ite (pc := 1) (fun c9 => ?_) (fun c9 => ?_)
          · skip
            refine j_tabIn (off := (75)) (tgt := 76) (pc := 1) 4 hl1 dX6_tell_1 c9 (by decide) (by decide) rfl (by decide) ?_
            refine j_aload_n (pc := 76) dX6_tell_76 rfl (q := 0) rfl ?_
            refine j_geti (pc := 77) jv1_9 gr0 kf_RX6_57 kg1_9_6 dX6_tell_77 (fun h10 => ?_)
            refine j_callSi1 (pc := 80) (ct_J6_bitCount_0f7a4_w1 M (M 9 r0 6) h10) kg_1325 km_J6_bitCount_0f7a4 kg_1091 rfl rfl ⟨(Nat.le_of_ble_eq_true rfl), (Nat.le_of_ble_eq_true rfl)⟩ rfl rfl (Nat.le_of_ble_eq_true rfl) dX6_tell_80 (fun v11 M12 h13 => ?_)
            exact j_iret (pc := 83) h13 rfl dX6_tell_83
          · skip
            refine j_ite (pc := 1) (fun c14 => ?_) (fun c14 => ?_)
            · skip
              refine j_tabIn (off := (83)) (tgt := 84) (pc := 1) 5 hl1 dX6_tell_1 c14 (by decide) (by decide) rfl (by decide) ?_
              refine j_aload_n (pc := 84) dX6_tell_84 rfl (q := 0) rfl ?_
              refine j_geti (pc := 85) jv1_9 gr0 kf_RX6_60 kg1_9_7 dX6_tell_85 (fun h15 => ?_)
              exact j_iret (pc := 88) h15 rfl dX6_tell_88
            · skip
              refine j_ite (pc := 1) (fun c16 => ?_) (fun c16 => ?_)
              · skip
                refine j_tabIn (off := (88)) (tgt := 89) (pc := 1) 6 hl1 dX6_tell_1 c16 (by decide) (by decide) rfl (by decide) ?_
                refine j_aload_n (pc := 89) dX6_tell_89 rfl (q := 0) rfl ?_
                refine j_geti (pc := 90) jv1_9 gr0 kf_RX6_66 kg1_9_8 dX6_tell_90 (fun h17 => ?_)
                exact j_iret (pc := 93) h17 rfl dX6_tell_93
              · skip
                refine j_ite (pc := 1) (fun c18 => ?_) (fun c18 => ?_)
                · skip
                  refine j_tabIn (off := (93)) (tgt := 94) (pc := 1) 7 hl1 dX6_tell_1 c18 (by decide) (by decide) rfl (by decide) ?_
                  refine j_aload_n (pc := 94) dX6_tell_94 rfl (q := 0) rfl ?_
                  refine j_geti (pc := 95) jv1_9 gr0 kf_RX6_67 kg1_9_9 dX6_tell_95 (fun h19 => ?_)
                  exact j_iret (pc := 98) h19 rfl dX6_tell_98
                · skip
                  refine j_ite (pc := 1) (fun c20 => ?_) (fun c20 => ?_)
                  · skip
                    refine j_tabIn (off := (98)) (tgt := 99) (pc := 1) 8 hl1 dX6_tell_1 c20 (by decide) (by decide) rfl (by decide) ?_
                    refine j_aload_n (pc := 99) dX6_tell_99 rfl (q := 0) rfl ?_
                    refine j_callVi0 (pc := 100) (ct_X6_age M r0 gr0) kg_1326 km_X6_age kv_X6_age rfl rfl ⟨(Nat.le_of_ble_eq_true rfl), (Nat.le_of_ble_eq_true rfl)⟩ jv1_9 gr0 ko1_9 rfl rfl (Nat.le_of_ble_eq_true rfl) dX6_tell_100 (fun v21 M22 h23 => ?_)
                    exact j_iret (pc := 103) h23 rfl dX6_tell_103
                  · skip
                    refine j_ite (pc := 1) (fun c24 => ?_) (fun c24 => ?_)
                    · skip
                      refine j_tabIn (off := (103)) (tgt := 104) (pc := 1) 9 hl1 dX6_tell_1 c24 (by decide) (by decide) rfl (by decide) ?_
                      refine j_aload_n (pc := 104) dX6_tell_104 rfl (q := 0) rfl ?_
                      refine j_geti (pc := 105) jv1_9 gr0 kf_RX6_70 kg1_9_10 dX6_tell_105 (fun h25 => ?_)
                      exact j_iret (pc := 108) h25 rfl dX6_tell_108
                    · skip
                      refine j_tabOut (tgt := 109) (pc := 1) hl1 dX6_tell_1 (by omega) (by decide) ?_
                      refine j_aload_n (pc := 109) dX6_tell_109 rfl (q := 0) rfl ?_
                      refine j_geti (pc := 110) jv1_9 gr0 kf_RX6_73 kg1_9_11 dX6_tell_110 (fun h26 => ?_)
                      exact j_iret (pc := 113) h26 rfl dX6_tell_113
