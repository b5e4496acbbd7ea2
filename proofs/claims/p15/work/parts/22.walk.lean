abbrev rmX11_of : Room := { frames := 7, cells := 1, slots := 6, locals := 178 }
set_option maxHeartbeats 4000000 in
set_option maxRecDepth 100000 in
theorem ct_X11_of (fu : Nat) (M : jm_M) (l1 l2 : Int) (hl1 : jm_in l1) (hl2 : jm_in l2) : jm_Cx wd1 yX11_of cX11_of 3 (some .int) rmX11_of M (fun G ad => [.ref (ad (jm_r wd1 0 0)), jm_i l1, jm_i l2]) (fX11_of fu M l1 l2) := by
  refine jm_met_x (fun X => [(0, jm_vr wd1 X 0 0), (1, jm_i l1), (2, jm_i l2)]) (by decide) (fun _ _ => (Nat.le_of_ble_eq_true rfl)) (fun _ => rfl) (fun X => ?_)
  unfold fX11_of
  refine j_aload_n (pc := 0) dX11_of_0 rfl (q := 0) rfl ?_
  refine j_getr (pc := 1) jv1_0 jm_01 kf_RX11_24 0 kg1_0_1 rfl dX11_of_1 ?_
  refine j_iload_n (pc := 4) dX11_of_4 rfl (q := 1) rfl ?_
  refine j_callVi1 (pc := 5) (ct_X2_has M l1 hl1) kg_619 km_X2_has kv_X2_has rfl rfl ⟨(Nat.le_of_ble_eq_true rfl), (Nat.le_of_ble_eq_true rfl)⟩ jv1_2 jm_01 ko1_2 rfl rfl (Nat.le_of_ble_eq_true rfl) dX11_of_5 (fun v1 M2 h3 => ?_)
  refine j_if_eq (tgt := 21) (pc := 8) h3 dX11_of_8 (by decide) (fun c4 => ?_) (fun c4 => ?_)
  · skip
    exact j_throw (pc := 21) dX11_of_21 dX11_of_24 dX11_of_25 dX11_of_28
  · skip
    refine j_iload_n (pc := 11) dX11_of_11 rfl (q := 2) rfl ?_
    refine j_iconst (pc := 12) dX11_of_12 ?_
    refine j_bipush (pc := 13) 10 dX11_of_13 (by decide) ?_
    refine j_callSi3 (pc := 15) (ct_X11_isWithin M2 l2 0 10 hl2 (jm_inL (by decide) (by decide)) (jm_inL (by decide) (by decide))) kg_565 km_X11_isWithin kg_566 rfl rfl ⟨(Nat.le_of_ble_eq_true rfl), (Nat.le_of_ble_eq_true rfl)⟩ rfl rfl (Nat.le_of_ble_eq_true rfl) dX11_of_15 (fun v5 M6 h7 => ?_)
    refine j_if_ne (tgt := 29) (pc := 18) h7 dX11_of_18 (by decide) (fun c8 => ?_) (fun c8 => ?_)
    · skip
      exact j_throw (pc := 21) dX11_of_21 dX11_of_24 dX11_of_25 dX11_of_28
    · skip
      refine j_aload_n (pc := 29) dX11_of_29 rfl (q := 0) rfl ?_
      refine j_getr (pc := 30) jv1_0 jm_01 kf_RX11_24 0 kg1_0_1 rfl dX11_of_30 ?_
      refine j_callVv0 (pc := 33) (ct_X2_reckon fu M6 ) kg_857 km_X2_reckon kv_X2_reckon rfl rfl ⟨(Nat.le_of_ble_eq_true rfl), (Nat.le_of_ble_eq_true rfl)⟩ jv1_2 jm_01 ko1_2 rfl rfl (Nat.le_of_ble_eq_true rfl) dX11_of_33 (fun v9 M10 => ?_)
      refine j_aload_n (pc := 36) dX11_of_36 rfl (q := 0) rfl ?_
      refine j_getr (pc := 37) jv1_0 jm_01 kf_RX11_24 0 kg1_0_1 rfl dX11_of_37 ?_
      refine j_getr (pc := 40) jv1_2 jm_01 kf_RX11_230 0 kg1_2_3 rfl dX11_of_40 ?_
      refine j_iload_n (pc := 43) dX11_of_43 rfl (q := 1) rfl ?_
      refine j_aald (pc := 44) jv1_47 jm_01 (by decide) kr1_47 dX11_of_44 (fun c11 => ?_)
      refine j_iload_n (pc := 45) dX11_of_45 rfl (q := 2) rfl ?_
      refine j_callVi1 (pc := 46) (ct_X6_tell M10 l1 l2 (by omega) hl2) kg_1321 km_X6_tell kv_X6_tell rfl rfl ⟨(Nat.le_of_ble_eq_true rfl), (Nat.le_of_ble_eq_true rfl)⟩ jv1_9 (by omega) ko1_9 rfl rfl (Nat.le_of_ble_eq_true rfl) dX11_of_46 (fun v12 M13 h14 => ?_)
      exact j_ixret (pc := 49) h14 dX11_of_49
abbrev rmX9_hasLine : Room := { frames := 2, cells := 0, slots := 0, locals := 42 }
set_option maxHeartbeats 4000000 in
set_option maxRecDepth 100000 in
theorem ct_X9_hasLine (M : jm_M) (l1 l2 : Int) (hl1 : jm_in l1) (hl2 : jm_in l2) : jm_Ci wd1 yX9_hasLine cX9_hasLine 3 (some .boolean) rmX9_hasLine M (fun G ad => [.ref (ad (jm_r wd1 1 0)), jm_i l1, jm_i l2]) (fX9_hasLine M l1 l2) := by
  refine jm_met_i (fun X => [(0, jm_vr wd1 X 1 0), (1, jm_i l1), (2, jm_i l2)]) (by decide) (fun _ _ => (Nat.le_of_ble_eq_true rfl)) (fun _ => rfl) (fun X => ?_)
  unfold fX9_hasLine
  refine j_iload_n (pc := 0) dX9_hasLine_0 rfl (q := 1) rfl ?_
  refine j_aload_n (pc := 1) dX9_hasLine_1 rfl (q := 0) rfl ?_
  refine j_geti (pc := 2) jv1_1 jm_01 kf_RX9_53 kg1_1_1 dX9_hasLine_2 (fun h1 => ?_)
  refine j_callNi2 (pc := 5) (ct_X11_isIndex M l1 (M 1 0 1) hl1 h1) (host := "RaceByLaps") (by decide) km_X11_isIndex kg_562 rfl rfl ⟨(Nat.le_of_ble_eq_true rfl), (Nat.le_of_ble_eq_true rfl)⟩ rfl rfl (Nat.le_of_ble_eq_true rfl) dX9_hasLine_5 (fun v2 M3 h4 => ?_)
  refine j_if_eq (tgt := 23) (pc := 8) h4 dX9_hasLine_8 (by decide) (fun c5 => ?_) (fun c5 => ?_)
  · skip
    refine j_iconst (pc := 23) dX9_hasLine_23 ?_
    exact j_iret (pc := 24) (jm_inL (by decide) (by decide)) rfl dX9_hasLine_24
  · skip
    refine j_aload_n (pc := 11) dX9_hasLine_11 rfl (q := 0) rfl ?_
    refine j_iload_n (pc := 12) dX9_hasLine_12 rfl (q := 2) rfl ?_
    refine j_callVi1 (pc := 13) (ct_X9_hasSector M3 l2 hl2) kg_856 km_X9_hasSector kv_X9_hasSector rfl rfl ⟨(Nat.le_of_ble_eq_true rfl), (Nat.le_of_ble_eq_true rfl)⟩ jv1_1 jm_01 ko1_1 rfl rfl (Nat.le_of_ble_eq_true rfl) dX9_hasLine_13 (fun v6 M7 h8 => ?_)
    refine j_if_eq (tgt := 23) (pc := 16) h8 dX9_hasLine_16 (by decide) (fun c9 => ?_) (fun c9 => ?_)
    · skip
      refine j_iconst (pc := 23) dX9_hasLine_23 ?_
      exact j_iret (pc := 24) (jm_inL (by decide) (by decide)) rfl dX9_hasLine_24
    · skip
      refine j_iconst (pc := 19) dX9_hasLine_19 ?_
      refine j_goto (tgt := 24) (pc := 20) dX9_hasLine_20 (by decide) ?_
      exact j_iret (pc := 24) (jm_inL (by decide) (by decide)) rfl dX9_hasLine_24
abbrev rmX11_at : Room := { frames := 7, cells := 0, slots := 0, locals := 178 }
set_option maxHeartbeats 4000000 in
set_option maxRecDepth 100000 in
theorem ct_X11_at (fu : Nat) (M : jm_M) (l1 l2 l3 : Int) (hl1 : jm_in l1) (hl2 : jm_in l2) (hl3 : jm_in l3) : jm_Ci wd1 yX11_at cX11_at 4 (some .int) rmX11_at M (fun G ad => [.ref (ad (jm_r wd1 0 0)), jm_i l1, jm_i l2, jm_i l3]) (fX11_at fu M l1 l2 l3) := by
  refine jm_met_i (fun X => [(0, jm_vr wd1 X 0 0), (1, jm_i l1), (2, jm_i l2), (3, jm_i l3)]) (by decide) (fun _ _ => (Nat.le_of_ble_eq_true rfl)) (fun _ => rfl) (fun X => ?_)
  unfold fX11_at
  refine j_aload_n (pc := 0) dX11_at_0 rfl (q := 0) rfl ?_
  refine j_getr (pc := 1) jv1_0 jm_01 kf_RX11_24 0 kg1_0_1 rfl dX11_at_1 ?_
  refine j_iload_n (pc := 4) dX11_at_4 rfl (q := 1) rfl ?_
  refine j_callVi1 (pc := 5) (ct_X2_has M l1 hl1) kg_619 km_X2_has kv_X2_has rfl rfl ⟨(Nat.le_of_ble_eq_true rfl), (Nat.le_of_ble_eq_true rfl)⟩ jv1_2 jm_01 ko1_2 rfl rfl (Nat.le_of_ble_eq_true rfl) dX11_at_5 (fun v1 M2 h3 => ?_)
  refine j_if_eq (tgt := 23) (pc := 8) h3 dX11_at_8 (by decide) (fun c4 => ?_) (fun c4 => ?_)
  · skip
    refine j_iconst (pc := 23) dX11_at_23 ?_
    exact j_iret (pc := 24) (jm_inL (by decide) (by decide)) rfl dX11_at_24
  · skip
    refine j_aload_n (pc := 11) dX11_at_11 rfl (q := 0) rfl ?_
    refine j_getr (pc := 12) jv1_0 jm_01 kf_RX11_15 0 kg1_0_0 rfl dX11_at_12 ?_
    refine j_iload_n (pc := 15) dX11_at_15 rfl (q := 2) rfl ?_
    refine j_iload_n (pc := 16) dX11_at_16 rfl (q := 3) rfl ?_
    refine j_callVi2 (pc := 17) (ct_X9_hasLine M2 l2 l3 hl2 hl3) kg_852 km_X9_hasLine kv_X9_hasLine rfl rfl ⟨(Nat.le_of_ble_eq_true rfl), (Nat.le_of_ble_eq_true rfl)⟩ jv1_1 jm_01 ko1_1 rfl rfl (Nat.le_of_ble_eq_true rfl) dX11_at_17 (fun v5 M6 h7 => ?_)
    refine j_if_ne (tgt := 25) (pc := 20) h7 dX11_at_20 (by decide) (fun c8 => ?_) (fun c8 => ?_)
    · skip
      refine j_iconst (pc := 23) dX11_at_23 ?_
      exact j_iret (pc := 24) (jm_inL (by decide) (by decide)) rfl dX11_at_24
    · skip
      refine j_aload_n (pc := 25) dX11_at_25 rfl (q := 0) rfl ?_
      refine j_getr (pc := 26) jv1_0 jm_01 kf_RX11_24 0 kg1_0_1 rfl dX11_at_26 ?_
      refine j_callVv0 (pc := 29) (ct_X2_reckon fu M6 ) kg_857 km_X2_reckon kv_X2_reckon rfl rfl ⟨(Nat.le_of_ble_eq_true rfl), (Nat.le_of_ble_eq_true rfl)⟩ jv1_2 jm_01 ko1_2 rfl rfl (Nat.le_of_ble_eq_true rfl) dX11_at_29 (fun v9 M10 => ?_)
      refine j_aload_n (pc := 32) dX11_at_32 rfl (q := 0) rfl ?_
      refine j_getr (pc := 33) jv1_0 jm_01 kf_RX11_24 0 kg1_0_1 rfl dX11_at_33 ?_
      refine j_getr (pc := 36) jv1_2 jm_01 kf_RX11_230 0 kg1_2_3 rfl dX11_at_36 ?_
      refine j_iload_n (pc := 39) dX11_at_39 rfl (q := 1) rfl ?_
      refine j_aald (pc := 40) jv1_47 jm_01 (by decide) kr1_47 dX11_at_40 (fun c11 => ?_)
      refine j_aload_n (pc := 41) dX11_at_41 rfl (q := 0) rfl ?_
      refine j_getr (pc := 42) jv1_0 jm_01 kf_RX11_15 0 kg1_0_0 rfl dX11_at_42 ?_
      refine j_iload_n (pc := 45) dX11_at_45 rfl (q := 2) rfl ?_
      refine j_iload_n (pc := 46) dX11_at_46 rfl (q := 3) rfl ?_
      refine j_callVi2 (pc := 47) (ct_X9_lineOf M10 l2 l3 hl2 hl3) kg_1021 km_X9_lineOf kv_X9_lineOf rfl rfl ⟨(Nat.le_of_ble_eq_true rfl), (Nat.le_of_ble_eq_true rfl)⟩ jv1_1 jm_01 ko1_1 rfl rfl (Nat.le_of_ble_eq_true rfl) dX11_at_47 (fun v12 M13 h14 => ?_)
      refine j_callVi1 (pc := 50) (ct_X6_timeAt M13 l1 v12 (by omega) h14) kg_1022 km_X6_timeAt kv_X6_timeAt rfl rfl ⟨(Nat.le_of_ble_eq_true rfl), (Nat.le_of_ble_eq_true rfl)⟩ jv1_9 (by omega) ko1_9 rfl rfl (Nat.le_of_ble_eq_true rfl) dX11_at_50 (fun v15 M16 h17 => ?_)
      exact j_iret (pc := 53) h17 rfl dX11_at_53
abbrev rmX2_aheadAt : Room := { frames := 2, cells := 0, slots := 0, locals := 42 }
set_option maxHeartbeats 4000000 in
set_option maxRecDepth 100000 in
theorem b0X2_aheadAt_6 (X : jm_X) (fu : Nat) (k6 : jm_M → Int → Int → Int → Int → Int → jm_R) (hk6 : ∀ (M : jm_M) (l1 l2 l3 l4 l5 : Int) (hl1 : jm_in l1) (hl2 : jm_in l2) (hl3 : jm_in l3) (hl4 : jm_in l4) (hl5 : jm_in l5), jm_J wd1 (jm_qi .int) cX2_aheadAt 7 RX2 rmX2_aheadAt X M [(0, jm_vr wd1 X 2 0), (1, jm_i l1), (2, jm_i l2), (3, jm_i l3), (4, jm_i l4), (5, jm_i l5)] [] 6 (k6 M l1 l2 l3 l4 l5)) : ∀ (M : jm_M) (l1 l2 l3 l4 l5 : Int) (hl1 : jm_in l1) (hl2 : jm_in l2) (hl3 : jm_in l3) (hl4 : jm_in l4) (hl5 : jm_in l5), jm_J wd1 (jm_qi .int) cX2_aheadAt 7 RX2 rmX2_aheadAt X M [(0, jm_vr wd1 X 2 0), (1, jm_i l1), (2, jm_i l2), (3, jm_i l3), (4, jm_i l4), (5, jm_i l5)] [] 6 (gX2_aheadAt_6 fu k6 M l1 l2 l3 l4 l5) := by
  intro M l1 l2 l3 l4 l5 hl1 hl2 hl3 hl4 hl5
  unfold gX2_aheadAt_6
  refine j_iload (pc := 6) dX2_aheadAt_6 (q := 5) rfl ?_
  refine j_aload_n (pc := 8) dX2_aheadAt_8 rfl (q := 0) rfl ?_
  refine j_geti (pc := 9) jv1_2 jm_01 kf_RX2_37 kg1_2_5 dX2_aheadAt_9 (fun h1 => ?_)
  refine j_icmp_ge (tgt := 68) (pc := 12) hl5 h1 dX2_aheadAt_12 (by decide) (fun c2 => ?_) (fun c2 => ?_)
  · skip
    refine j_iload (pc := 68) dX2_aheadAt_68 (q := 4) rfl ?_
    exact j_iret (pc := 70) hl4 rfl dX2_aheadAt_70
  · skip
    refine j_iload (pc := 15) dX2_aheadAt_15 (q := 5) rfl ?_
    refine j_bipush (pc := 17) 6 dX2_aheadAt_17 (by decide) ?_
    refine j_icmp_ge (tgt := 68) (pc := 19) hl5 (jm_inL (by decide) (by decide)) dX2_aheadAt_19 (by decide) (fun c3 => ?_) (fun c3 => ?_)
    · skip
      refine j_iload (pc := 68) dX2_aheadAt_68 (q := 4) rfl ?_
      exact j_iret (pc := 70) hl4 rfl dX2_aheadAt_70
    · skip
      refine j_aload_n (pc := 22) dX2_aheadAt_22 rfl (q := 0) rfl ?_
      refine j_getr (pc := 23) jv1_2 jm_01 kf_RX2_27 0 kg1_2_3 rfl dX2_aheadAt_23 ?_
      refine j_iload (pc := 26) dX2_aheadAt_26 (q := 5) rfl ?_
      refine j_aald (pc := 28) jv1_47 jm_01 (by decide) kr1_47 dX2_aheadAt_28 (fun c4 => ?_)
      refine j_iload_n (pc := 29) dX2_aheadAt_29 rfl (q := 1) rfl ?_
      refine j_callVi1 (pc := 30) (ct_X6_timeAt M l5 l1 (by omega) hl1) kg_966 km_X6_timeAt kv_X6_timeAt rfl rfl ⟨(Nat.le_of_ble_eq_true rfl), (Nat.le_of_ble_eq_true rfl)⟩ jv1_9 (by omega) ko1_9 rfl rfl (Nat.le_of_ble_eq_true rfl) dX2_aheadAt_30 (fun v5 M6 h7 => ?_)
      refine j_istore (pc := 33) [(6, jm_i v5), (0, jm_vr wd1 X 2 0), (1, jm_i l1), (2, jm_i l2), (3, jm_i l3), (4, jm_i l4), (5, jm_i l5)] dX2_aheadAt_33 (by decide) rfl ?_
      refine j_iload (pc := 35) dX2_aheadAt_35 (q := 0) rfl ?_
      refine j_iconst (pc := 37) dX2_aheadAt_37 ?_
      refine j_icmp_eq (tgt := 62) (pc := 38) h7 (jm_inL (by decide) (by decide)) dX2_aheadAt_38 (by decide) (fun c8 => ?_) (fun c8 => ?_)
      · skip
        refine j_iinc (pc := 62) [(6, jm_i v5), (0, jm_vr wd1 X 2 0), (1, jm_i l1), (2, jm_i l2), (3, jm_i l3), (4, jm_i l4)] (q := 6) dX2_aheadAt_62 rfl (by decide) (fun _ => rfl) (fun v9 h10 => ?_)
        refine j_goto (tgt := 6) (pc := 65) dX2_aheadAt_65 (by decide) ?_
        refine j_sub (pc := 6) [(0, jm_vr wd1 X 2 0), (1, jm_i l1), (2, jm_i l2), (3, jm_i l3), (4, jm_i l4), (5, jm_i v9)] [2, 3, 4, 5, 6, 0] rfl ?_
        exact hk6 M6 l1 l2 l3 l4 v9 hl1 hl2 hl3 hl4 h10
      · skip
        refine j_iload (pc := 41) dX2_aheadAt_41 (q := 0) rfl ?_
        refine j_iload_n (pc := 43) dX2_aheadAt_43 rfl (q := 4) rfl ?_
        refine j_icmp_lt (tgt := 59) (pc := 44) h7 hl3 dX2_aheadAt_44 (by decide) (fun c11 => ?_) (fun c11 => ?_)
        · skip
          refine j_iinc (pc := 59) [(6, jm_i v5), (0, jm_vr wd1 X 2 0), (1, jm_i l1), (2, jm_i l2), (3, jm_i l3), (5, jm_i l5)] (q := 5) dX2_aheadAt_59 rfl (by decide) (fun _ => rfl) (fun v12 h13 => ?_)
          refine j_iinc (pc := 62) [(4, jm_i v12), (6, jm_i v5), (0, jm_vr wd1 X 2 0), (1, jm_i l1), (2, jm_i l2), (3, jm_i l3)] (q := 6) dX2_aheadAt_62 rfl (by decide) (fun _ => rfl) (fun v14 h15 => ?_)
          refine j_goto (tgt := 6) (pc := 65) dX2_aheadAt_65 (by decide) ?_
          refine j_sub (pc := 6) [(0, jm_vr wd1 X 2 0), (1, jm_i l1), (2, jm_i l2), (3, jm_i l3), (4, jm_i v12), (5, jm_i v14)] [3, 4, 5, 6, 1, 0] rfl ?_
          exact hk6 M6 l1 l2 l3 v12 v14 hl1 hl2 hl3 h13 h15
        · skip
          refine j_iload (pc := 47) dX2_aheadAt_47 (q := 0) rfl ?_
          refine j_iload_n (pc := 49) dX2_aheadAt_49 rfl (q := 4) rfl ?_
          refine j_icmp_ne (tgt := 62) (pc := 50) h7 hl3 dX2_aheadAt_50 (by decide) (fun c16 => ?_) (fun c16 => ?_)
          · skip
            refine j_iload (pc := 53) dX2_aheadAt_53 (q := 6) rfl ?_
            refine j_iload_n (pc := 55) dX2_aheadAt_55 rfl (q := 3) rfl ?_
            refine j_icmp_ge (tgt := 62) (pc := 56) hl5 hl2 dX2_aheadAt_56 (by decide) (fun c17 => ?_) (fun c17 => ?_)
            · skip
              refine j_iinc (pc := 62) [(6, jm_i v5), (0, jm_vr wd1 X 2 0), (1, jm_i l1), (2, jm_i l2), (3, jm_i l3), (4, jm_i l4)] (q := 6) dX2_aheadAt_62 rfl (by decide) (fun _ => rfl) (fun v18 h19 => ?_)
              refine j_goto (tgt := 6) (pc := 65) dX2_aheadAt_65 (by decide) ?_
              refine j_sub (pc := 6) [(0, jm_vr wd1 X 2 0), (1, jm_i l1), (2, jm_i l2), (3, jm_i l3), (4, jm_i l4), (5, jm_i v18)] [2, 3, 4, 5, 6, 0] rfl ?_
              exact hk6 M6 l1 l2 l3 l4 v18 hl1 hl2 hl3 hl4 h19
            · skip
              refine j_iinc (pc := 59) [(6, jm_i v5), (0, jm_vr wd1 X 2 0), (1, jm_i l1), (2, jm_i l2), (3, jm_i l3), (5, jm_i l5)] (q := 5) dX2_aheadAt_59 rfl (by decide) (fun _ => rfl) (fun v20 h21 => ?_)
              refine j_iinc (pc := 62) [(4, jm_i v20), (6, jm_i v5), (0, jm_vr wd1 X 2 0), (1, jm_i l1), (2, jm_i l2), (3, jm_i l3)] (q := 6) dX2_aheadAt_62 rfl (by decide) (fun _ => rfl) (fun v22 h23 => ?_)
              refine j_goto (tgt := 6) (pc := 65) dX2_aheadAt_65 (by decide) ?_
              refine j_sub (pc := 6) [(0, jm_vr wd1 X 2 0), (1, jm_i l1), (2, jm_i l2), (3, jm_i l3), (4, jm_i v20), (5, jm_i v22)] [3, 4, 5, 6, 1, 0] rfl ?_
              exact hk6 M6 l1 l2 l3 v20 v22 hl1 hl2 hl3 h21 h23
          · skip
            refine j_iinc (pc := 62) [(6, jm_i v5), (0, jm_vr wd1 X 2 0), (1, jm_i l1), (2, jm_i l2), (3, jm_i l3), (4, jm_i l4)] (q := 6) dX2_aheadAt_62 rfl (by decide) (fun _ => rfl) (fun v24 h25 => ?_)
            refine j_goto (tgt := 6) (pc := 65) dX2_aheadAt_65 (by decide) ?_
            refine j_sub (pc := 6) [(0, jm_vr wd1 X 2 0), (1, jm_i l1), (2, jm_i l2), (3, jm_i l3), (4, jm_i l4), (5, jm_i v24)] [2, 3, 4, 5, 6, 0] rfl ?_
            exact hk6 M6 l1 l2 l3 l4 v24 hl1 hl2 hl3 hl4 h25
theorem bX2_aheadAt_6 (X : jm_X) (fu : Nat) : ∀ (n : Nat) (M : jm_M) (l1 l2 l3 l4 l5 : Int) (hl1 : jm_in l1) (hl2 : jm_in l2) (hl3 : jm_in l3) (hl4 : jm_in l4) (hl5 : jm_in l5), jm_J wd1 (jm_qi .int) cX2_aheadAt 7 RX2 rmX2_aheadAt X M [(0, jm_vr wd1 X 2 0), (1, jm_i l1), (2, jm_i l2), (3, jm_i l3), (4, jm_i l4), (5, jm_i l5)] [] 6 (fX2_aheadAt_6 fu n M l1 l2 l3 l4 l5) := by
  intro n
  induction n with
  | zero => intro M l1 l2 l3 l4 l5 hl1 hl2 hl3 hl4 hl5; exact j_none
  | succ n ih => intro M l1 l2 l3 l4 l5 hl1 hl2 hl3 hl4 hl5; exact b0X2_aheadAt_6 X fu (fX2_aheadAt_6 fu n) ih M l1 l2 l3 l4 l5 hl1 hl2 hl3 hl4 hl5
set_option maxHeartbeats 4000000 in
set_option maxRecDepth 100000 in
theorem ct_X2_aheadAt (fu : Nat) (M : jm_M) (l1 l2 l3 : Int) (hl1 : jm_in l1) (hl2 : jm_in l2) (hl3 : jm_in l3) : jm_Ci wd1 yX2_aheadAt cX2_aheadAt 7 (some .int) rmX2_aheadAt M (fun G ad => [.ref (ad (jm_r wd1 2 0)), jm_i l1, jm_i l2, jm_i l3]) (fX2_aheadAt fu M l1 l2 l3) := by
  refine jm_met_i (fun X => [(0, jm_vr wd1 X 2 0), (1, jm_i l1), (2, jm_i l2), (3, jm_i l3)]) (by decide) (fun _ _ => (Nat.le_of_ble_eq_true rfl)) (fun _ => rfl) (fun X => ?_)
  unfold fX2_aheadAt
  refine j_iconst (pc := 0) dX2_aheadAt_0 ?_
  refine j_istore (pc := 1) [(4, jm_i 0), (0, jm_vr wd1 X 2 0), (1, jm_i l1), (2, jm_i l2), (3, jm_i l3)] dX2_aheadAt_1 (by decide) rfl ?_
  refine j_iconst (pc := 3) dX2_aheadAt_3 ?_
  refine j_istore (pc := 4) [(5, jm_i 0), (4, jm_i 0), (0, jm_vr wd1 X 2 0), (1, jm_i l1), (2, jm_i l2), (3, jm_i l3)] dX2_aheadAt_4 (by decide) rfl ?_
  refine j_sub (pc := 6) [(0, jm_vr wd1 X 2 0), (1, jm_i l1), (2, jm_i l2), (3, jm_i l3), (4, jm_i 0), (5, jm_i 0)] [2, 3, 4, 5, 1, 0] rfl ?_
  exact bX2_aheadAt_6 X fu  fu M l1 l2 l3 0 0 hl1 hl2 hl3 (jm_inL (by decide) (by decide)) (jm_inL (by decide) (by decide))
abbrev rmX2_inOrder : Room := { frames := 3, cells := 0, slots := 0, locals := 68 }
set_option maxHeartbeats 4000000 in
set_option maxRecDepth 100000 in
theorem b0X2_inOrder_2 (X : jm_X) (fu : Nat) (k2 : jm_M → Int → Int → Int → jm_R) (hk2 : ∀ (M : jm_M) (l1 l2 l3 : Int) (hl1 : jm_in l1) (hl2 : jm_in l2) (hl3 : jm_in l3), jm_J wd1 (jm_qi .int) cX2_inOrder 5 RX2 rmX2_inOrder X M [(0, jm_vr wd1 X 2 0), (1, jm_i l1), (2, jm_i l2), (3, jm_i l3)] [] 2 (k2 M l1 l2 l3)) : ∀ (M : jm_M) (l1 l2 l3 : Int) (hl1 : jm_in l1) (hl2 : jm_in l2) (hl3 : jm_in l3), jm_J wd1 (jm_qi .int) cX2_inOrder 5 RX2 rmX2_inOrder X M [(0, jm_vr wd1 X 2 0), (1, jm_i l1), (2, jm_i l2), (3, jm_i l3)] [] 2 (gX2_inOrder_2 fu k2 M l1 l2 l3) := by
  intro M l1 l2 l3 hl1 hl2 hl3
  unfold gX2_inOrder_2
  refine j_iload_n (pc := 2) dX2_inOrder_2 rfl (q := 3) rfl ?_
  refine j_aload_n (pc := 3) dX2_inOrder_3 rfl (q := 0) rfl ?_
  refine j_geti (pc := 4) jv1_2 jm_01 kf_RX2_37 kg1_2_5 dX2_inOrder_4 (fun h1 => ?_)
  refine j_icmp_ge (tgt := 54) (pc := 7) hl3 h1 dX2_inOrder_7 (by decide) (fun c2 => ?_) (fun c2 => ?_)
  · skip
    refine j_iconst (pc := 54) dX2_inOrder_54 ?_
    exact j_iret (pc := 55) (jm_inL (by decide) (by decide)) rfl dX2_inOrder_55
  · skip
    refine j_iload_n (pc := 10) dX2_inOrder_10 rfl (q := 3) rfl ?_
    refine j_bipush (pc := 11) 6 dX2_inOrder_11 (by decide) ?_
    refine j_icmp_ge (tgt := 54) (pc := 13) hl3 (jm_inL (by decide) (by decide)) dX2_inOrder_13 (by decide) (fun c3 => ?_) (fun c3 => ?_)
    · skip
      refine j_iconst (pc := 54) dX2_inOrder_54 ?_
      exact j_iret (pc := 55) (jm_inL (by decide) (by decide)) rfl dX2_inOrder_55
    · skip
      refine j_aload_n (pc := 16) dX2_inOrder_16 rfl (q := 0) rfl ?_
      refine j_getr (pc := 17) jv1_2 jm_01 kf_RX2_27 0 kg1_2_3 rfl dX2_inOrder_17 ?_
      refine j_iload_n (pc := 20) dX2_inOrder_20 rfl (q := 3) rfl ?_
      refine j_aald (pc := 21) jv1_47 jm_01 (by decide) kr1_47 dX2_inOrder_21 (fun c4 => ?_)
      refine j_iload_n (pc := 22) dX2_inOrder_22 rfl (q := 1) rfl ?_
      refine j_callVi1 (pc := 23) (ct_X6_timeAt M l3 l1 (by omega) hl1) kg_966 km_X6_timeAt kv_X6_timeAt rfl rfl ⟨(Nat.le_of_ble_eq_true rfl), (Nat.le_of_ble_eq_true rfl)⟩ jv1_9 (by omega) ko1_9 rfl rfl (Nat.le_of_ble_eq_true rfl) dX2_inOrder_23 (fun v5 M6 h7 => ?_)
      refine j_istore (pc := 26) [(4, jm_i v5), (0, jm_vr wd1 X 2 0), (1, jm_i l1), (2, jm_i l2), (3, jm_i l3)] dX2_inOrder_26 (by decide) rfl ?_
      refine j_iload (pc := 28) dX2_inOrder_28 (q := 0) rfl ?_
      refine j_iconst (pc := 30) dX2_inOrder_30 ?_
      refine j_icmp_eq (tgt := 48) (pc := 31) h7 (jm_inL (by decide) (by decide)) dX2_inOrder_31 (by decide) (fun c8 => ?_) (fun c8 => ?_)
      · skip
        refine j_iinc (pc := 48) [(4, jm_i v5), (0, jm_vr wd1 X 2 0), (1, jm_i l1), (2, jm_i l2)] (q := 4) dX2_inOrder_48 rfl (by decide) (fun _ => rfl) (fun v9 h10 => ?_)
        refine j_goto (tgt := 2) (pc := 51) dX2_inOrder_51 (by decide) ?_
        refine j_sub (pc := 2) [(0, jm_vr wd1 X 2 0), (1, jm_i l1), (2, jm_i l2), (3, jm_i v9)] [2, 3, 4, 0] rfl ?_
        exact hk2 M6 l1 l2 v9 hl1 hl2 h10
      · skip
        refine j_aload_n (pc := 34) dX2_inOrder_34 rfl (q := 1) rfl ?_
        refine j_iload_n (pc := 35) dX2_inOrder_35 rfl (q := 2) rfl ?_
        refine j_iload_n (pc := 36) dX2_inOrder_36 rfl (q := 4) rfl ?_
        refine j_iload (pc := 37) dX2_inOrder_37 (q := 0) rfl ?_
        refine j_callVi3 (pc := 39) (ct_X2_aheadAt fu M6 l1 l3 v5 hl1 hl3 h7) kg_1031 km_X2_aheadAt kv_X2_aheadAt rfl rfl ⟨(Nat.le_of_ble_eq_true rfl), (Nat.le_of_ble_eq_true rfl)⟩ jv1_2 jm_01 ko1_2 rfl rfl (Nat.le_of_ble_eq_true rfl) dX2_inOrder_39 (fun v11 M12 h13 => ?_)
        refine j_iload_n (pc := 42) dX2_inOrder_42 rfl (q := 3) rfl ?_
        refine j_icmp_ne (tgt := 48) (pc := 43) h13 hl2 dX2_inOrder_43 (by decide) (fun c14 => ?_) (fun c14 => ?_)
        · skip
          refine j_iload_n (pc := 46) dX2_inOrder_46 rfl (q := 4) rfl ?_
          exact j_iret (pc := 47) hl3 rfl dX2_inOrder_47
        · skip
          refine j_iinc (pc := 48) [(4, jm_i v5), (0, jm_vr wd1 X 2 0), (1, jm_i l1), (2, jm_i l2)] (q := 4) dX2_inOrder_48 rfl (by decide) (fun _ => rfl) (fun v15 h16 => ?_)
          refine j_goto (tgt := 2) (pc := 51) dX2_inOrder_51 (by decide) ?_
          refine j_sub (pc := 2) [(0, jm_vr wd1 X 2 0), (1, jm_i l1), (2, jm_i l2), (3, jm_i v15)] [2, 3, 4, 0] rfl ?_
          exact hk2 M12 l1 l2 v15 hl1 hl2 h16
theorem bX2_inOrder_2 (X : jm_X) (fu : Nat) : ∀ (n : Nat) (M : jm_M) (l1 l2 l3 : Int) (hl1 : jm_in l1) (hl2 : jm_in l2) (hl3 : jm_in l3), jm_J wd1 (jm_qi .int) cX2_inOrder 5 RX2 rmX2_inOrder X M [(0, jm_vr wd1 X 2 0), (1, jm_i l1), (2, jm_i l2), (3, jm_i l3)] [] 2 (fX2_inOrder_2 fu n M l1 l2 l3) := by
  intro n
  induction n with
  | zero => intro M l1 l2 l3 hl1 hl2 hl3; exact j_none
  | succ n ih => intro M l1 l2 l3 hl1 hl2 hl3; exact b0X2_inOrder_2 X fu (fX2_inOrder_2 fu n) ih M l1 l2 l3 hl1 hl2 hl3
set_option maxHeartbeats 4000000 in
set_option maxRecDepth 100000 in
theorem ct_X2_inOrder (fu : Nat) (M : jm_M) (l1 l2 : Int) (hl1 : jm_in l1) (hl2 : jm_in l2) : jm_Ci wd1 yX2_inOrder cX2_inOrder 5 (some .int) rmX2_inOrder M (fun G ad => [.ref (ad (jm_r wd1 2 0)), jm_i l1, jm_i l2]) (fX2_inOrder fu M l1 l2) := by
  refine jm_met_i (fun X => [(0, jm_vr wd1 X 2 0), (1, jm_i l1), (2, jm_i l2)]) (by decide) (fun _ _ => (Nat.le_of_ble_eq_true rfl)) (fun _ => rfl) (fun X => ?_)
  unfold fX2_inOrder
  refine j_iconst (pc := 0) dX2_inOrder_0 ?_
  refine j_istore_n (pc := 1) [(3, jm_i 0), (0, jm_vr wd1 X 2 0), (1, jm_i l1), (2, jm_i l2)] dX2_inOrder_1 rfl (by decide) rfl ?_
  refine j_sub (pc := 2) [(0, jm_vr wd1 X 2 0), (1, jm_i l1), (2, jm_i l2), (3, jm_i 0)] [1, 2, 3, 0] rfl ?_
  exact bX2_inOrder_2 X fu  fu M l1 l2 0 hl1 hl2 (jm_inL (by decide) (by decide))
abbrev rmX11_led : Room := { frames := 7, cells := 0, slots := 0, locals := 178 }
set_option maxHeartbeats 4000000 in
set_option maxRecDepth 100000 in
theorem ct_X11_led (fu : Nat) (M : jm_M) (l1 l2 : Int) (hl1 : jm_in l1) (hl2 : jm_in l2) : jm_Ci wd1 yX11_led cX11_led 3 (some .int) rmX11_led M (fun G ad => [.ref (ad (jm_r wd1 0 0)), jm_i l1, jm_i l2]) (fX11_led fu M l1 l2) := by
  refine jm_met_i (fun X => [(0, jm_vr wd1 X 0 0), (1, jm_i l1), (2, jm_i l2)]) (by decide) (fun _ _ => (Nat.le_of_ble_eq_true rfl)) (fun _ => rfl) (fun X => ?_)
  unfold fX11_led
  refine j_iload_n (pc := 0) dX11_led_0 rfl (q := 1) rfl ?_
  refine j_aload_n (pc := 1) dX11_led_1 rfl (q := 0) rfl ?_
  refine j_getr (pc := 2) jv1_0 jm_01 kf_RX11_15 0 kg1_0_0 rfl dX11_led_2 ?_
  refine j_geti (pc := 5) jv1_1 jm_01 kf_RX11_185 kg1_1_1 dX11_led_5 (fun h1 => ?_)
  refine j_callSi2 (pc := 8) (ct_X11_isIndex M l1 (M 1 0 1) hl1 h1) kg_572 km_X11_isIndex kg_562 rfl rfl ⟨(Nat.le_of_ble_eq_true rfl), (Nat.le_of_ble_eq_true rfl)⟩ rfl rfl (Nat.le_of_ble_eq_true rfl) dX11_led_8 (fun v2 M3 h4 => ?_)
  refine j_if_eq (tgt := 28) (pc := 11) h4 dX11_led_11 (by decide) (fun c5 => ?_) (fun c5 => ?_)
  · skip
    refine j_iconst (pc := 28) dX11_led_28 ?_
    exact j_iret (pc := 29) (jm_inL (by decide) (by decide)) rfl dX11_led_29
  · skip
    refine j_iload_n (pc := 14) dX11_led_14 rfl (q := 2) rfl ?_
    refine j_aload_n (pc := 15) dX11_led_15 rfl (q := 0) rfl ?_
    refine j_getr (pc := 16) jv1_0 jm_01 kf_RX11_24 0 kg1_0_1 rfl dX11_led_16 ?_
    refine j_geti (pc := 19) jv1_2 jm_01 kf_RX11_80 kg1_2_5 dX11_led_19 (fun h6 => ?_)
    refine j_callSi2 (pc := 22) (ct_X11_isIndex M3 l2 (M3 2 0 5) hl2 h6) kg_572 km_X11_isIndex kg_562 rfl rfl ⟨(Nat.le_of_ble_eq_true rfl), (Nat.le_of_ble_eq_true rfl)⟩ rfl rfl (Nat.le_of_ble_eq_true rfl) dX11_led_22 (fun v7 M8 h9 => ?_)
    refine j_if_ne (tgt := 30) (pc := 25) h9 dX11_led_25 (by decide) (fun c10 => ?_) (fun c10 => ?_)
    · skip
      refine j_iconst (pc := 28) dX11_led_28 ?_
      exact j_iret (pc := 29) (jm_inL (by decide) (by decide)) rfl dX11_led_29
    · skip
      refine j_aload_n (pc := 30) dX11_led_30 rfl (q := 0) rfl ?_
      refine j_getr (pc := 31) jv1_0 jm_01 kf_RX11_24 0 kg1_0_1 rfl dX11_led_31 ?_
      refine j_callVv0 (pc := 34) (ct_X2_reckon fu M8 ) kg_857 km_X2_reckon kv_X2_reckon rfl rfl ⟨(Nat.le_of_ble_eq_true rfl), (Nat.le_of_ble_eq_true rfl)⟩ jv1_2 jm_01 ko1_2 rfl rfl (Nat.le_of_ble_eq_true rfl) dX11_led_34 (fun v11 M12 => ?_)
      refine j_aload_n (pc := 37) dX11_led_37 rfl (q := 0) rfl ?_
      refine j_getr (pc := 38) jv1_0 jm_01 kf_RX11_24 0 kg1_0_1 rfl dX11_led_38 ?_
      refine j_aload_n (pc := 41) dX11_led_41 rfl (q := 0) rfl ?_
      refine j_getr (pc := 42) jv1_0 jm_01 kf_RX11_15 0 kg1_0_0 rfl dX11_led_42 ?_
      refine j_iload_n (pc := 45) dX11_led_45 rfl (q := 1) rfl ?_
      refine j_aload_n (pc := 46) dX11_led_46 rfl (q := 0) rfl ?_
      refine j_getr (pc := 47) jv1_0 jm_01 kf_RX11_15 0 kg1_0_0 rfl dX11_led_47 ?_
      refine j_geti (pc := 50) jv1_1 jm_01 kf_RX11_212 kg1_1_0 dX11_led_50 (fun h13 => ?_)
      refine j_iconst (pc := 53) dX11_led_53 ?_
      refine j_isub (pc := 54) dX11_led_54 ?_
      refine j_callVi2 (pc := 55) (ct_X9_lineOf M12 l1 (jm_w ((M12 1 0 0) - 1)) hl1 (jm_w_in _)) kg_1021 km_X9_lineOf kv_X9_lineOf rfl rfl ⟨(Nat.le_of_ble_eq_true rfl), (Nat.le_of_ble_eq_true rfl)⟩ jv1_1 jm_01 ko1_1 rfl rfl (Nat.le_of_ble_eq_true rfl) dX11_led_55 (fun v14 M15 h16 => ?_)
      refine j_iload_n (pc := 58) dX11_led_58 rfl (q := 2) rfl ?_
      refine j_callVi2 (pc := 59) (ct_X2_inOrder fu M15 v14 l2 h16 hl2) kg_1027 km_X2_inOrder kv_X2_inOrder rfl rfl ⟨(Nat.le_of_ble_eq_true rfl), (Nat.le_of_ble_eq_true rfl)⟩ jv1_2 jm_01 ko1_2 rfl rfl (Nat.le_of_ble_eq_true rfl) dX11_led_59 (fun v17 M18 h19 => ?_)
      exact j_iret (pc := 62) h19 rfl dX11_led_62
abbrev rmX11_waited : Room := { frames := 7, cells := 0, slots := 0, locals := 178 }
set_option maxHeartbeats 4000000 in
set_option maxRecDepth 100000 in
theorem ct_X11_waited (fu : Nat) (M : jm_M) (l1 : Int) (hl1 : jm_in l1) : jm_Ci wd1 yX11_waited cX11_waited 2 (some .int) rmX11_waited M (fun G ad => [.ref (ad (jm_r wd1 0 0)), jm_i l1]) (fX11_waited fu M l1) := by
  refine jm_met_i (fun X => [(0, jm_vr wd1 X 0 0), (1, jm_i l1)]) (by decide) (fun _ _ => (Nat.le_of_ble_eq_true rfl)) (fun _ => rfl) (fun X => ?_)
  unfold fX11_waited
  refine j_aload_n (pc := 0) dX11_waited_0 rfl (q := 0) rfl ?_
  refine j_getr (pc := 1) jv1_0 jm_01 kf_RX11_24 0 kg1_0_1 rfl dX11_waited_1 ?_
  refine j_iload_n (pc := 4) dX11_waited_4 rfl (q := 1) rfl ?_
  refine j_callVi1 (pc := 5) (ct_X2_has M l1 hl1) kg_619 km_X2_has kv_X2_has rfl rfl ⟨(Nat.le_of_ble_eq_true rfl), (Nat.le_of_ble_eq_true rfl)⟩ jv1_2 jm_01 ko1_2 rfl rfl (Nat.le_of_ble_eq_true rfl) dX11_waited_5 (fun v1 M2 h3 => ?_)
  refine j_if_ne (tgt := 13) (pc := 8) h3 dX11_waited_8 (by decide) (fun c4 => ?_) (fun c4 => ?_)
  · skip
    refine j_iconst (pc := 11) dX11_waited_11 ?_
    exact j_iret (pc := 12) (jm_inL (by decide) (by decide)) rfl dX11_waited_12
  · skip
    refine j_aload_n (pc := 13) dX11_waited_13 rfl (q := 0) rfl ?_
    refine j_getr (pc := 14) jv1_0 jm_01 kf_RX11_24 0 kg1_0_1 rfl dX11_waited_14 ?_
    refine j_callVv0 (pc := 17) (ct_X2_reckon fu M2 ) kg_857 km_X2_reckon kv_X2_reckon rfl rfl ⟨(Nat.le_of_ble_eq_true rfl), (Nat.le_of_ble_eq_true rfl)⟩ jv1_2 jm_01 ko1_2 rfl rfl (Nat.le_of_ble_eq_true rfl) dX11_waited_17 (fun v5 M6 => ?_)
    refine j_aload_n (pc := 20) dX11_waited_20 rfl (q := 0) rfl ?_
    refine j_getr (pc := 21) jv1_0 jm_01 kf_RX11_24 0 kg1_0_1 rfl dX11_waited_21 ?_
    refine j_getr (pc := 24) jv1_2 jm_01 kf_RX11_230 0 kg1_2_3 rfl dX11_waited_24 ?_
    refine j_iload_n (pc := 27) dX11_waited_27 rfl (q := 1) rfl ?_
    refine j_aald (pc := 28) jv1_47 jm_01 (by decide) kr1_47 dX11_waited_28 (fun c7 => ?_)
    refine j_geti (pc := 29) jv1_9 (by omega) kf_RX11_251 kg1_9_12 dX11_waited_29 (fun h8 => ?_)
    exact j_iret (pc := 32) h8 rfl dX11_waited_32
abbrev rmX11_leads : Room := { frames := 7, cells := 0, slots := 0, locals := 178 }
set_option maxHeartbeats 4000000 in
set_option maxRecDepth 100000 in
theorem b0X11_leads_37 (X : jm_X) (fu : Nat) (k37 : jm_M → Int → Int → Int → jm_R) (hk37 : ∀ (M : jm_M) (l1 l2 l3 : Int) (hl1 : jm_in l1) (hl2 : jm_in l2) (hl3 : jm_in l3), jm_J wd1 (jm_qi .int) cX11_leads 5 RX11 rmX11_leads X M [(0, jm_vr wd1 X 0 0), (1, jm_i l1), (2, jm_i l2), (3, jm_i l3)] [] 37 (k37 M l1 l2 l3)) : ∀ (M : jm_M) (l1 l2 l3 : Int) (hl1 : jm_in l1) (hl2 : jm_in l2) (hl3 : jm_in l3), jm_J wd1 (jm_qi .int) cX11_leads 5 RX11 rmX11_leads X M [(0, jm_vr wd1 X 0 0), (1, jm_i l1), (2, jm_i l2), (3, jm_i l3)] [] 37 (gX11_leads_37 fu k37 M l1 l2 l3) := by
  intro M l1 l2 l3 hl1 hl2 hl3
  unfold gX11_leads_37
  refine j_iload_n (pc := 37) dX11_leads_37 rfl (q := 3) rfl ?_
  refine j_aload_n (pc := 38) dX11_leads_38 rfl (q := 0) rfl ?_
  refine j_getr (pc := 39) jv1_0 jm_01 kf_RX11_15 0 kg1_0_0 rfl dX11_leads_39 ?_
  refine j_geti (pc := 42) jv1_1 jm_01 kf_RX11_185 kg1_1_1 dX11_leads_42 (fun h1 => ?_)
  refine j_icmp_ge (tgt := 101) (pc := 45) hl3 h1 dX11_leads_45 (by decide) (fun c2 => ?_) (fun c2 => ?_)
  · skip
    refine j_iload_n (pc := 101) dX11_leads_101 rfl (q := 1) rfl ?_
    exact j_iret (pc := 102) hl1 rfl dX11_leads_102
  · skip
    refine j_aload_n (pc := 48) dX11_leads_48 rfl (q := 0) rfl ?_
    refine j_getr (pc := 49) jv1_0 jm_01 kf_RX11_24 0 kg1_0_1 rfl dX11_leads_49 ?_
    refine j_aload_n (pc := 52) dX11_leads_52 rfl (q := 0) rfl ?_
    refine j_getr (pc := 53) jv1_0 jm_01 kf_RX11_15 0 kg1_0_0 rfl dX11_leads_53 ?_
    refine j_iload_n (pc := 56) dX11_leads_56 rfl (q := 3) rfl ?_
    refine j_aload_n (pc := 57) dX11_leads_57 rfl (q := 0) rfl ?_
    refine j_getr (pc := 58) jv1_0 jm_01 kf_RX11_15 0 kg1_0_0 rfl dX11_leads_58 ?_
    refine j_geti (pc := 61) jv1_1 jm_01 kf_RX11_212 kg1_1_0 dX11_leads_61 (fun h3 => ?_)
    refine j_iconst (pc := 64) dX11_leads_64 ?_
    refine j_isub (pc := 65) dX11_leads_65 ?_
    refine j_callVi2 (pc := 66) (ct_X9_lineOf M l3 (jm_w ((M 1 0 0) - 1)) hl3 (jm_w_in _)) kg_1021 km_X9_lineOf kv_X9_lineOf rfl rfl ⟨(Nat.le_of_ble_eq_true rfl), (Nat.le_of_ble_eq_true rfl)⟩ jv1_1 jm_01 ko1_1 rfl rfl (Nat.le_of_ble_eq_true rfl) dX11_leads_66 (fun v4 M5 h6 => ?_)
    refine j_iconst (pc := 69) dX11_leads_69 ?_
    refine j_callVi2 (pc := 70) (ct_X2_inOrder fu M5 v4 0 h6 (jm_inL (by decide) (by decide))) kg_1027 km_X2_inOrder kv_X2_inOrder rfl rfl ⟨(Nat.le_of_ble_eq_true rfl), (Nat.le_of_ble_eq_true rfl)⟩ jv1_2 jm_01 ko1_2 rfl rfl (Nat.le_of_ble_eq_true rfl) dX11_leads_70 (fun v7 M8 h9 => ?_)
    refine j_istore (pc := 73) [(4, jm_i v7), (0, jm_vr wd1 X 0 0), (1, jm_i l1), (2, jm_i l2), (3, jm_i l3)] dX11_leads_73 (by decide) rfl ?_
    refine j_iload (pc := 75) dX11_leads_75 (q := 0) rfl ?_
    refine j_iconst (pc := 77) dX11_leads_77 ?_
    refine j_icmp_ne (tgt := 83) (pc := 78) h9 (jm_inL (by decide) (by decide)) dX11_leads_78 (by decide) (fun c10 => ?_) (fun c10 => ?_)
    · skip
      refine j_iload_n (pc := 81) dX11_leads_81 rfl (q := 2) rfl ?_
      exact j_iret (pc := 82) hl1 rfl dX11_leads_82
    · skip
      refine j_iload (pc := 83) dX11_leads_83 (q := 0) rfl ?_
      refine j_iload_n (pc := 85) dX11_leads_85 rfl (q := 3) rfl ?_
      refine j_icmp_eq (tgt := 92) (pc := 86) h9 hl2 dX11_leads_86 (by decide) (fun c11 => ?_) (fun c11 => ?_)
      · skip
        refine j_iload (pc := 92) dX11_leads_92 (q := 0) rfl ?_
        refine j_istore_n (pc := 94) [(2, jm_i v7), (4, jm_i v7), (0, jm_vr wd1 X 0 0), (1, jm_i l1), (3, jm_i l3)] dX11_leads_94 rfl (by decide) rfl ?_
        refine j_iinc (pc := 95) [(2, jm_i v7), (4, jm_i v7), (0, jm_vr wd1 X 0 0), (1, jm_i l1)] (q := 4) dX11_leads_95 rfl (by decide) (fun _ => rfl) (fun v12 h13 => ?_)
        refine j_goto (tgt := 37) (pc := 98) dX11_leads_98 (by decide) ?_
        refine j_sub (pc := 37) [(0, jm_vr wd1 X 0 0), (1, jm_i l1), (2, jm_i v7), (3, jm_i v12)] [3, 4, 1, 0] rfl ?_
        exact hk37 M8 l1 v7 v12 hl1 h9 h13
      · skip
        refine j_iinc (pc := 89) [(4, jm_i v7), (0, jm_vr wd1 X 0 0), (2, jm_i l2), (3, jm_i l3)] (q := 2) dX11_leads_89 rfl (by decide) (fun _ => rfl) (fun v14 h15 => ?_)
        refine j_iload (pc := 92) dX11_leads_92 (q := 1) rfl ?_
        refine j_istore_n (pc := 94) [(2, jm_i v7), (1, jm_i v14), (4, jm_i v7), (0, jm_vr wd1 X 0 0), (3, jm_i l3)] dX11_leads_94 rfl (by decide) rfl ?_
        refine j_iinc (pc := 95) [(2, jm_i v7), (1, jm_i v14), (4, jm_i v7), (0, jm_vr wd1 X 0 0)] (q := 4) dX11_leads_95 rfl (by decide) (fun _ => rfl) (fun v16 h17 => ?_)
        refine j_goto (tgt := 37) (pc := 98) dX11_leads_98 (by decide) ?_
        refine j_sub (pc := 37) [(0, jm_vr wd1 X 0 0), (1, jm_i v14), (2, jm_i v7), (3, jm_i v16)] [4, 2, 1, 0] rfl ?_
        exact hk37 M8 v14 v7 v16 h15 h9 h17
theorem bX11_leads_37 (X : jm_X) (fu : Nat) : ∀ (n : Nat) (M : jm_M) (l1 l2 l3 : Int) (hl1 : jm_in l1) (hl2 : jm_in l2) (hl3 : jm_in l3), jm_J wd1 (jm_qi .int) cX11_leads 5 RX11 rmX11_leads X M [(0, jm_vr wd1 X 0 0), (1, jm_i l1), (2, jm_i l2), (3, jm_i l3)] [] 37 (fX11_leads_37 fu n M l1 l2 l3) := by
  intro n
  induction n with
  | zero => intro M l1 l2 l3 hl1 hl2 hl3; exact j_none
  | succ n ih => intro M l1 l2 l3 hl1 hl2 hl3; exact b0X11_leads_37 X fu (fX11_leads_37 fu n) ih M l1 l2 l3 hl1 hl2 hl3
set_option maxHeartbeats 4000000 in
set_option maxRecDepth 100000 in
theorem ct_X11_leads (fu : Nat) (M : jm_M) : jm_Ci wd1 yX11_leads cX11_leads 5 (some .int) rmX11_leads M (fun G ad => [.ref (ad (jm_r wd1 0 0))]) (fX11_leads fu M ) := by
  refine jm_met_i (fun X => [(0, jm_vr wd1 X 0 0)]) (by decide) (fun _ _ => (Nat.le_of_ble_eq_true rfl)) (fun _ => rfl) (fun X => ?_)
  unfold fX11_leads
  refine j_aload_n (pc := 0) dX11_leads_0 rfl (q := 0) rfl ?_
  refine j_getr (pc := 1) jv1_0 jm_01 kf_RX11_24 0 kg1_0_1 rfl dX11_leads_1 ?_
  refine j_callVv0 (pc := 4) (ct_X2_reckon fu M ) kg_857 km_X2_reckon kv_X2_reckon rfl rfl ⟨(Nat.le_of_ble_eq_true rfl), (Nat.le_of_ble_eq_true rfl)⟩ jv1_2 jm_01 ko1_2 rfl rfl (Nat.le_of_ble_eq_true rfl) dX11_leads_4 (fun v1 M2 => ?_)
  refine j_iconst (pc := 7) dX11_leads_7 ?_
  refine j_istore_n (pc := 8) [(1, jm_i 0), (0, jm_vr wd1 X 0 0)] dX11_leads_8 rfl (by decide) rfl ?_
  refine j_aload_n (pc := 9) dX11_leads_9 rfl (q := 1) rfl ?_
  refine j_getr (pc := 10) jv1_0 jm_01 kf_RX11_24 0 kg1_0_1 rfl dX11_leads_10 ?_
  refine j_aload_n (pc := 13) dX11_leads_13 rfl (q := 1) rfl ?_
  refine j_getr (pc := 14) jv1_0 jm_01 kf_RX11_15 0 kg1_0_0 rfl dX11_leads_14 ?_
  refine j_iconst (pc := 17) dX11_leads_17 ?_
  refine j_aload_n (pc := 18) dX11_leads_18 rfl (q := 1) rfl ?_
  refine j_getr (pc := 19) jv1_0 jm_01 kf_RX11_15 0 kg1_0_0 rfl dX11_leads_19 ?_
  refine j_geti (pc := 22) jv1_1 jm_01 kf_RX11_212 kg1_1_0 dX11_leads_22 (fun h3 => ?_)
  refine j_iconst (pc := 25) dX11_leads_25 ?_
  refine j_isub (pc := 26) dX11_leads_26 ?_
  refine j_callVi2 (pc := 27) (ct_X9_lineOf M2 0 (jm_w ((M2 1 0 0) - 1)) (jm_inL (by decide) (by decide)) (jm_w_in _)) kg_1021 km_X9_lineOf kv_X9_lineOf rfl rfl ⟨(Nat.le_of_ble_eq_true rfl), (Nat.le_of_ble_eq_true rfl)⟩ jv1_1 jm_01 ko1_1 rfl rfl (Nat.le_of_ble_eq_true rfl) dX11_leads_27 (fun v4 M5 h6 => ?_)
  refine j_iconst (pc := 30) dX11_leads_30 ?_
  refine j_callVi2 (pc := 31) (ct_X2_inOrder fu M5 v4 0 h6 (jm_inL (by decide) (by decide))) kg_1027 km_X2_inOrder kv_X2_inOrder rfl rfl ⟨(Nat.le_of_ble_eq_true rfl), (Nat.le_of_ble_eq_true rfl)⟩ jv1_2 jm_01 ko1_2 rfl rfl (Nat.le_of_ble_eq_true rfl) dX11_leads_31 (fun v7 M8 h9 => ?_)
  refine j_istore_n (pc := 34) [(2, jm_i v7), (1, jm_i 0), (0, jm_vr wd1 X 0 0)] dX11_leads_34 rfl (by decide) rfl ?_
  refine j_iconst (pc := 35) dX11_leads_35 ?_
  refine j_istore_n (pc := 36) [(3, jm_i 1), (2, jm_i v7), (1, jm_i 0), (0, jm_vr wd1 X 0 0)] dX11_leads_36 rfl (by decide) rfl ?_
  refine j_sub (pc := 37) [(0, jm_vr wd1 X 0 0), (1, jm_i 0), (2, jm_i v7), (3, jm_i 1)] [3, 2, 1, 0] rfl ?_
  exact bX11_leads_37 X fu  fu M8 0 v7 1 (jm_inL (by decide) (by decide)) h9 (jm_inL (by decide) (by decide))
abbrev rmX11_sign : Room := { frames := 0, cells := 0, slots := 0, locals := 0 }
set_option maxHeartbeats 4000000 in
set_option maxRecDepth 100000 in
theorem b0X11_sign_16 (X : jm_X) (fu : Nat) (k16 : jm_M → Int → Int → jm_R) (hk16 : ∀ (M : jm_M) (l1 l2 : Int) (hl1 : jm_in l1) (hl2 : jm_in l2), jm_J wd1 (jm_qi .int) cX11_sign 3 RX11 rmX11_sign X M [(0, jm_vr wd1 X 0 0), (1, jm_i l1), (2, jm_i l2)] [] 16 (k16 M l1 l2)) : ∀ (M : jm_M) (l1 l2 : Int) (hl1 : jm_in l1) (hl2 : jm_in l2), jm_J wd1 (jm_qi .int) cX11_sign 3 RX11 rmX11_sign X M [(0, jm_vr wd1 X 0 0), (1, jm_i l1), (2, jm_i l2)] [] 16 (gX11_sign_16 fu k16 M l1 l2) := by
  intro M l1 l2 hl1 hl2
  unfold gX11_sign_16
  refine j_iload_n (pc := 16) dX11_sign_16 rfl (q := 2) rfl ?_
  refine j_if_lt (tgt := 52) (pc := 17) hl2 dX11_sign_17 (by decide) (fun c1 => ?_) (fun c1 => ?_)
  · skip
    refine j_aload_n (pc := 52) dX11_sign_52 rfl (q := 0) rfl ?_
    refine j_geti (pc := 53) jv1_0 jm_01 kf_RX11_218 kg1_0_7 dX11_sign_53 (fun h2 => ?_)
    exact j_iret (pc := 56) h2 rfl dX11_sign_56
  · skip
    refine j_aload_n (pc := 20) dX11_sign_20 rfl (q := 0) rfl ?_
    refine j_getr (pc := 21) jv1_0 jm_01 kf_RX11_62 0 kg1_0_6 rfl dX11_sign_21 ?_
    refine j_aload_n (pc := 24) dX11_sign_24 rfl (q := 0) rfl ?_
    refine j_geti (pc := 25) jv1_0 jm_01 kf_RX11_218 kg1_0_7 dX11_sign_25 (fun h3 => ?_)
    refine j_iload_n (pc := 28) dX11_sign_28 rfl (q := 1) rfl ?_
    refine j_iload_n (pc := 29) dX11_sign_29 rfl (q := 2) rfl ?_
    refine j_iushr (pc := 30) dX11_sign_30 ?_
    refine j_sipush (pc := 31) 255 dX11_sign_31 (by decide) ?_
    refine j_iand (pc := 34) dX11_sign_34 ?_
    refine j_iast (pc := 35) jv1_12 jm_01 rfl (by decide) wI1 ka1_12 (jm_and_in _ _) dX11_sign_35 (fun c4 M5 => ?_)
    refine j_aload_n (pc := 36) dX11_sign_36 rfl (q := 0) rfl ?_
    refine j_dup (pc := 37) dX11_sign_37 rfl ?_
    refine j_geti (pc := 38) jv1_0 jm_01 kf_RX11_218 kg1_0_7 dX11_sign_38 (fun h6 => ?_)
    refine j_iconst (pc := 41) dX11_sign_41 ?_
    refine j_iadd (pc := 42) dX11_sign_42 ?_
    refine j_put (pc := 43) jv1_0 jm_01 kf_RX11_218 wI1 kp_X11_7 kx1_0_7 (jm_w_in _) rfl rfl dX11_sign_43 (fun M7 => ?_)
    refine j_iinc (pc := 46) [(0, jm_vr wd1 X 0 0), (1, jm_i l1)] (q := 2) dX11_sign_46 rfl (by decide) (fun _ => rfl) (fun v8 h9 => ?_)
    refine j_goto (tgt := 16) (pc := 49) dX11_sign_49 (by decide) ?_
    refine j_sub (pc := 16) [(0, jm_vr wd1 X 0 0), (1, jm_i l1), (2, jm_i v8)] [1, 2, 0] rfl ?_
    exact hk16 M7 l1 v8 hl1 h9
theorem bX11_sign_16 (X : jm_X) (fu : Nat) : ∀ (n : Nat) (M : jm_M) (l1 l2 : Int) (hl1 : jm_in l1) (hl2 : jm_in l2), jm_J wd1 (jm_qi .int) cX11_sign 3 RX11 rmX11_sign X M [(0, jm_vr wd1 X 0 0), (1, jm_i l1), (2, jm_i l2)] [] 16 (fX11_sign_16 fu n M l1 l2) := by
  intro n
  induction n with
  | zero => intro M l1 l2 hl1 hl2; exact j_none
  | succ n ih => intro M l1 l2 hl1 hl2; exact b0X11_sign_16 X fu (fX11_sign_16 fu n) ih M l1 l2 hl1 hl2
set_option maxHeartbeats 4000000 in
set_option maxRecDepth 100000 in
theorem ct_X11_sign (fu : Nat) (M : jm_M) (l1 : Int) (hl1 : jm_in l1) : jm_Ci wd1 yX11_sign cX11_sign 3 (some .int) rmX11_sign M (fun G ad => [.ref (ad (jm_r wd1 0 0)), jm_i l1]) (fX11_sign fu M l1) := by
  refine jm_met_i (fun X => [(0, jm_vr wd1 X 0 0), (1, jm_i l1)]) (by decide) (fun _ _ => (Nat.le_of_ble_eq_true rfl)) (fun _ => rfl) (fun X => ?_)
  unfold fX11_sign
  refine j_aload_n (pc := 0) dX11_sign_0 rfl (q := 0) rfl ?_
  refine j_geti (pc := 1) jv1_0 jm_01 kf_RX11_218 kg1_0_7 dX11_sign_1 (fun h1 => ?_)
  refine j_iconst (pc := 4) dX11_sign_4 ?_
  refine j_iadd (pc := 5) dX11_sign_5 ?_
  refine j_bipush (pc := 6) 100 dX11_sign_6 (by decide) ?_
  refine j_icmp_le (tgt := 13) (pc := 8) (jm_w_in _) (jm_inL (by decide) (by decide)) dX11_sign_8 (by decide) (fun c2 => ?_) (fun c2 => ?_)
  · skip
    refine j_bipush (pc := 13) 24 dX11_sign_13 (by decide) ?_
    refine j_istore_n (pc := 15) [(2, jm_i 24), (0, jm_vr wd1 X 0 0), (1, jm_i l1)] dX11_sign_15 rfl (by decide) rfl ?_
    refine j_sub (pc := 16) [(0, jm_vr wd1 X 0 0), (1, jm_i l1), (2, jm_i 24)] [1, 2, 0] rfl ?_
    exact bX11_sign_16 X fu  fu M l1 24 hl1 (jm_inL (by decide) (by decide))
  · skip
    refine j_iconst (pc := 11) dX11_sign_11 ?_
    exact j_iret (pc := 12) (jm_inL (by decide) (by decide)) rfl dX11_sign_12
abbrev rmX11_end : Room := { frames := 0, cells := 0, slots := 0, locals := 0 }
set_option maxHeartbeats 4000000 in
set_option maxRecDepth 100000 in
theorem ct_X11_end (M : jm_M) (l1 : Int) (hl1 : jm_in l1) : jm_Ci wd1 yX11_end cX11_end 2 (some .boolean) rmX11_end M (fun G ad => [.ref (ad (jm_r wd1 0 0)), jm_i l1]) (fX11_end M l1) := by
  refine jm_met_i (fun X => [(0, jm_vr wd1 X 0 0), (1, jm_i l1)]) (by decide) (fun _ _ => (Nat.le_of_ble_eq_true rfl)) (fun _ => rfl) (fun X => ?_)
  unfold fX11_end
  refine j_iload_n (pc := 0) dX11_end_0 rfl (q := 1) rfl ?_
  refine j_if_lt (tgt := 12) (pc := 1) hl1 dX11_end_1 (by decide) (fun c1 => ?_) (fun c1 => ?_)
  · skip
    refine j_iconst (pc := 12) dX11_end_12 ?_
    exact j_iret (pc := 13) (jm_inL (by decide) (by decide)) rfl dX11_end_13
  · skip
    refine j_iload_n (pc := 4) dX11_end_4 rfl (q := 1) rfl ?_
    refine j_aload_n (pc := 5) dX11_end_5 rfl (q := 0) rfl ?_
    refine j_geti (pc := 6) jv1_0 jm_01 kf_RX11_218 kg1_0_7 dX11_end_6 (fun h2 => ?_)
    refine j_icmp_le (tgt := 14) (pc := 9) hl1 h2 dX11_end_9 (by decide) (fun c3 => ?_) (fun c3 => ?_)
    · skip
      refine j_aload_n (pc := 14) dX11_end_14 rfl (q := 0) rfl ?_
      refine j_iload_n (pc := 15) dX11_end_15 rfl (q := 1) rfl ?_
      refine j_put (pc := 16) jv1_0 jm_01 kf_RX11_218 wI1 kp_X11_7 kx1_0_7 hl1 rfl rfl dX11_end_16 (fun M4 => ?_)
      refine j_iconst (pc := 19) dX11_end_19 ?_
      exact j_iret (pc := 20) (jm_inL (by decide) (by decide)) rfl dX11_end_20
    · skip
      refine j_iconst (pc := 12) dX11_end_12 ?_
      exact j_iret (pc := 13) (jm_inL (by decide) (by decide)) rfl dX11_end_13
abbrev rmX11_isDay : Room := { frames := 1, cells := 0, slots := 0, locals := 22 }
set_option maxHeartbeats 4000000 in
set_option maxRecDepth 100000 in
theorem ct_X11_isDay (M : jm_M) (l0 : Int) (hl0 : jm_in l0) : jm_Ci wd1 yX11_isDay cX11_isDay 1 (some .boolean) rmX11_isDay M (fun G ad => [jm_i l0]) (fX11_isDay M l0) := by
  refine jm_met_i (fun X => [(0, jm_i l0)]) (by decide) (fun _ _ => (Nat.le_of_ble_eq_true rfl)) (fun _ => rfl) (fun X => ?_)
  unfold fX11_isDay
  refine j_iload_n (pc := 0) dX11_isDay_0 rfl (q := 0) rfl ?_
  refine j_iconst (pc := 1) dX11_isDay_1 ?_
  refine j_bipush (pc := 2) 99 dX11_isDay_2 (by decide) ?_
  refine j_callSi3 (pc := 4) (ct_X11_isWithin M l0 0 99 hl0 (jm_inL (by decide) (by decide)) (jm_inL (by decide) (by decide))) kg_565 km_X11_isWithin kg_566 rfl rfl ⟨(Nat.le_of_ble_eq_true rfl), (Nat.le_of_ble_eq_true rfl)⟩ rfl rfl (Nat.le_of_ble_eq_true rfl) dX11_isDay_4 (fun v1 M2 h3 => ?_)
  exact j_zret (pc := 7) h3 dX11_isDay_7
abbrev rmX0_takeRule : Room := { frames := 1, cells := 0, slots := 0, locals := 21 }
set_option maxHeartbeats 4000000 in
set_option maxRecDepth 100000 in
theorem ct_X0_takeRule (M : jm_M) (r1 l2 : Int) (gr1 : 0 ≤ r1 ∧ r1 < 17) (hl2 : jm_in l2) : jm_Cr 11 17 wd1 yX0_takeRule cX0_takeRule 4 (some (.object "RaceByLaps$Text")) rmX0_takeRule M (fun G ad => [.ref (ad (jm_r wd1 3 0)), .ref (ad (jm_r wd1 11 r1)), jm_i l2]) (fX0_takeRule M r1 l2) := by
  refine jm_met_r (fun X => [(0, jm_vr wd1 X 3 0), (1, jm_vr wd1 X 11 r1), (2, jm_i l2)]) (by decide) (fun _ _ => (Nat.le_of_ble_eq_true rfl)) (fun _ => rfl) (fun X => ?_)
  unfold fX0_takeRule
  refine j_aload_n (pc := 0) dX0_takeRule_0 rfl (q := 0) rfl ?_
  refine j_geti (pc := 1) jv1_3 jm_01 kf_RX0_35 kg1_3_3 dX0_takeRule_1 (fun h1 => ?_)
  refine j_bipush (pc := 4) 10 dX0_takeRule_4 (by decide) ?_
  refine j_callNi2 (pc := 6) (ct_X11_isIndex M (M 3 0 3) 10 h1 (jm_inL (by decide) (by decide))) (host := "RaceByLaps") (by decide) km_X11_isIndex kg_562 rfl rfl ⟨(Nat.le_of_ble_eq_true rfl), (Nat.le_of_ble_eq_true rfl)⟩ rfl rfl (Nat.le_of_ble_eq_true rfl) dX0_takeRule_6 (fun v2 M3 h4 => ?_)
  refine j_if_ne (tgt := 14) (pc := 9) h4 dX0_takeRule_9 (by decide) (fun c5 => ?_) (fun c5 => ?_)
  · skip
    refine j_aload_n (pc := 12) dX0_takeRule_12 rfl (q := 1) rfl ?_
    exact j_aret (pc := 13) gr1 dX0_takeRule_13
  · skip
    refine j_aload_n (pc := 14) dX0_takeRule_14 rfl (q := 0) rfl ?_
    refine j_getr (pc := 15) jv1_3 jm_01 kf_RX0_17 0 kg1_3_1 rfl dX0_takeRule_15 ?_
    refine j_aload_n (pc := 18) dX0_takeRule_18 rfl (q := 0) rfl ?_
    refine j_geti (pc := 19) jv1_3 jm_01 kf_RX0_35 kg1_3_3 dX0_takeRule_19 (fun h6 => ?_)
    refine j_aaldt (pc := 22) jv1_48 jm_01 (by decide) kq1_48 dX0_takeRule_22 (fun c7 c8 => ?_)
    refine j_astore_n (pc := 23) [(3, jm_vr wd1 X 11 (M3 48 0 (M3 3 0 3))), (0, jm_vr wd1 X 3 0), (1, jm_vr wd1 X 11 r1), (2, jm_i l2)] dX0_takeRule_23 rfl (by decide) rfl ?_
    refine j_aload_n (pc := 24) dX0_takeRule_24 rfl (q := 1) rfl ?_
    refine j_getr (pc := 25) jv1_3 jm_01 kf_RX0_17 0 kg1_3_1 rfl dX0_takeRule_25 ?_
    refine j_aload_n (pc := 28) dX0_takeRule_28 rfl (q := 1) rfl ?_
    refine j_geti (pc := 29) jv1_3 jm_01 kf_RX0_35 kg1_3_3 dX0_takeRule_29 (fun h9 => ?_)
    refine j_aload_n (pc := 32) dX0_takeRule_32 rfl (q := 2) rfl ?_
    refine j_aastt (pc := 33) jv1_48 jm_01 (by decide) wI1 kq1_48 jv1_11 gr1 (by decide) ko1_11 dX0_takeRule_33 (fun c10 M11 => ?_)
    refine j_aload_n (pc := 34) dX0_takeRule_34 rfl (q := 1) rfl ?_
    refine j_getr (pc := 35) jv1_3 jm_01 kf_RX0_21 0 kg1_3_2 rfl dX0_takeRule_35 ?_
    refine j_aload_n (pc := 38) dX0_takeRule_38 rfl (q := 1) rfl ?_
    refine j_geti (pc := 39) jv1_3 jm_01 kf_RX0_35 kg1_3_3 dX0_takeRule_39 (fun h12 => ?_)
    refine j_iload_n (pc := 42) dX0_takeRule_42 rfl (q := 3) rfl ?_
    refine j_iast (pc := 43) jv1_35 jm_01 rfl (by decide) wI1 ka1_35 hl2 dX0_takeRule_43 (fun c13 M14 => ?_)
    refine j_aload_n (pc := 44) dX0_takeRule_44 rfl (q := 1) rfl ?_
    refine j_dup (pc := 45) dX0_takeRule_45 rfl ?_
    refine j_geti (pc := 46) jv1_3 jm_01 kf_RX0_35 kg1_3_3 dX0_takeRule_46 (fun h15 => ?_)
    refine j_iconst (pc := 49) dX0_takeRule_49 ?_
    refine j_iadd (pc := 50) dX0_takeRule_50 ?_
    refine j_put (pc := 51) jv1_3 jm_01 kf_RX0_35 wI1 kp_X0_3 kx1_3_3 (jm_w_in _) rfl rfl dX0_takeRule_51 (fun M16 => ?_)
    refine j_aload_n (pc := 54) dX0_takeRule_54 rfl (q := 0) rfl ?_
    exact j_aret (pc := 55) (by omega) dX0_takeRule_55
abbrev rmX11_rule : Room := { frames := 13, cells := 0, slots := 0, locals := 510 }
set_option maxHeartbeats 4000000 in
set_option maxRecDepth 100000 in
theorem ct_X11_rule (fu : Nat) (M : jm_M) (l1 : Int) (hl1 : jm_in l1) : jm_Ci wd1 yX11_rule cX11_rule 4 (some .int) rmX11_rule M (fun G ad => [.ref (ad (jm_r wd1 0 0)), jm_i l1]) (fX11_rule fu M l1) := by
  refine jm_met_i (fun X => [(0, jm_vr wd1 X 0 0), (1, jm_i l1)]) (by decide) (fun _ _ => (Nat.le_of_ble_eq_true rfl)) (fun _ => rfl) (fun X => ?_)
  unfold fX11_rule
  refine j_aload_n (pc := 0) dX11_rule_0 rfl (q := 0) rfl ?_
  refine j_callVi0 (pc := 1) (ct_X11_takeTape M ) kg_649 km_X11_takeTape kv_X11_takeTape rfl rfl ⟨(Nat.le_of_ble_eq_true rfl), (Nat.le_of_ble_eq_true rfl)⟩ jv1_0 jm_01 ko1_0 rfl rfl (Nat.le_of_ble_eq_true rfl) dX11_rule_1 (fun v1 M2 h3 => ?_)
  refine j_istore_n (pc := 4) [(2, jm_i v1), (0, jm_vr wd1 X 0 0), (1, jm_i l1)] dX11_rule_4 rfl (by decide) rfl ?_
  refine j_iload_n (pc := 5) dX11_rule_5 rfl (q := 2) rfl ?_
  refine j_callSi1 (pc := 6) (ct_X11_isDay M2 l1 hl1) kg_1055 km_X11_isDay kg_1056 rfl rfl ⟨(Nat.le_of_ble_eq_true rfl), (Nat.le_of_ble_eq_true rfl)⟩ rfl rfl (Nat.le_of_ble_eq_true rfl) dX11_rule_6 (fun v4 M5 h6 => ?_)
  refine j_if_eq (tgt := 27) (pc := 9) h6 dX11_rule_9 (by decide) (fun c7 => ?_) (fun c7 => ?_)
  · skip
    refine j_bipush (pc := 27) (-100) dX11_rule_27 (by decide) ?_
    exact j_iret (pc := 29) (jm_inL (by decide) (by decide)) rfl dX11_rule_29
  · skip
    refine j_aload_n (pc := 12) dX11_rule_12 rfl (q := 1) rfl ?_
    refine j_getr (pc := 13) jv1_0 jm_01 kf_RX11_33 0 kg1_0_2 rfl dX11_rule_13 ?_
    refine j_geti (pc := 16) jv1_3 jm_01 kf_RX11_88 kg1_3_3 dX11_rule_16 (fun h8 => ?_)
    refine j_bipush (pc := 19) 10 dX11_rule_19 (by decide) ?_
    refine j_callSi2 (pc := 21) (ct_X11_isIndex M5 (M5 3 0 3) 10 h8 (jm_inL (by decide) (by decide))) kg_572 km_X11_isIndex kg_562 rfl rfl ⟨(Nat.le_of_ble_eq_true rfl), (Nat.le_of_ble_eq_true rfl)⟩ rfl rfl (Nat.le_of_ble_eq_true rfl) dX11_rule_21 (fun v9 M10 h11 => ?_)
    refine j_if_ne (tgt := 30) (pc := 24) h11 dX11_rule_24 (by decide) (fun c12 => ?_) (fun c12 => ?_)
    · skip
      refine j_bipush (pc := 27) (-100) dX11_rule_27 (by decide) ?_
      exact j_iret (pc := 29) (jm_inL (by decide) (by decide)) rfl dX11_rule_29
    · skip
      refine j_aload_n (pc := 30) dX11_rule_30 rfl (q := 1) rfl ?_
      refine j_getr (pc := 31) jv1_0 jm_01 kf_RX11_58 0 kg1_0_5 rfl dX11_rule_31 ?_
      refine j_aload_n (pc := 34) dX11_rule_34 rfl (q := 1) rfl ?_
      refine j_getr (pc := 35) jv1_0 jm_01 kf_RX11_62 0 kg1_0_6 rfl dX11_rule_35 ?_
      refine j_iload_n (pc := 38) dX11_rule_38 rfl (q := 0) rfl ?_
      refine j_aload_n (pc := 39) dX11_rule_39 rfl (q := 1) rfl ?_
      refine j_gett (pc := 40) jv1_0 jm_01 kf_RX11_72 kg1_0_10 dX11_rule_40 (fun c13 => ?_)
      refine j_iconst (pc := 43) dX11_rule_43 ?_
      refine j_callVi4 (pc := 44) (ct_X3_firstWrong_a12 fu M10 v1 (M10 0 0 10) 0 h3 (by omega) (jm_inL (by decide) (by decide))) kg_653 km_X3_firstWrong kv_X3_firstWrong rfl rfl ⟨(Nat.le_of_ble_eq_true rfl), (Nat.le_of_ble_eq_true rfl)⟩ jv1_6 jm_01 ko1_6 rfl rfl (Nat.le_of_ble_eq_true rfl) dX11_rule_44 (fun v14 M15 h16 => ?_)
      refine j_istore_n (pc := 47) [(3, jm_i v14), (2, jm_i v1), (0, jm_vr wd1 X 0 0), (1, jm_i l1)] dX11_rule_47 rfl (by decide) rfl ?_
      refine j_iload_n (pc := 48) dX11_rule_48 rfl (q := 0) rfl ?_
      refine j_iconst (pc := 49) dX11_rule_49 ?_
      refine j_icmp_eq (tgt := 57) (pc := 50) h16 (jm_inL (by decide) (by decide)) dX11_rule_50 (by decide) (fun c17 => ?_) (fun c17 => ?_)
      · skip
        refine j_aload_n (pc := 57) dX11_rule_57 rfl (q := 2) rfl ?_
        refine j_aload_n (pc := 58) dX11_rule_58 rfl (q := 2) rfl ?_
        refine j_getr (pc := 59) jv1_0 jm_01 kf_RX11_33 0 kg1_0_2 rfl dX11_rule_59 ?_
        refine j_aload_n (pc := 62) dX11_rule_62 rfl (q := 2) rfl ?_
        refine j_gett (pc := 63) jv1_0 jm_01 kf_RX11_72 kg1_0_10 dX11_rule_63 (fun c18 => ?_)
        refine j_iload_n (pc := 66) dX11_rule_66 rfl (q := 3) rfl ?_
        refine j_callVr2 (pc := 67) (ct_X0_takeRule M15 (M15 0 0 10) l1 (by omega) hl1) kg_1058 km_X0_takeRule kv_X0_takeRule rfl rfl ⟨(Nat.le_of_ble_eq_true rfl), (Nat.le_of_ble_eq_true rfl)⟩ jv1_3 jm_01 ko1_3 rfl rfl (Nat.le_of_ble_eq_true rfl) dX11_rule_67 (fun v19 M20 gr21 => ?_)
        refine j_putt (c2 := 17) (pc := 70) jv1_0 jm_01 kf_RX11_72 wI1 kp_X11_10 kx1_0_10 gr21 (by decide) (fun _ => rfl) (fun _ => rfl) dX11_rule_70 (fun M22 => ?_)
        refine j_aload_n (pc := 73) dX11_rule_73 rfl (q := 2) rfl ?_
        refine j_getr (pc := 74) jv1_0 jm_01 kf_RX11_33 0 kg1_0_2 rfl dX11_rule_74 ?_
        refine j_geti (pc := 77) jv1_3 jm_01 kf_RX11_88 kg1_3_3 dX11_rule_77 (fun h23 => ?_)
        exact j_iret (pc := 80) h23 rfl dX11_rule_80
      · skip
        refine j_iconst (pc := 53) dX11_rule_53 ?_
        refine j_iload_n (pc := 54) dX11_rule_54 rfl (q := 0) rfl ?_
        refine j_isub (pc := 55) dX11_rule_55 ?_
        exact j_iret (pc := 56) (jm_w_in _) rfl dX11_rule_56
abbrev rmX11_finding : Room := { frames := 2, cells := 0, slots := 0, locals := 47 }
set_option maxHeartbeats 4000000 in
set_option maxRecDepth 100000 in
theorem bX11_finding_55 (X : jm_X) (fu : Nat) : ∀ (M : jm_M) (l1 l2 l3 l4 s0 : Int) (hl1 : jm_in l1) (hl2 : jm_in l2) (hl3 : jm_in l3) (hl4 : jm_in l4) (hs0 : jm_in s0), jm_J wd1 (jm_qi .int) cX11_finding 6 RX11 rmX11_finding X M [(0, jm_vr wd1 X 0 0), (1, jm_i l1), (2, jm_i l2), (3, jm_i l3), (4, jm_i l4)] [jm_i s0] 55 (gX11_finding_55 fu M l1 l2 l3 l4 s0) := by
  intro M l1 l2 l3 l4 s0 hl1 hl2 hl3 hl4 hs0
  unfold gX11_finding_55
  refine j_istore (pc := 55) [(5, jm_i s0), (0, jm_vr wd1 X 0 0), (1, jm_i l1), (2, jm_i l2), (3, jm_i l3), (4, jm_i l4)] dX11_finding_55 (by decide) rfl ?_
  refine j_iload (pc := 57) dX11_finding_57 (q := 0) rfl ?_
  refine j_if_ne (tgt := 64) (pc := 59) hs0 dX11_finding_59 (by decide) (fun c1 => ?_) (fun c1 => ?_)
  · skip
    refine j_iconst (pc := 62) dX11_finding_62 ?_
    exact j_iret (pc := 63) (jm_inL (by decide) (by decide)) rfl dX11_finding_63
  · skip
    refine j_aload_n (pc := 64) dX11_finding_64 rfl (q := 1) rfl ?_
    refine j_getr (pc := 65) jv1_0 jm_01 kf_RX11_33 0 kg1_0_2 rfl dX11_finding_65 ?_
    refine j_getr (pc := 68) jv1_3 jm_01 kf_RX11_91 32 kg1_3_4 rfl dX11_finding_68 ?_
    refine j_iload_n (pc := 71) dX11_finding_71 rfl (q := 2) rfl ?_
    refine j_iload_n (pc := 72) dX11_finding_72 rfl (q := 3) rfl ?_
    refine j_iload_n (pc := 73) dX11_finding_73 rfl (q := 4) rfl ?_
    refine j_iload (pc := 74) dX11_finding_74 (q := 5) rfl ?_
    refine j_callVi4 (pc := 76) (ct_X7_push M 32 l1 l2 l3 l4 (by omega) hl1 hl2 hl3 hl4) kg_591 km_X7_push kv_X7_push rfl rfl ⟨(Nat.le_of_ble_eq_true rfl), (Nat.le_of_ble_eq_true rfl)⟩ jv1_10 (by omega) ko1_10 rfl rfl (Nat.le_of_ble_eq_true rfl) dX11_finding_76 (fun v2 M3 h4 => ?_)
    exact j_iret (pc := 79) h4 rfl dX11_finding_79
set_option maxHeartbeats 4000000 in
set_option maxRecDepth 100000 in
theorem ct_X11_finding (fu : Nat) (M : jm_M) (l1 l2 l3 l4 : Int) (hl1 : jm_in l1) (hl2 : jm_in l2) (hl3 : jm_in l3) (hl4 : jm_in l4) : jm_Ci wd1 yX11_finding cX11_finding 6 (some .int) rmX11_finding M (fun G ad => [.ref (ad (jm_r wd1 0 0)), jm_i l1, jm_i l2, jm_i l3, jm_i l4]) (fX11_finding fu M l1 l2 l3 l4) := by
  refine jm_met_i (fun X => [(0, jm_vr wd1 X 0 0), (1, jm_i l1), (2, jm_i l2), (3, jm_i l3), (4, jm_i l4)]) (by decide) (fun _ _ => (Nat.le_of_ble_eq_true rfl)) (fun _ => rfl) (fun X => ?_)
  unfold fX11_finding
  refine j_iload_n (pc := 0) dX11_finding_0 rfl (q := 1) rfl ?_
  refine j_callSi1 (pc := 1) (ct_X11_isDay M l1 hl1) kg_1055 km_X11_isDay kg_1056 rfl rfl ⟨(Nat.le_of_ble_eq_true rfl), (Nat.le_of_ble_eq_true rfl)⟩ rfl rfl (Nat.le_of_ble_eq_true rfl) dX11_finding_1 (fun v1 M2 h3 => ?_)
  refine j_if_eq (tgt := 27) (pc := 4) h3 dX11_finding_4 (by decide) (fun c4 => ?_) (fun c4 => ?_)
  · skip
    refine j_iconst (pc := 27) dX11_finding_27 ?_
    exact j_iret (pc := 28) (jm_inL (by decide) (by decide)) rfl dX11_finding_28
  · skip
    refine j_aload_n (pc := 7) dX11_finding_7 rfl (q := 0) rfl ?_
    refine j_getr (pc := 8) jv1_0 jm_01 kf_RX11_24 0 kg1_0_1 rfl dX11_finding_8 ?_
    refine j_iload_n (pc := 11) dX11_finding_11 rfl (q := 2) rfl ?_
    refine j_callVi1 (pc := 12) (ct_X2_has M2 l2 hl2) kg_619 km_X2_has kv_X2_has rfl rfl ⟨(Nat.le_of_ble_eq_true rfl), (Nat.le_of_ble_eq_true rfl)⟩ jv1_2 jm_01 ko1_2 rfl rfl (Nat.le_of_ble_eq_true rfl) dX11_finding_12 (fun v5 M6 h7 => ?_)
    refine j_if_eq (tgt := 27) (pc := 15) h7 dX11_finding_15 (by decide) (fun c8 => ?_) (fun c8 => ?_)
    · skip
      refine j_iconst (pc := 27) dX11_finding_27 ?_
      exact j_iret (pc := 28) (jm_inL (by decide) (by decide)) rfl dX11_finding_28
    · skip
      refine j_iload_n (pc := 18) dX11_finding_18 rfl (q := 3) rfl ?_
      refine j_iconst (pc := 19) dX11_finding_19 ?_
      refine j_iconst (pc := 20) dX11_finding_20 ?_
      refine j_callSi3 (pc := 21) (ct_X11_isWithin M6 l3 0 1 hl3 (jm_inL (by decide) (by decide)) (jm_inL (by decide) (by decide))) kg_565 km_X11_isWithin kg_566 rfl rfl ⟨(Nat.le_of_ble_eq_true rfl), (Nat.le_of_ble_eq_true rfl)⟩ rfl rfl (Nat.le_of_ble_eq_true rfl) dX11_finding_21 (fun v9 M10 h11 => ?_)
      refine j_if_ne (tgt := 29) (pc := 24) h11 dX11_finding_24 (by decide) (fun c12 => ?_) (fun c12 => ?_)
      · skip
        refine j_iconst (pc := 27) dX11_finding_27 ?_
        exact j_iret (pc := 28) (jm_inL (by decide) (by decide)) rfl dX11_finding_28
      · skip
        refine j_iload_n (pc := 29) dX11_finding_29 rfl (q := 3) rfl ?_
        refine j_if_ne (tgt := 45) (pc := 30) hl3 dX11_finding_30 (by decide) (fun c13 => ?_) (fun c13 => ?_)
        · skip
          refine j_iload (pc := 33) dX11_finding_33 (q := 4) rfl ?_
          refine j_iconst (pc := 35) dX11_finding_35 ?_
          refine j_sipush (pc := 36) 999 dX11_finding_36 (by decide) ?_
          refine j_callSi3 (pc := 39) (ct_X11_isWithin M10 l4 0 999 hl4 (jm_inL (by decide) (by decide)) (jm_inL (by decide) (by decide))) kg_565 km_X11_isWithin kg_566 rfl rfl ⟨(Nat.le_of_ble_eq_true rfl), (Nat.le_of_ble_eq_true rfl)⟩ rfl rfl (Nat.le_of_ble_eq_true rfl) dX11_finding_39 (fun v14 M15 h16 => ?_)
          refine j_goto (tgt := 55) (pc := 42) dX11_finding_42 (by decide) ?_
          refine j_sub (pc := 55) [(0, jm_vr wd1 X 0 0), (1, jm_i l1), (2, jm_i l2), (3, jm_i l3), (4, jm_i l4)] [0, 1, 2, 3, 4] rfl ?_
          exact bX11_finding_55 X fu  M15 l1 l2 l3 l4 v14 hl1 hl2 hl3 hl4 h16
        · skip
          refine j_iload (pc := 45) dX11_finding_45 (q := 4) rfl ?_
          refine j_ldcw (pc := 47) (-60000) kg_1067 (by decide) dX11_finding_47 ?_
          refine j_ldc (pc := 50) 60000 kg_564 (by decide) dX11_finding_50 ?_
          refine j_callSi3 (pc := 52) (ct_X11_isWithin M10 l4 (-60000) 60000 hl4 (jm_inL (by decide) (by decide)) (jm_inL (by decide) (by decide))) kg_565 km_X11_isWithin kg_566 rfl rfl ⟨(Nat.le_of_ble_eq_true rfl), (Nat.le_of_ble_eq_true rfl)⟩ rfl rfl (Nat.le_of_ble_eq_true rfl) dX11_finding_52 (fun v17 M18 h19 => ?_)
          refine j_sub (pc := 55) [(0, jm_vr wd1 X 0 0), (1, jm_i l1), (2, jm_i l2), (3, jm_i l3), (4, jm_i l4)] [0, 1, 2, 3, 4] rfl ?_
          exact bX11_finding_55 X fu  M18 l1 l2 l3 l4 v17 hl1 hl2 hl3 hl4 h19
abbrev rmX2_lapsEnded : Room := { frames := 2, cells := 0, slots := 0, locals := 42 }
set_option maxHeartbeats 4000000 in
set_option maxRecDepth 100000 in
theorem ct_X2_lapsEnded (M : jm_M) (l1 : Int) (hl1 : jm_in l1) : jm_Ci wd1 yX2_lapsEnded cX2_lapsEnded 2 (some .int) rmX2_lapsEnded M (fun G ad => [.ref (ad (jm_r wd1 2 0)), jm_i l1]) (fX2_lapsEnded M l1) := by
  refine jm_met_i (fun X => [(0, jm_vr wd1 X 2 0), (1, jm_i l1)]) (by decide) (fun _ _ => (Nat.le_of_ble_eq_true rfl)) (fun _ => rfl) (fun X => ?_)
  unfold fX2_lapsEnded
  refine j_aload_n (pc := 0) dX2_lapsEnded_0 rfl (q := 0) rfl ?_
  refine j_iload_n (pc := 1) dX2_lapsEnded_1 rfl (q := 1) rfl ?_
  refine j_callVi1 (pc := 2) (ct_X2_has M l1 hl1) kg_881 km_X2_has kv_X2_has rfl rfl ⟨(Nat.le_of_ble_eq_true rfl), (Nat.le_of_ble_eq_true rfl)⟩ jv1_2 jm_01 ko1_2 rfl rfl (Nat.le_of_ble_eq_true rfl) dX2_lapsEnded_2 (fun v1 M2 h3 => ?_)
  refine j_if_eq (tgt := 27) (pc := 5) h3 dX2_lapsEnded_5 (by decide) (fun c4 => ?_) (fun c4 => ?_)
  · skip
    refine j_iconst (pc := 27) dX2_lapsEnded_27 ?_
    exact j_iret (pc := 28) (jm_inL (by decide) (by decide)) rfl dX2_lapsEnded_28
  · skip
    refine j_aload_n (pc := 8) dX2_lapsEnded_8 rfl (q := 0) rfl ?_
    refine j_getr (pc := 9) jv1_2 jm_01 kf_RX2_9 0 kg1_2_0 rfl dX2_lapsEnded_9 ?_
    refine j_aload_n (pc := 12) dX2_lapsEnded_12 rfl (q := 0) rfl ?_
    refine j_getr (pc := 13) jv1_2 jm_01 kf_RX2_27 0 kg1_2_3 rfl dX2_lapsEnded_13 ?_
    refine j_iload_n (pc := 16) dX2_lapsEnded_16 rfl (q := 1) rfl ?_
    refine j_aald (pc := 17) jv1_47 jm_01 (by decide) kr1_47 dX2_lapsEnded_17 (fun c5 => ?_)
    refine j_geti (pc := 18) jv1_9 (by omega) kf_RX2_275 kg1_9_2 dX2_lapsEnded_18 (fun h6 => ?_)
    refine j_callVi1 (pc := 21) (ct_X9_lapOf M2 (M2 9 l1 2) h6) kg_950 km_X9_lapOf kv_X9_lapOf rfl rfl ⟨(Nat.le_of_ble_eq_true rfl), (Nat.le_of_ble_eq_true rfl)⟩ jv1_1 jm_01 ko1_1 rfl rfl (Nat.le_of_ble_eq_true rfl) dX2_lapsEnded_21 (fun v7 M8 h9 => ?_)
    refine j_goto (tgt := 28) (pc := 24) dX2_lapsEnded_24 (by decide) ?_
    exact j_iret (pc := 28) h9 rfl dX2_lapsEnded_28
abbrev rmX0_isOf : Room := { frames := 1, cells := 0, slots := 0, locals := 22 }
set_option maxHeartbeats 4000000 in
set_option maxRecDepth 100000 in
theorem ct_X0_isOf (M : jm_M) (l1 l2 l3 : Int) (hl1 : jm_in l1) (hl2 : jm_in l2) (hl3 : jm_in l3) : jm_Ci wd1 yX0_isOf cX0_isOf 4 (some .boolean) rmX0_isOf M (fun G ad => [.ref (ad (jm_r wd1 3 0)), jm_i l1, jm_i l2, jm_i l3]) (fX0_isOf M l1 l2 l3) := by
  refine jm_met_i (fun X => [(0, jm_vr wd1 X 3 0), (1, jm_i l1), (2, jm_i l2), (3, jm_i l3)]) (by decide) (fun _ _ => (Nat.le_of_ble_eq_true rfl)) (fun _ => rfl) (fun X => ?_)
  unfold fX0_isOf
  refine j_aload_n (pc := 0) dX0_isOf_0 rfl (q := 0) rfl ?_
  refine j_getr (pc := 1) jv1_3 jm_01 kf_RX0_30 32 kg1_3_4 rfl dX0_isOf_1 ?_
  refine j_iload_n (pc := 4) dX0_isOf_4 rfl (q := 1) rfl ?_
  refine j_iconst (pc := 5) dX0_isOf_5 ?_
  refine j_callVi2 (pc := 6) (ct_X7_cell M 32 l1 1 (by omega) hl1 (jm_inL (by decide) (by decide))) kg_1080 km_X7_cell kv_X7_cell rfl rfl ⟨(Nat.le_of_ble_eq_true rfl), (Nat.le_of_ble_eq_true rfl)⟩ jv1_10 (by omega) ko1_10 rfl rfl (Nat.le_of_ble_eq_true rfl) dX0_isOf_6 (fun v1 M2 h3 => ?_)
  refine j_iload_n (pc := 9) dX0_isOf_9 rfl (q := 2) rfl ?_
  refine j_icmp_ne (tgt := 30) (pc := 10) h3 hl2 dX0_isOf_10 (by decide) (fun c4 => ?_) (fun c4 => ?_)
  · skip
    refine j_aload_n (pc := 13) dX0_isOf_13 rfl (q := 0) rfl ?_
    refine j_getr (pc := 14) jv1_3 jm_01 kf_RX0_30 32 kg1_3_4 rfl dX0_isOf_14 ?_
    refine j_iload_n (pc := 17) dX0_isOf_17 rfl (q := 1) rfl ?_
    refine j_iconst (pc := 18) dX0_isOf_18 ?_
    refine j_callVi2 (pc := 19) (ct_X7_cell M2 32 l1 2 (by omega) hl1 (jm_inL (by decide) (by decide))) kg_1080 km_X7_cell kv_X7_cell rfl rfl ⟨(Nat.le_of_ble_eq_true rfl), (Nat.le_of_ble_eq_true rfl)⟩ jv1_10 (by omega) ko1_10 rfl rfl (Nat.le_of_ble_eq_true rfl) dX0_isOf_19 (fun v5 M6 h7 => ?_)
    refine j_iload_n (pc := 22) dX0_isOf_22 rfl (q := 3) rfl ?_
    refine j_icmp_ne (tgt := 30) (pc := 23) h7 hl3 dX0_isOf_23 (by decide) (fun c8 => ?_) (fun c8 => ?_)
    · skip
      refine j_iconst (pc := 26) dX0_isOf_26 ?_
      refine j_goto (tgt := 31) (pc := 27) dX0_isOf_27 (by decide) ?_
      exact j_iret (pc := 31) (jm_inL (by decide) (by decide)) rfl dX0_isOf_31
    · skip
      refine j_iconst (pc := 30) dX0_isOf_30 ?_
      exact j_iret (pc := 31) (jm_inL (by decide) (by decide)) rfl dX0_isOf_31
  · skip
    refine j_iconst (pc := 30) dX0_isOf_30 ?_
    exact j_iret (pc := 31) (jm_inL (by decide) (by decide)) rfl dX0_isOf_31
abbrev rmX0_weightBy : Room := { frames := 2, cells := 0, slots := 0, locals := 45 }
set_option maxHeartbeats 4000000 in
set_option maxRecDepth 100000 in
theorem b0X0_weightBy_8 (X : jm_X) (fu : Nat) (k8 : jm_M → Int → Int → Int → Int → Int → jm_R) (hk8 : ∀ (M : jm_M) (l1 l2 l3 l4 l5 : Int) (hl1 : jm_in l1) (hl2 : jm_in l2) (hl3 : jm_in l3) (hl4 : jm_in l4) (hl5 : jm_in l5), jm_J wd1 (jm_qi .int) cX0_weightBy 7 RX0 rmX0_weightBy X M [(0, jm_vr wd1 X 3 0), (1, jm_i l1), (2, jm_i l2), (3, jm_i l3), (4, jm_i l4), (5, jm_i l5)] [] 8 (k8 M l1 l2 l3 l4 l5)) : ∀ (M : jm_M) (l1 l2 l3 l4 l5 : Int) (hl1 : jm_in l1) (hl2 : jm_in l2) (hl3 : jm_in l3) (hl4 : jm_in l4) (hl5 : jm_in l5), jm_J wd1 (jm_qi .int) cX0_weightBy 7 RX0 rmX0_weightBy X M [(0, jm_vr wd1 X 3 0), (1, jm_i l1), (2, jm_i l2), (3, jm_i l3), (4, jm_i l4), (5, jm_i l5)] [] 8 (gX0_weightBy_8 fu k8 M l1 l2 l3 l4 l5) := by
  intro M l1 l2 l3 l4 l5 hl1 hl2 hl3 hl4 hl5
  unfold gX0_weightBy_8
  refine j_iload (pc := 8) dX0_weightBy_8 (q := 5) rfl ?_
  refine j_aload_n (pc := 10) dX0_weightBy_10 rfl (q := 0) rfl ?_
  refine j_getr (pc := 11) jv1_3 jm_01 kf_RX0_30 32 kg1_3_4 rfl dX0_weightBy_11 ?_
  refine j_geti (pc := 14) jv1_10 (by omega) kf_RX0_43 kg1_10_3 dX0_weightBy_14 (fun h1 => ?_)
  refine j_icmp_ge (tgt := 77) (pc := 17) hl5 h1 dX0_weightBy_17 (by decide) (fun c2 => ?_) (fun c2 => ?_)
  · skip
    refine j_iload_n (pc := 77) dX0_weightBy_77 rfl (q := 3) rfl ?_
    exact j_iret (pc := 78) hl3 rfl dX0_weightBy_78
  · skip
    refine j_aload_n (pc := 20) dX0_weightBy_20 rfl (q := 0) rfl ?_
    refine j_getr (pc := 21) jv1_3 jm_01 kf_RX0_30 32 kg1_3_4 rfl dX0_weightBy_21 ?_
    refine j_iload (pc := 24) dX0_weightBy_24 (q := 5) rfl ?_
    refine j_iconst (pc := 26) dX0_weightBy_26 ?_
    refine j_callVi2 (pc := 27) (ct_X7_cell M 32 l5 0 (by omega) hl5 (jm_inL (by decide) (by decide))) kg_1080 km_X7_cell kv_X7_cell rfl rfl ⟨(Nat.le_of_ble_eq_true rfl), (Nat.le_of_ble_eq_true rfl)⟩ jv1_10 (by omega) ko1_10 rfl rfl (Nat.le_of_ble_eq_true rfl) dX0_weightBy_27 (fun v3 M4 h5 => ?_)
    refine j_istore (pc := 30) [(6, jm_i v3), (0, jm_vr wd1 X 3 0), (1, jm_i l1), (2, jm_i l2), (3, jm_i l3), (4, jm_i l4), (5, jm_i l5)] dX0_weightBy_30 (by decide) rfl ?_
    refine j_aload_n (pc := 32) dX0_weightBy_32 rfl (q := 1) rfl ?_
    refine j_iload (pc := 33) dX0_weightBy_33 (q := 6) rfl ?_
    refine j_iload_n (pc := 35) dX0_weightBy_35 rfl (q := 2) rfl ?_
    refine j_iconst (pc := 36) dX0_weightBy_36 ?_
    refine j_callVi3 (pc := 37) (ct_X0_isOf M4 l5 l1 0 hl5 hl1 (jm_inL (by decide) (by decide))) kg_1081 km_X0_isOf kv_X0_isOf rfl rfl ⟨(Nat.le_of_ble_eq_true rfl), (Nat.le_of_ble_eq_true rfl)⟩ jv1_3 jm_01 ko1_3 rfl rfl (Nat.le_of_ble_eq_true rfl) dX0_weightBy_37 (fun v6 M7 h8 => ?_)
    refine j_if_eq (tgt := 71) (pc := 40) h8 dX0_weightBy_40 (by decide) (fun c9 => ?_) (fun c9 => ?_)
    · skip
      refine j_iinc (pc := 71) [(6, jm_i v3), (0, jm_vr wd1 X 3 0), (1, jm_i l1), (2, jm_i l2), (3, jm_i l3), (4, jm_i l4)] (q := 6) dX0_weightBy_71 rfl (by decide) (fun _ => rfl) (fun v10 h11 => ?_)
      refine j_goto (tgt := 8) (pc := 74) dX0_weightBy_74 (by decide) ?_
      refine j_sub (pc := 8) [(0, jm_vr wd1 X 3 0), (1, jm_i l1), (2, jm_i l2), (3, jm_i l3), (4, jm_i l4), (5, jm_i v10)] [2, 3, 4, 5, 6, 0] rfl ?_
      exact hk8 M7 l1 l2 l3 l4 v10 hl1 hl2 hl3 hl4 h11
    · skip
      refine j_iload (pc := 43) dX0_weightBy_43 (q := 0) rfl ?_
      refine j_iload_n (pc := 45) dX0_weightBy_45 rfl (q := 3) rfl ?_
      refine j_icmp_gt (tgt := 71) (pc := 46) h5 hl2 dX0_weightBy_46 (by decide) (fun c12 => ?_) (fun c12 => ?_)
      · skip
        refine j_iinc (pc := 71) [(6, jm_i v3), (0, jm_vr wd1 X 3 0), (1, jm_i l1), (2, jm_i l2), (3, jm_i l3), (4, jm_i l4)] (q := 6) dX0_weightBy_71 rfl (by decide) (fun _ => rfl) (fun v13 h14 => ?_)
        refine j_goto (tgt := 8) (pc := 74) dX0_weightBy_74 (by decide) ?_
        refine j_sub (pc := 8) [(0, jm_vr wd1 X 3 0), (1, jm_i l1), (2, jm_i l2), (3, jm_i l3), (4, jm_i l4), (5, jm_i v13)] [2, 3, 4, 5, 6, 0] rfl ?_
        exact hk8 M7 l1 l2 l3 l4 v13 hl1 hl2 hl3 hl4 h14
      · skip
        refine j_iload (pc := 49) dX0_weightBy_49 (q := 0) rfl ?_
        refine j_iload (pc := 51) dX0_weightBy_51 (q := 5) rfl ?_
        refine j_icmp_lt (tgt := 71) (pc := 53) h5 hl4 dX0_weightBy_53 (by decide) (fun c15 => ?_) (fun c15 => ?_)
        · skip
          refine j_iinc (pc := 71) [(6, jm_i v3), (0, jm_vr wd1 X 3 0), (1, jm_i l1), (2, jm_i l2), (3, jm_i l3), (4, jm_i l4)] (q := 6) dX0_weightBy_71 rfl (by decide) (fun _ => rfl) (fun v16 h17 => ?_)
          refine j_goto (tgt := 8) (pc := 74) dX0_weightBy_74 (by decide) ?_
          refine j_sub (pc := 8) [(0, jm_vr wd1 X 3 0), (1, jm_i l1), (2, jm_i l2), (3, jm_i l3), (4, jm_i l4), (5, jm_i v16)] [2, 3, 4, 5, 6, 0] rfl ?_
          exact hk8 M7 l1 l2 l3 l4 v16 hl1 hl2 hl3 hl4 h17
        · skip
          refine j_iload (pc := 56) dX0_weightBy_56 (q := 0) rfl ?_
          refine j_istore (pc := 58) [(4, jm_i v3), (6, jm_i v3), (0, jm_vr wd1 X 3 0), (1, jm_i l1), (2, jm_i l2), (3, jm_i l3), (5, jm_i l5)] dX0_weightBy_58 (by decide) rfl ?_
          refine j_aload_n (pc := 60) dX0_weightBy_60 rfl (q := 2) rfl ?_
          refine j_getr (pc := 61) jv1_3 jm_01 kf_RX0_30 32 kg1_3_4 rfl dX0_weightBy_61 ?_
          refine j_iload (pc := 64) dX0_weightBy_64 (q := 6) rfl ?_
          refine j_iconst (pc := 66) dX0_weightBy_66 ?_
          refine j_callVi2 (pc := 67) (ct_X7_cell M7 32 l5 3 (by omega) hl5 (jm_inL (by decide) (by decide))) kg_1080 km_X7_cell kv_X7_cell rfl rfl ⟨(Nat.le_of_ble_eq_true rfl), (Nat.le_of_ble_eq_true rfl)⟩ jv1_10 (by omega) ko1_10 rfl rfl (Nat.le_of_ble_eq_true rfl) dX0_weightBy_67 (fun v18 M19 h20 => ?_)
          refine j_istore_n (pc := 70) [(3, jm_i v18), (4, jm_i v3), (6, jm_i v3), (0, jm_vr wd1 X 3 0), (1, jm_i l1), (2, jm_i l2), (5, jm_i l5)] dX0_weightBy_70 rfl (by decide) rfl ?_
          refine j_iinc (pc := 71) [(3, jm_i v18), (4, jm_i v3), (6, jm_i v3), (0, jm_vr wd1 X 3 0), (1, jm_i l1), (2, jm_i l2)] (q := 6) dX0_weightBy_71 rfl (by decide) (fun _ => rfl) (fun v21 h22 => ?_)
          refine j_goto (tgt := 8) (pc := 74) dX0_weightBy_74 (by decide) ?_
          refine j_sub (pc := 8) [(0, jm_vr wd1 X 3 0), (1, jm_i l1), (2, jm_i l2), (3, jm_i v18), (4, jm_i v3), (5, jm_i v21)] [4, 5, 6, 1, 2, 0] rfl ?_
          exact hk8 M19 l1 l2 v18 v3 v21 hl1 hl2 h20 h5 h22
theorem bX0_weightBy_8 (X : jm_X) (fu : Nat) : ∀ (n : Nat) (M : jm_M) (l1 l2 l3 l4 l5 : Int) (hl1 : jm_in l1) (hl2 : jm_in l2) (hl3 : jm_in l3) (hl4 : jm_in l4) (hl5 : jm_in l5), jm_J wd1 (jm_qi .int) cX0_weightBy 7 RX0 rmX0_weightBy X M [(0, jm_vr wd1 X 3 0), (1, jm_i l1), (2, jm_i l2), (3, jm_i l3), (4, jm_i l4), (5, jm_i l5)] [] 8 (fX0_weightBy_8 fu n M l1 l2 l3 l4 l5) := by
  intro n
  induction n with
  | zero => intro M l1 l2 l3 l4 l5 hl1 hl2 hl3 hl4 hl5; exact j_none
  | succ n ih => intro M l1 l2 l3 l4 l5 hl1 hl2 hl3 hl4 hl5; exact b0X0_weightBy_8 X fu (fX0_weightBy_8 fu n) ih M l1 l2 l3 l4 l5 hl1 hl2 hl3 hl4 hl5
set_option maxHeartbeats 4000000 in
set_option maxRecDepth 100000 in
theorem ct_X0_weightBy (fu : Nat) (M : jm_M) (l1 l2 : Int) (hl1 : jm_in l1) (hl2 : jm_in l2) : jm_Ci wd1 yX0_weightBy cX0_weightBy 7 (some .int) rmX0_weightBy M (fun G ad => [.ref (ad (jm_r wd1 3 0)), jm_i l1, jm_i l2]) (fX0_weightBy fu M l1 l2) := by
  refine jm_met_i (fun X => [(0, jm_vr wd1 X 3 0), (1, jm_i l1), (2, jm_i l2)]) (by decide) (fun _ _ => (Nat.le_of_ble_eq_true rfl)) (fun _ => rfl) (fun X => ?_)
  unfold fX0_weightBy
  refine j_iconst (pc := 0) dX0_weightBy_0 ?_
  refine j_istore_n (pc := 1) [(3, jm_i 0), (0, jm_vr wd1 X 3 0), (1, jm_i l1), (2, jm_i l2)] dX0_weightBy_1 rfl (by decide) rfl ?_
  refine j_iconst (pc := 2) dX0_weightBy_2 ?_
  refine j_istore (pc := 3) [(4, jm_i 0), (3, jm_i 0), (0, jm_vr wd1 X 3 0), (1, jm_i l1), (2, jm_i l2)] dX0_weightBy_3 (by decide) rfl ?_
  refine j_iconst (pc := 5) dX0_weightBy_5 ?_
  refine j_istore (pc := 6) [(5, jm_i 0), (4, jm_i 0), (3, jm_i 0), (0, jm_vr wd1 X 3 0), (1, jm_i l1), (2, jm_i l2)] dX0_weightBy_6 (by decide) rfl ?_
  refine j_sub (pc := 8) [(0, jm_vr wd1 X 3 0), (1, jm_i l1), (2, jm_i l2), (3, jm_i 0), (4, jm_i 0), (5, jm_i 0)] [3, 4, 5, 2, 1, 0] rfl ?_
  exact bX0_weightBy_8 X fu  fu M l1 l2 0 0 0 hl1 hl2 (jm_inL (by decide) (by decide)) (jm_inL (by decide) (by decide)) (jm_inL (by decide) (by decide))
abbrev rmX0_secondsBy : Room := { frames := 2, cells := 0, slots := 0, locals := 49 }
set_option maxHeartbeats 4000000 in
set_option maxRecDepth 100000 in
theorem b0X0_secondsBy_130 (X : jm_X) (fu : Nat) (k130 : jm_M → Int → Int → Int → jm_R) (hk130 : ∀ (M : jm_M) (l5 l6 l7 : Int) (hl5 : jm_in l5) (hl6 : jm_in l6) (hl7 : jm_in l7), jm_J wd1 (jm_qi .int) cX0_secondsBy 8 RX0 rmX0_secondsBy X M [(0, jm_vr wd1 X 3 0), (5, jm_i l5), (6, jm_i l6), (7, jm_i l7)] [] 130 (k130 M l5 l6 l7)) : ∀ (M : jm_M) (l5 l6 l7 : Int) (hl5 : jm_in l5) (hl6 : jm_in l6) (hl7 : jm_in l7), jm_J wd1 (jm_qi .int) cX0_secondsBy 8 RX0 rmX0_secondsBy X M [(0, jm_vr wd1 X 3 0), (5, jm_i l5), (6, jm_i l6), (7, jm_i l7)] [] 130 (gX0_secondsBy_130 fu k130 M l5 l6 l7) := by
  intro M l5 l6 l7 hl5 hl6 hl7
  unfold gX0_secondsBy_130
  refine j_iload (pc := 130) dX0_secondsBy_130 (q := 3) rfl ?_
  refine j_aload_n (pc := 132) dX0_secondsBy_132 rfl (q := 0) rfl ?_
  refine j_geti (pc := 133) jv1_3 jm_01 kf_RX0_35 kg1_3_3 dX0_secondsBy_133 (fun h1 => ?_)
  refine j_icmp_ge (tgt := 215) (pc := 136) hl7 h1 dX0_secondsBy_136 (by decide) (fun c2 => ?_) (fun c2 => ?_)
  · skip
    refine j_iload (pc := 215) dX0_secondsBy_215 (q := 2) rfl ?_
    exact j_iret (pc := 217) hl6 rfl dX0_secondsBy_217
  · skip
    refine j_iload (pc := 139) dX0_secondsBy_139 (q := 3) rfl ?_
    refine j_bipush (pc := 141) 10 dX0_secondsBy_141 (by decide) ?_
    refine j_icmp_ge (tgt := 215) (pc := 143) hl7 (jm_inL (by decide) (by decide)) dX0_secondsBy_143 (by decide) (fun c3 => ?_) (fun c3 => ?_)
    · skip
      refine j_iload (pc := 215) dX0_secondsBy_215 (q := 2) rfl ?_
      exact j_iret (pc := 217) hl6 rfl dX0_secondsBy_217
    · skip
      refine j_aload_n (pc := 146) dX0_secondsBy_146 rfl (q := 0) rfl ?_
      refine j_getr (pc := 147) jv1_3 jm_01 kf_RX0_21 0 kg1_3_2 rfl dX0_secondsBy_147 ?_
      refine j_iload (pc := 150) dX0_secondsBy_150 (q := 3) rfl ?_
      refine j_iald (pc := 152) jv1_35 jm_01 rfl (by decide) ka1_35 dX0_secondsBy_152 (fun c4 h5 => ?_)
      refine j_iload (pc := 153) dX0_secondsBy_153 (q := 1) rfl ?_
      refine j_icmp_gt (tgt := 209) (pc := 155) h5 hl5 dX0_secondsBy_155 (by decide) (fun c6 => ?_) (fun c6 => ?_)
      · skip
        refine j_iinc (pc := 209) [(0, jm_vr wd1 X 3 0), (5, jm_i l5), (6, jm_i l6)] (q := 3) dX0_secondsBy_209 rfl (by decide) (fun _ => rfl) (fun v7 h8 => ?_)
        refine j_goto (tgt := 130) (pc := 212) dX0_secondsBy_212 (by decide) ?_
        refine j_sub (pc := 130) [(0, jm_vr wd1 X 3 0), (5, jm_i l5), (6, jm_i l6), (7, jm_i v7)] [1, 2, 3, 0] rfl ?_
        exact hk130 M l5 l6 v7 hl5 hl6 h8
      · skip
        refine j_aload_n (pc := 158) dX0_secondsBy_158 rfl (q := 0) rfl ?_
        refine j_getr (pc := 159) jv1_3 jm_01 kf_RX0_9 0 kg1_3_0 rfl dX0_secondsBy_159 ?_
        refine j_aload_n (pc := 162) dX0_secondsBy_162 rfl (q := 0) rfl ?_
        refine j_getr (pc := 163) jv1_3 jm_01 kf_RX0_17 0 kg1_3_1 rfl dX0_secondsBy_163 ?_
        refine j_iload (pc := 166) dX0_secondsBy_166 (q := 3) rfl ?_
        refine j_aaldt (pc := 168) jv1_48 jm_01 (by decide) kq1_48 dX0_secondsBy_168 (fun c9 c10 => ?_)
        refine j_iconst (pc := 169) dX0_secondsBy_169 ?_
        refine j_callVi2 (pc := 170) (ct_X4_holds fu M (M 48 0 l7) 0 (by omega) (jm_inL (by decide) (by decide))) kg_1096 km_X4_holds kv_X4_holds rfl rfl ⟨(Nat.le_of_ble_eq_true rfl), (Nat.le_of_ble_eq_true rfl)⟩ jv1_7 jm_01 ko1_7 rfl rfl (Nat.le_of_ble_eq_true rfl) dX0_secondsBy_170 (fun v11 M12 h13 => ?_)
        refine j_if_eq (tgt := 209) (pc := 173) h13 dX0_secondsBy_173 (by decide) (fun c14 => ?_) (fun c14 => ?_)
        · skip
          refine j_iinc (pc := 209) [(0, jm_vr wd1 X 3 0), (5, jm_i l5), (6, jm_i l6)] (q := 3) dX0_secondsBy_209 rfl (by decide) (fun _ => rfl) (fun v15 h16 => ?_)
          refine j_goto (tgt := 130) (pc := 212) dX0_secondsBy_212 (by decide) ?_
          refine j_sub (pc := 130) [(0, jm_vr wd1 X 3 0), (5, jm_i l5), (6, jm_i l6), (7, jm_i v15)] [1, 2, 3, 0] rfl ?_
          exact hk130 M12 l5 l6 v15 hl5 hl6 h16
        · skip
          refine j_aload_n (pc := 176) dX0_secondsBy_176 rfl (q := 0) rfl ?_
          refine j_getr (pc := 177) jv1_3 jm_01 kf_RX0_17 0 kg1_3_1 rfl dX0_secondsBy_177 ?_
          refine j_iload (pc := 180) dX0_secondsBy_180 (q := 3) rfl ?_
          refine j_aaldt (pc := 182) jv1_48 jm_01 (by decide) kq1_48 dX0_secondsBy_182 (fun c17 c18 => ?_)
          refine j_geti (pc := 183) jv1_11 (by omega) kf_RX0_95 kg1_11_7 dX0_secondsBy_183 (fun h19 => ?_)
          refine j_bipush (pc := 186) (-2) dX0_secondsBy_186 (by decide) ?_
          refine j_icmp_ne (tgt := 194) (pc := 188) h19 (jm_inL (by decide) (by decide)) dX0_secondsBy_188 (by decide) (fun c20 => ?_) (fun c20 => ?_)
          · skip
            refine j_bipush (pc := 191) (-2) dX0_secondsBy_191 (by decide) ?_
            exact j_iret (pc := 193) (jm_inL (by decide) (by decide)) rfl dX0_secondsBy_193
          · skip
            refine j_iload (pc := 194) dX0_secondsBy_194 (q := 2) rfl ?_
            refine j_aload_n (pc := 196) dX0_secondsBy_196 rfl (q := 0) rfl ?_
            refine j_getr (pc := 197) jv1_3 jm_01 kf_RX0_17 0 kg1_3_1 rfl dX0_secondsBy_197 ?_
            refine j_iload (pc := 200) dX0_secondsBy_200 (q := 3) rfl ?_
            refine j_aaldt (pc := 202) jv1_48 jm_01 (by decide) kq1_48 dX0_secondsBy_202 (fun c21 c22 => ?_)
            refine j_geti (pc := 203) jv1_11 (by omega) kf_RX0_95 kg1_11_7 dX0_secondsBy_203 (fun h23 => ?_)
            refine j_iadd (pc := 206) dX0_secondsBy_206 ?_
            refine j_nm (pc := 207) (jm_w_in _) (fun v24 h25 => ?_)
            refine j_istore (pc := 207) [(6, jm_i v24), (0, jm_vr wd1 X 3 0), (5, jm_i l5), (7, jm_i l7)] dX0_secondsBy_207 (by decide) rfl ?_
            refine j_iinc (pc := 209) [(6, jm_i v24), (0, jm_vr wd1 X 3 0), (5, jm_i l5)] (q := 3) dX0_secondsBy_209 rfl (by decide) (fun _ => rfl) (fun v26 h27 => ?_)
            refine j_goto (tgt := 130) (pc := 212) dX0_secondsBy_212 (by decide) ?_
            refine j_sub (pc := 130) [(0, jm_vr wd1 X 3 0), (5, jm_i l5), (6, jm_i v24), (7, jm_i v26)] [2, 3, 1, 0] rfl ?_
            exact hk130 M12 l5 v24 v26 hl5 h25 h27
theorem bX0_secondsBy_130 (X : jm_X) (fu : Nat) : ∀ (n : Nat) (M : jm_M) (l5 l6 l7 : Int) (hl5 : jm_in l5) (hl6 : jm_in l6) (hl7 : jm_in l7), jm_J wd1 (jm_qi .int) cX0_secondsBy 8 RX0 rmX0_secondsBy X M [(0, jm_vr wd1 X 3 0), (5, jm_i l5), (6, jm_i l6), (7, jm_i l7)] [] 130 (fX0_secondsBy_130 fu n M l5 l6 l7) := by
  intro n
  induction n with
  | zero => intro M l5 l6 l7 hl5 hl6 hl7; exact j_none
  | succ n ih => intro M l5 l6 l7 hl5 hl6 hl7; exact b0X0_secondsBy_130 X fu (fX0_secondsBy_130 fu n) ih M l5 l6 l7 hl5 hl6 hl7
set_option maxHeartbeats 4000000 in
set_option maxRecDepth 100000 in
theorem bX0_secondsBy_95 (X : jm_X) (fu : Nat) : ∀ (M : jm_M) (r1 r2 l5 s0 s1 : Int) (gr1 : 0 ≤ r1 ∧ r1 < 6) (gr2 : 0 ≤ r2 ∧ r2 < 6) (hl5 : jm_in l5) (hs0 : jm_in s0) (hs1 : jm_in s1), jm_J wd1 (jm_qi .int) cX0_secondsBy 8 RX0 rmX0_secondsBy X M [(0, jm_vr wd1 X 3 0), (1, jm_vr wd1 X 8 r1), (2, jm_vr wd1 X 9 r2), (5, jm_i l5)] [jm_i s0, jm_i s1, jm_vr wd1 X 7 0] 95 (gX0_secondsBy_95 fu M r1 r2 l5 s0 s1) := by
  intro M r1 r2 l5 s0 s1 gr1 gr2 hl5 hs0 hs1
  unfold gX0_secondsBy_95
  refine j_callVv2 (pc := 95) (ct_X4_let M s1 s0 hs1 hs0) kg_1089 km_X4_let kv_X4_let rfl rfl ⟨(Nat.le_of_ble_eq_true rfl), (Nat.le_of_ble_eq_true rfl)⟩ jv1_7 jm_01 ko1_7 rfl rfl (Nat.le_of_ble_eq_true rfl) dX0_secondsBy_95 (fun v1 M2 => ?_)
  refine j_aload_n (pc := 98) dX0_secondsBy_98 rfl (q := 0) rfl ?_
  refine j_getr (pc := 99) jv1_3 jm_01 kf_RX0_9 0 kg1_3_0 rfl dX0_secondsBy_99 ?_
  refine j_bipush (pc := 102) 102 dX0_secondsBy_102 (by decide) ?_
  refine j_aload_n (pc := 104) dX0_secondsBy_104 rfl (q := 2) rfl ?_
  refine j_geti (pc := 105) jv1_9 gr2 kf_RX0_85 kg1_9_8 dX0_secondsBy_105 (fun h3 => ?_)
  refine j_callVv2 (pc := 108) (ct_X4_let M2 102 (M2 9 r2 8) (jm_inL (by decide) (by decide)) h3) kg_1089 km_X4_let kv_X4_let rfl rfl ⟨(Nat.le_of_ble_eq_true rfl), (Nat.le_of_ble_eq_true rfl)⟩ jv1_7 jm_01 ko1_7 rfl rfl (Nat.le_of_ble_eq_true rfl) dX0_secondsBy_108 (fun v4 M5 => ?_)
  refine j_aload_n (pc := 111) dX0_secondsBy_111 rfl (q := 0) rfl ?_
  refine j_getr (pc := 112) jv1_3 jm_01 kf_RX0_9 0 kg1_3_0 rfl dX0_secondsBy_112 ?_
  refine j_bipush (pc := 115) 116 dX0_secondsBy_115 (by decide) ?_
  refine j_aload_n (pc := 117) dX0_secondsBy_117 rfl (q := 1) rfl ?_
  refine j_geti (pc := 118) jv1_8 gr1 kf_RX0_88 kg1_8_3 dX0_secondsBy_118 (fun h6 => ?_)
  refine j_callVv2 (pc := 121) (ct_X4_let M5 116 (M5 8 r1 3) (jm_inL (by decide) (by decide)) h6) kg_1089 km_X4_let kv_X4_let rfl rfl ⟨(Nat.le_of_ble_eq_true rfl), (Nat.le_of_ble_eq_true rfl)⟩ jv1_7 jm_01 ko1_7 rfl rfl (Nat.le_of_ble_eq_true rfl) dX0_secondsBy_121 (fun v7 M8 => ?_)
  refine j_iconst (pc := 124) dX0_secondsBy_124 ?_
  refine j_istore (pc := 125) [(6, jm_i 0), (0, jm_vr wd1 X 3 0), (1, jm_vr wd1 X 8 r1), (2, jm_vr wd1 X 9 r2), (5, jm_i l5)] dX0_secondsBy_125 (by decide) rfl ?_
  refine j_iconst (pc := 127) dX0_secondsBy_127 ?_
  refine j_istore (pc := 128) [(7, jm_i 0), (6, jm_i 0), (0, jm_vr wd1 X 3 0), (1, jm_vr wd1 X 8 r1), (2, jm_vr wd1 X 9 r2), (5, jm_i l5)] dX0_secondsBy_128 (by decide) rfl ?_
  refine j_sub (pc := 130) [(0, jm_vr wd1 X 3 0), (5, jm_i l5), (6, jm_i 0), (7, jm_i 0)] [2, 5, 1, 0] rfl ?_
  exact bX0_secondsBy_130 X fu  fu M8 l5 0 0 hl5 (jm_inL (by decide) (by decide)) (jm_inL (by decide) (by decide))
set_option maxHeartbeats 4000000 in
set_option maxRecDepth 100000 in
theorem ct_X0_secondsBy (fu : Nat) (M : jm_M) (r1 r2 l3 l4 l5 : Int) (gr1 : 0 ≤ r1 ∧ r1 < 6) (gr2 : 0 ≤ r2 ∧ r2 < 6) (hl3 : jm_in l3) (hl4 : jm_in l4) (hl5 : jm_in l5) : jm_Ci wd1 yX0_secondsBy cX0_secondsBy 8 (some .int) rmX0_secondsBy M (fun G ad => [.ref (ad (jm_r wd1 3 0)), .ref (ad (jm_r wd1 8 r1)), .ref (ad (jm_r wd1 9 r2)), jm_i l3, jm_i l4, jm_i l5]) (fX0_secondsBy fu M r1 r2 l3 l4 l5) := by
  refine jm_met_i (fun X => [(0, jm_vr wd1 X 3 0), (1, jm_vr wd1 X 8 r1), (2, jm_vr wd1 X 9 r2), (3, jm_i l3), (4, jm_i l4), (5, jm_i l5)]) (by decide) (fun _ _ => (Nat.le_of_ble_eq_true rfl)) (fun _ => rfl) (fun X => ?_)
  unfold fX0_secondsBy
  refine j_aload_n (pc := 0) dX0_secondsBy_0 rfl (q := 0) rfl ?_
  refine j_getr (pc := 1) jv1_3 jm_01 kf_RX0_9 0 kg1_3_0 rfl dX0_secondsBy_1 ?_
  refine j_bipush (pc := 4) 115 dX0_secondsBy_4 (by decide) ?_
  refine j_aload_n (pc := 6) dX0_secondsBy_6 rfl (q := 2) rfl ?_
  refine j_geti (pc := 7) jv1_9 gr2 kf_RX0_54 kg1_9_5 dX0_secondsBy_7 (fun h1 => ?_)
  refine j_callVv2 (pc := 10) (ct_X4_let M 115 (M 9 r2 5) (jm_inL (by decide) (by decide)) h1) kg_1089 km_X4_let kv_X4_let rfl rfl ⟨(Nat.le_of_ble_eq_true rfl), (Nat.le_of_ble_eq_true rfl)⟩ jv1_7 jm_01 ko1_7 rfl rfl (Nat.le_of_ble_eq_true rfl) dX0_secondsBy_10 (fun v2 M3 => ?_)
  refine j_aload_n (pc := 13) dX0_secondsBy_13 rfl (q := 0) rfl ?_
  refine j_getr (pc := 14) jv1_3 jm_01 kf_RX0_9 0 kg1_3_0 rfl dX0_secondsBy_14 ?_
  refine j_bipush (pc := 17) 107 dX0_secondsBy_17 (by decide) ?_
  refine j_aload_n (pc := 19) dX0_secondsBy_19 rfl (q := 2) rfl ?_
  refine j_geti (pc := 20) jv1_9 gr2 kf_RX0_65 kg1_9_6 dX0_secondsBy_20 (fun h4 => ?_)
  refine j_callSi1 (pc := 23) (ct_J6_bitCount_0f7a4_w1 M3 (M3 9 r2 6) h4) kg_1090 km_J6_bitCount_0f7a4 kg_1091 rfl rfl ⟨(Nat.le_of_ble_eq_true rfl), (Nat.le_of_ble_eq_true rfl)⟩ rfl rfl (Nat.le_of_ble_eq_true rfl) dX0_secondsBy_23 (fun v5 M6 h7 => ?_)
  refine j_callVv2 (pc := 26) (ct_X4_let M6 107 v5 (jm_inL (by decide) (by decide)) h7) kg_1089 km_X4_let kv_X4_let rfl rfl ⟨(Nat.le_of_ble_eq_true rfl), (Nat.le_of_ble_eq_true rfl)⟩ jv1_7 jm_01 ko1_7 rfl rfl (Nat.le_of_ble_eq_true rfl) dX0_secondsBy_26 (fun v8 M9 => ?_)
  refine j_aload_n (pc := 29) dX0_secondsBy_29 rfl (q := 0) rfl ?_
  refine j_getr (pc := 30) jv1_3 jm_01 kf_RX0_9 0 kg1_3_0 rfl dX0_secondsBy_30 ?_
  refine j_bipush (pc := 33) 112 dX0_secondsBy_33 (by decide) ?_
  refine j_aload_n (pc := 35) dX0_secondsBy_35 rfl (q := 2) rfl ?_
  refine j_geti (pc := 36) jv1_9 gr2 kf_RX0_74 kg1_9_7 dX0_secondsBy_36 (fun h10 => ?_)
  refine j_callVv2 (pc := 39) (ct_X4_let M9 112 (M9 9 r2 7) (jm_inL (by decide) (by decide)) h10) kg_1089 km_X4_let kv_X4_let rfl rfl ⟨(Nat.le_of_ble_eq_true rfl), (Nat.le_of_ble_eq_true rfl)⟩ jv1_7 jm_01 ko1_7 rfl rfl (Nat.le_of_ble_eq_true rfl) dX0_secondsBy_39 (fun v11 M12 => ?_)
  refine j_aload_n (pc := 42) dX0_secondsBy_42 rfl (q := 0) rfl ?_
  refine j_getr (pc := 43) jv1_3 jm_01 kf_RX0_9 0 kg1_3_0 rfl dX0_secondsBy_43 ?_
  refine j_bipush (pc := 46) 108 dX0_secondsBy_46 (by decide) ?_
  refine j_iload_n (pc := 48) dX0_secondsBy_48 rfl (q := 3) rfl ?_
  refine j_callVv2 (pc := 49) (ct_X4_let M12 108 l3 (jm_inL (by decide) (by decide)) hl3) kg_1089 km_X4_let kv_X4_let rfl rfl ⟨(Nat.le_of_ble_eq_true rfl), (Nat.le_of_ble_eq_true rfl)⟩ jv1_7 jm_01 ko1_7 rfl rfl (Nat.le_of_ble_eq_true rfl) dX0_secondsBy_49 (fun v13 M14 => ?_)
  refine j_aload_n (pc := 52) dX0_secondsBy_52 rfl (q := 0) rfl ?_
  refine j_getr (pc := 53) jv1_3 jm_01 kf_RX0_9 0 kg1_3_0 rfl dX0_secondsBy_53 ?_
  refine j_bipush (pc := 56) 119 dX0_secondsBy_56 (by decide) ?_
  refine j_iload (pc := 58) dX0_secondsBy_58 (q := 4) rfl ?_
  refine j_callVv2 (pc := 60) (ct_X4_let M14 119 l4 (jm_inL (by decide) (by decide)) hl4) kg_1089 km_X4_let kv_X4_let rfl rfl ⟨(Nat.le_of_ble_eq_true rfl), (Nat.le_of_ble_eq_true rfl)⟩ jv1_7 jm_01 ko1_7 rfl rfl (Nat.le_of_ble_eq_true rfl) dX0_secondsBy_60 (fun v15 M16 => ?_)
  refine j_aload_n (pc := 63) dX0_secondsBy_63 rfl (q := 0) rfl ?_
  refine j_getr (pc := 64) jv1_3 jm_01 kf_RX0_9 0 kg1_3_0 rfl dX0_secondsBy_64 ?_
  refine j_bipush (pc := 67) 99 dX0_secondsBy_67 (by decide) ?_
  refine j_aload_n (pc := 69) dX0_secondsBy_69 rfl (q := 1) rfl ?_
  refine j_geti (pc := 70) jv1_8 gr1 kf_RX0_77 kg1_8_4 dX0_secondsBy_70 (fun h17 => ?_)
  refine j_callVv2 (pc := 73) (ct_X4_let M16 99 (M16 8 r1 4) (jm_inL (by decide) (by decide)) h17) kg_1089 km_X4_let kv_X4_let rfl rfl ⟨(Nat.le_of_ble_eq_true rfl), (Nat.le_of_ble_eq_true rfl)⟩ jv1_7 jm_01 ko1_7 rfl rfl (Nat.le_of_ble_eq_true rfl) dX0_secondsBy_73 (fun v18 M19 => ?_)
  refine j_aload_n (pc := 76) dX0_secondsBy_76 rfl (q := 0) rfl ?_
  refine j_getr (pc := 77) jv1_3 jm_01 kf_RX0_9 0 kg1_3_0 rfl dX0_secondsBy_77 ?_
  refine j_bipush (pc := 80) 111 dX0_secondsBy_80 (by decide) ?_
  refine j_aload_n (pc := 82) dX0_secondsBy_82 rfl (q := 2) rfl ?_
  refine j_geti (pc := 83) jv1_9 gr2 kf_RX0_82 kg1_9_3 dX0_secondsBy_83 (fun h20 => ?_)
  refine j_iconst (pc := 86) dX0_secondsBy_86 ?_
  refine j_icmp_ne (tgt := 94) (pc := 87) h20 (jm_inL (by decide) (by decide)) dX0_secondsBy_87 (by decide) (fun c21 => ?_) (fun c21 => ?_)
  · skip
    refine j_iconst (pc := 90) dX0_secondsBy_90 ?_
    refine j_goto (tgt := 95) (pc := 91) dX0_secondsBy_91 (by decide) ?_
    refine j_sub (pc := 95) [(0, jm_vr wd1 X 3 0), (1, jm_vr wd1 X 8 r1), (2, jm_vr wd1 X 9 r2), (5, jm_i l5)] [0, 1, 2, 5] rfl ?_
    exact bX0_secondsBy_95 X fu  M19 r1 r2 l5 1 111 gr1 gr2 hl5 (jm_inL (by decide) (by decide)) (jm_inL (by decide) (by decide))
  · skip
    refine j_iconst (pc := 94) dX0_secondsBy_94 ?_
    refine j_sub (pc := 95) [(0, jm_vr wd1 X 3 0), (1, jm_vr wd1 X 8 r1), (2, jm_vr wd1 X 9 r2), (5, jm_i l5)] [0, 1, 2, 5] rfl ?_
    exact bX0_secondsBy_95 X fu  M19 r1 r2 l5 0 111 gr1 gr2 hl5 (jm_inL (by decide) (by decide)) (jm_inL (by decide) (by decide))
abbrev rmX11_seconds : Room := { frames := 7, cells := 0, slots := 0, locals := 178 }
set_option maxHeartbeats 4000000 in
set_option maxRecDepth 100000 in
theorem ct_X11_seconds (fu : Nat) (M : jm_M) (l1 l2 : Int) (hl1 : jm_in l1) (hl2 : jm_in l2) : jm_Ci wd1 yX11_seconds cX11_seconds 3 (some .int) rmX11_seconds M (fun G ad => [.ref (ad (jm_r wd1 0 0)), jm_i l1, jm_i l2]) (fX11_seconds fu M l1 l2) := by
  refine jm_met_i (fun X => [(0, jm_vr wd1 X 0 0), (1, jm_i l1), (2, jm_i l2)]) (by decide) (fun _ _ => (Nat.le_of_ble_eq_true rfl)) (fun _ => rfl) (fun X => ?_)
  unfold fX11_seconds
  refine j_aload_n (pc := 0) dX11_seconds_0 rfl (q := 0) rfl ?_
  refine j_getr (pc := 1) jv1_0 jm_01 kf_RX11_24 0 kg1_0_1 rfl dX11_seconds_1 ?_
  refine j_iload_n (pc := 4) dX11_seconds_4 rfl (q := 1) rfl ?_
  refine j_callVi1 (pc := 5) (ct_X2_has M l1 hl1) kg_619 km_X2_has kv_X2_has rfl rfl ⟨(Nat.le_of_ble_eq_true rfl), (Nat.le_of_ble_eq_true rfl)⟩ jv1_2 jm_01 ko1_2 rfl rfl (Nat.le_of_ble_eq_true rfl) dX11_seconds_5 (fun v1 M2 h3 => ?_)
  refine j_if_eq (tgt := 18) (pc := 8) h3 dX11_seconds_8 (by decide) (fun c4 => ?_) (fun c4 => ?_)
  · skip
    refine j_iconst (pc := 18) dX11_seconds_18 ?_
    exact j_iret (pc := 19) (jm_inL (by decide) (by decide)) rfl dX11_seconds_19
  · skip
    refine j_iload_n (pc := 11) dX11_seconds_11 rfl (q := 2) rfl ?_
    refine j_callSi1 (pc := 12) (ct_X11_isDay M2 l2 hl2) kg_1055 km_X11_isDay kg_1056 rfl rfl ⟨(Nat.le_of_ble_eq_true rfl), (Nat.le_of_ble_eq_true rfl)⟩ rfl rfl (Nat.le_of_ble_eq_true rfl) dX11_seconds_12 (fun v5 M6 h7 => ?_)
    refine j_if_ne (tgt := 20) (pc := 15) h7 dX11_seconds_15 (by decide) (fun c8 => ?_) (fun c8 => ?_)
    · skip
      refine j_iconst (pc := 18) dX11_seconds_18 ?_
      exact j_iret (pc := 19) (jm_inL (by decide) (by decide)) rfl dX11_seconds_19
    · skip
      refine j_aload_n (pc := 20) dX11_seconds_20 rfl (q := 0) rfl ?_
      refine j_getr (pc := 21) jv1_0 jm_01 kf_RX11_24 0 kg1_0_1 rfl dX11_seconds_21 ?_
      refine j_callVv0 (pc := 24) (ct_X2_reckon fu M6 ) kg_857 km_X2_reckon kv_X2_reckon rfl rfl ⟨(Nat.le_of_ble_eq_true rfl), (Nat.le_of_ble_eq_true rfl)⟩ jv1_2 jm_01 ko1_2 rfl rfl (Nat.le_of_ble_eq_true rfl) dX11_seconds_24 (fun v9 M10 => ?_)
      refine j_aload_n (pc := 27) dX11_seconds_27 rfl (q := 0) rfl ?_
      refine j_getr (pc := 28) jv1_0 jm_01 kf_RX11_33 0 kg1_0_2 rfl dX11_seconds_28 ?_
      refine j_aload_n (pc := 31) dX11_seconds_31 rfl (q := 0) rfl ?_
      refine j_getr (pc := 32) jv1_0 jm_01 kf_RX11_24 0 kg1_0_1 rfl dX11_seconds_32 ?_
      refine j_getr (pc := 35) jv1_2 jm_01 kf_RX11_148 0 kg1_2_2 rfl dX11_seconds_35 ?_
      refine j_iload_n (pc := 38) dX11_seconds_38 rfl (q := 1) rfl ?_
      refine j_aald (pc := 39) jv1_46 jm_01 (by decide) kr1_46 dX11_seconds_39 (fun c11 => ?_)
      refine j_aload_n (pc := 40) dX11_seconds_40 rfl (q := 0) rfl ?_
      refine j_getr (pc := 41) jv1_0 jm_01 kf_RX11_24 0 kg1_0_1 rfl dX11_seconds_41 ?_
      refine j_getr (pc := 44) jv1_2 jm_01 kf_RX11_230 0 kg1_2_3 rfl dX11_seconds_44 ?_
      refine j_iload_n (pc := 47) dX11_seconds_47 rfl (q := 1) rfl ?_
      refine j_aald (pc := 48) jv1_47 jm_01 (by decide) kr1_47 dX11_seconds_48 (fun c12 => ?_)
      refine j_aload_n (pc := 49) dX11_seconds_49 rfl (q := 0) rfl ?_
      refine j_getr (pc := 50) jv1_0 jm_01 kf_RX11_24 0 kg1_0_1 rfl dX11_seconds_50 ?_
      refine j_iload_n (pc := 53) dX11_seconds_53 rfl (q := 1) rfl ?_
      refine j_callVi1 (pc := 54) (ct_X2_lapsEnded M10 l1 hl1) kg_1072 km_X2_lapsEnded kv_X2_lapsEnded rfl rfl ⟨(Nat.le_of_ble_eq_true rfl), (Nat.le_of_ble_eq_true rfl)⟩ jv1_2 jm_01 ko1_2 rfl rfl (Nat.le_of_ble_eq_true rfl) dX11_seconds_54 (fun v13 M14 h15 => ?_)
      refine j_aload_n (pc := 57) dX11_seconds_57 rfl (q := 0) rfl ?_
      refine j_getr (pc := 58) jv1_0 jm_01 kf_RX11_33 0 kg1_0_2 rfl dX11_seconds_58 ?_
      refine j_iload_n (pc := 61) dX11_seconds_61 rfl (q := 1) rfl ?_
      refine j_iload_n (pc := 62) dX11_seconds_62 rfl (q := 2) rfl ?_
      refine j_callVi2 (pc := 63) (ct_X0_weightBy fu M14 l1 l2 hl1 hl2) kg_1076 km_X0_weightBy kv_X0_weightBy rfl rfl ⟨(Nat.le_of_ble_eq_true rfl), (Nat.le_of_ble_eq_true rfl)⟩ jv1_3 jm_01 ko1_3 rfl rfl (Nat.le_of_ble_eq_true rfl) dX11_seconds_63 (fun v16 M17 h18 => ?_)
      refine j_iload_n (pc := 66) dX11_seconds_66 rfl (q := 2) rfl ?_
      refine j_callVi5 (pc := 67) (ct_X0_secondsBy fu M17 l1 l1 v13 v16 l2 (by omega) (by omega) h15 h18 hl2) kg_1085 km_X0_secondsBy kv_X0_secondsBy rfl rfl ⟨(Nat.le_of_ble_eq_true rfl), (Nat.le_of_ble_eq_true rfl)⟩ jv1_3 jm_01 ko1_3 rfl rfl (Nat.le_of_ble_eq_true rfl) dX11_seconds_67 (fun v19 M20 h21 => ?_)
      exact j_iret (pc := 70) h21 rfl dX11_seconds_70
abbrev rmX0_timeBy : Room := { frames := 2, cells := 0, slots := 0, locals := 45 }
set_option maxHeartbeats 4000000 in
set_option maxRecDepth 100000 in
theorem b0X0_timeBy_5 (X : jm_X) (fu : Nat) (k5 : jm_M → Int → Int → Int → Int → jm_R) (hk5 : ∀ (M : jm_M) (l1 l2 l3 l4 : Int) (hl1 : jm_in l1) (hl2 : jm_in l2) (hl3 : jm_in l3) (hl4 : jm_in l4), jm_J wd1 (jm_qi .int) cX0_timeBy 5 RX0 rmX0_timeBy X M [(0, jm_vr wd1 X 3 0), (1, jm_i l1), (2, jm_i l2), (3, jm_i l3), (4, jm_i l4)] [] 5 (k5 M l1 l2 l3 l4)) : ∀ (M : jm_M) (l1 l2 l3 l4 : Int) (hl1 : jm_in l1) (hl2 : jm_in l2) (hl3 : jm_in l3) (hl4 : jm_in l4), jm_J wd1 (jm_qi .int) cX0_timeBy 5 RX0 rmX0_timeBy X M [(0, jm_vr wd1 X 3 0), (1, jm_i l1), (2, jm_i l2), (3, jm_i l3), (4, jm_i l4)] [] 5 (gX0_timeBy_5 fu k5 M l1 l2 l3 l4) := by
  intro M l1 l2 l3 l4 hl1 hl2 hl3 hl4
  unfold gX0_timeBy_5
  refine j_iload (pc := 5) dX0_timeBy_5 (q := 4) rfl ?_
  refine j_aload_n (pc := 7) dX0_timeBy_7 rfl (q := 0) rfl ?_
  refine j_getr (pc := 8) jv1_3 jm_01 kf_RX0_30 32 kg1_3_4 rfl dX0_timeBy_8 ?_
  refine j_geti (pc := 11) jv1_10 (by omega) kf_RX0_43 kg1_10_3 dX0_timeBy_11 (fun h1 => ?_)
  refine j_icmp_ge (tgt := 61) (pc := 14) hl4 h1 dX0_timeBy_14 (by decide) (fun c2 => ?_) (fun c2 => ?_)
  · skip
    refine j_iload_n (pc := 61) dX0_timeBy_61 rfl (q := 3) rfl ?_
    exact j_iret (pc := 62) hl3 rfl dX0_timeBy_62
  · skip
    refine j_aload_n (pc := 17) dX0_timeBy_17 rfl (q := 0) rfl ?_
    refine j_iload (pc := 18) dX0_timeBy_18 (q := 4) rfl ?_
    refine j_iload_n (pc := 20) dX0_timeBy_20 rfl (q := 1) rfl ?_
    refine j_iconst (pc := 21) dX0_timeBy_21 ?_
    refine j_callVi3 (pc := 22) (ct_X0_isOf M l4 l1 1 hl4 hl1 (jm_inL (by decide) (by decide))) kg_1081 km_X0_isOf kv_X0_isOf rfl rfl ⟨(Nat.le_of_ble_eq_true rfl), (Nat.le_of_ble_eq_true rfl)⟩ jv1_3 jm_01 ko1_3 rfl rfl (Nat.le_of_ble_eq_true rfl) dX0_timeBy_22 (fun v3 M4 h5 => ?_)
    refine j_if_eq (tgt := 55) (pc := 25) h5 dX0_timeBy_25 (by decide) (fun c6 => ?_) (fun c6 => ?_)
    · skip
      refine j_iinc (pc := 55) [(0, jm_vr wd1 X 3 0), (1, jm_i l1), (2, jm_i l2), (3, jm_i l3)] (q := 4) dX0_timeBy_55 rfl (by decide) (fun _ => rfl) (fun v7 h8 => ?_)
      refine j_goto (tgt := 5) (pc := 58) dX0_timeBy_58 (by decide) ?_
      refine j_sub (pc := 5) [(0, jm_vr wd1 X 3 0), (1, jm_i l1), (2, jm_i l2), (3, jm_i l3), (4, jm_i v7)] [1, 2, 3, 4, 0] rfl ?_
      exact hk5 M4 l1 l2 l3 v7 hl1 hl2 hl3 h8
    · skip
      refine j_aload_n (pc := 28) dX0_timeBy_28 rfl (q := 0) rfl ?_
      refine j_getr (pc := 29) jv1_3 jm_01 kf_RX0_30 32 kg1_3_4 rfl dX0_timeBy_29 ?_
      refine j_iload (pc := 32) dX0_timeBy_32 (q := 4) rfl ?_
      refine j_iconst (pc := 34) dX0_timeBy_34 ?_
      refine j_callVi2 (pc := 35) (ct_X7_cell M4 32 l4 0 (by omega) hl4 (jm_inL (by decide) (by decide))) kg_1080 km_X7_cell kv_X7_cell rfl rfl ⟨(Nat.le_of_ble_eq_true rfl), (Nat.le_of_ble_eq_true rfl)⟩ jv1_10 (by omega) ko1_10 rfl rfl (Nat.le_of_ble_eq_true rfl) dX0_timeBy_35 (fun v9 M10 h11 => ?_)
      refine j_iload_n (pc := 38) dX0_timeBy_38 rfl (q := 2) rfl ?_
      refine j_icmp_gt (tgt := 55) (pc := 39) h11 hl2 dX0_timeBy_39 (by decide) (fun c12 => ?_) (fun c12 => ?_)
      · skip
        refine j_iinc (pc := 55) [(0, jm_vr wd1 X 3 0), (1, jm_i l1), (2, jm_i l2), (3, jm_i l3)] (q := 4) dX0_timeBy_55 rfl (by decide) (fun _ => rfl) (fun v13 h14 => ?_)
        refine j_goto (tgt := 5) (pc := 58) dX0_timeBy_58 (by decide) ?_
        refine j_sub (pc := 5) [(0, jm_vr wd1 X 3 0), (1, jm_i l1), (2, jm_i l2), (3, jm_i l3), (4, jm_i v13)] [1, 2, 3, 4, 0] rfl ?_
        exact hk5 M10 l1 l2 l3 v13 hl1 hl2 hl3 h14
      · skip
        refine j_iload_n (pc := 42) dX0_timeBy_42 rfl (q := 3) rfl ?_
        refine j_aload_n (pc := 43) dX0_timeBy_43 rfl (q := 0) rfl ?_
        refine j_getr (pc := 44) jv1_3 jm_01 kf_RX0_30 32 kg1_3_4 rfl dX0_timeBy_44 ?_
        refine j_iload (pc := 47) dX0_timeBy_47 (q := 4) rfl ?_
        refine j_iconst (pc := 49) dX0_timeBy_49 ?_
        refine j_callVi2 (pc := 50) (ct_X7_cell M10 32 l4 3 (by omega) hl4 (jm_inL (by decide) (by decide))) kg_1080 km_X7_cell kv_X7_cell rfl rfl ⟨(Nat.le_of_ble_eq_true rfl), (Nat.le_of_ble_eq_true rfl)⟩ jv1_10 (by omega) ko1_10 rfl rfl (Nat.le_of_ble_eq_true rfl) dX0_timeBy_50 (fun v15 M16 h17 => ?_)
        refine j_iadd (pc := 53) dX0_timeBy_53 ?_
        refine j_nm (pc := 54) (jm_w_in _) (fun v18 h19 => ?_)
        refine j_istore_n (pc := 54) [(3, jm_i v18), (0, jm_vr wd1 X 3 0), (1, jm_i l1), (2, jm_i l2), (4, jm_i l4)] dX0_timeBy_54 rfl (by decide) rfl ?_
        refine j_iinc (pc := 55) [(3, jm_i v18), (0, jm_vr wd1 X 3 0), (1, jm_i l1), (2, jm_i l2)] (q := 4) dX0_timeBy_55 rfl (by decide) (fun _ => rfl) (fun v20 h21 => ?_)
        refine j_goto (tgt := 5) (pc := 58) dX0_timeBy_58 (by decide) ?_
        refine j_sub (pc := 5) [(0, jm_vr wd1 X 3 0), (1, jm_i l1), (2, jm_i l2), (3, jm_i v18), (4, jm_i v20)] [2, 3, 4, 1, 0] rfl ?_
        exact hk5 M16 l1 l2 v18 v20 hl1 hl2 h19 h21
theorem bX0_timeBy_5 (X : jm_X) (fu : Nat) : ∀ (n : Nat) (M : jm_M) (l1 l2 l3 l4 : Int) (hl1 : jm_in l1) (hl2 : jm_in l2) (hl3 : jm_in l3) (hl4 : jm_in l4), jm_J wd1 (jm_qi .int) cX0_timeBy 5 RX0 rmX0_timeBy X M [(0, jm_vr wd1 X 3 0), (1, jm_i l1), (2, jm_i l2), (3, jm_i l3), (4, jm_i l4)] [] 5 (fX0_timeBy_5 fu n M l1 l2 l3 l4) := by
  intro n
  induction n with
  | zero => intro M l1 l2 l3 l4 hl1 hl2 hl3 hl4; exact j_none
  | succ n ih => intro M l1 l2 l3 l4 hl1 hl2 hl3 hl4; exact b0X0_timeBy_5 X fu (fX0_timeBy_5 fu n) ih M l1 l2 l3 l4 hl1 hl2 hl3 hl4
set_option maxHeartbeats 4000000 in
set_option maxRecDepth 100000 in
theorem ct_X0_timeBy (fu : Nat) (M : jm_M) (l1 l2 : Int) (hl1 : jm_in l1) (hl2 : jm_in l2) : jm_Ci wd1 yX0_timeBy cX0_timeBy 5 (some .int) rmX0_timeBy M (fun G ad => [.ref (ad (jm_r wd1 3 0)), jm_i l1, jm_i l2]) (fX0_timeBy fu M l1 l2) := by
  refine jm_met_i (fun X => [(0, jm_vr wd1 X 3 0), (1, jm_i l1), (2, jm_i l2)]) (by decide) (fun _ _ => (Nat.le_of_ble_eq_true rfl)) (fun _ => rfl) (fun X => ?_)
  unfold fX0_timeBy
  refine j_iconst (pc := 0) dX0_timeBy_0 ?_
  refine j_istore_n (pc := 1) [(3, jm_i 0), (0, jm_vr wd1 X 3 0), (1, jm_i l1), (2, jm_i l2)] dX0_timeBy_1 rfl (by decide) rfl ?_
  refine j_iconst (pc := 2) dX0_timeBy_2 ?_
  refine j_istore (pc := 3) [(4, jm_i 0), (3, jm_i 0), (0, jm_vr wd1 X 3 0), (1, jm_i l1), (2, jm_i l2)] dX0_timeBy_3 (by decide) rfl ?_
  refine j_sub (pc := 5) [(0, jm_vr wd1 X 3 0), (1, jm_i l1), (2, jm_i l2), (3, jm_i 0), (4, jm_i 0)] [2, 3, 4, 1, 0] rfl ?_
  exact bX0_timeBy_5 X fu  fu M l1 l2 0 0 hl1 hl2 (jm_inL (by decide) (by decide)) (jm_inL (by decide) (by decide))
abbrev rmX5_reckonFor : Room := { frames := 3, cells := 0, slots := 0, locals := 76 }
set_option maxHeartbeats 4000000 in
set_option maxRecDepth 100000 in
theorem bX5_reckonFor_103 (X : jm_X) (fu : Nat) (k2 : jm_M → Int → Int → jm_R) (hk2 : ∀ (M : jm_M) (l1 l2 : Int) (hl1 : jm_in l1) (hl2 : jm_in l2), jm_J wd1 jm_qv cX5_reckonFor 5 RX5 rmX5_reckonFor X M [(0, jm_vr wd1 X 4 0), (1, jm_i l1), (2, jm_i l2)] [] 2 (k2 M l1 l2)) : ∀ (M : jm_M) (l1 l2 r3 l4 s0 s1 : Int) (hl1 : jm_in l1) (hl2 : jm_in l2) (gr3 : 0 ≤ r3 ∧ r3 < 6) (hl4 : jm_in l4) (hs0 : jm_in s0) (hs1 : jm_in s1), jm_J wd1 jm_qv cX5_reckonFor 5 RX5 rmX5_reckonFor X M [(0, jm_vr wd1 X 4 0), (1, jm_i l1), (2, jm_i l2), (3, jm_vr wd1 X 9 r3), (4, jm_i l4)] [jm_i s0, jm_i s1, jm_vr wd1 X 36 0] 103 (gX5_reckonFor_103 fu k2 M l1 l2 r3 l4 s0 s1) := by
  intro M l1 l2 r3 l4 s0 s1 hl1 hl2 gr3 hl4 hs0 hs1
  unfold gX5_reckonFor_103
  refine j_bast (pc := 103) jv1_36 jm_01 rfl (by decide) wI1 ka1_36 hs0 dX5_reckonFor_103 (fun c1 c3 M2 => ?_)
  refine j_aload_n (pc := 104) dX5_reckonFor_104 rfl (q := 0) rfl ?_
  refine j_getr (pc := 105) jv1_4 jm_01 kf_RX5_27 0 kg1_4_4 rfl dX5_reckonFor_105 ?_
  refine j_iload_n (pc := 108) dX5_reckonFor_108 rfl (q := 2) rfl ?_
  refine j_aload_n (pc := 109) dX5_reckonFor_109 rfl (q := 3) rfl ?_
  refine j_geti (pc := 110) jv1_9 gr3 kf_RX5_63 kg1_9_4 dX5_reckonFor_110 (fun h4 => ?_)
  refine j_sipush (pc := 113) 1000 dX5_reckonFor_113 (by decide) ?_
  refine j_iload (pc := 116) dX5_reckonFor_116 (q := 4) rfl ?_
  refine j_imul (pc := 118) dX5_reckonFor_118 ?_
  refine j_iadd (pc := 119) dX5_reckonFor_119 ?_
  refine j_aload_n (pc := 120) dX5_reckonFor_120 rfl (q := 0) rfl ?_
  refine j_getr (pc := 121) jv1_4 jm_01 kf_RX5_15 0 kg1_4_1 rfl dX5_reckonFor_121 ?_
  refine j_iload_n (pc := 124) dX5_reckonFor_124 rfl (q := 2) rfl ?_
  refine j_iload_n (pc := 125) dX5_reckonFor_125 rfl (q := 1) rfl ?_
  refine j_callVi2 (pc := 126) (ct_X0_timeBy fu M2 l2 l1 hl2 hl1) kg_1108 km_X0_timeBy kv_X0_timeBy rfl rfl ⟨(Nat.le_of_ble_eq_true rfl), (Nat.le_of_ble_eq_true rfl)⟩ jv1_3 jm_01 ko1_3 rfl rfl (Nat.le_of_ble_eq_true rfl) dX5_reckonFor_126 (fun v5 M6 h7 => ?_)
  refine j_iadd (pc := 129) dX5_reckonFor_129 ?_
  refine j_iast (pc := 130) jv1_38 jm_01 rfl (by decide) wI1 ka1_38 (jm_w_in _) dX5_reckonFor_130 (fun c8 M9 => ?_)
  refine j_iinc (pc := 131) [(0, jm_vr wd1 X 4 0), (1, jm_i l1), (3, jm_vr wd1 X 9 r3), (4, jm_i l4)] (q := 2) dX5_reckonFor_131 rfl (by decide) (fun _ => rfl) (fun v10 h11 => ?_)
  refine j_goto (tgt := 2) (pc := 134) dX5_reckonFor_134 (by decide) ?_
  refine j_sub (pc := 2) [(0, jm_vr wd1 X 4 0), (1, jm_i l1), (2, jm_i v10)] [1, 2, 0] rfl ?_
  exact hk2 M9 l1 v10 hl1 h11
set_option maxHeartbeats 4000000 in
set_option maxRecDepth 100000 in
theorem b0X5_reckonFor_2 (X : jm_X) (fu : Nat) (k2 : jm_M → Int → Int → jm_R) (hk2 : ∀ (M : jm_M) (l1 l2 : Int) (hl1 : jm_in l1) (hl2 : jm_in l2), jm_J wd1 jm_qv cX5_reckonFor 5 RX5 rmX5_reckonFor X M [(0, jm_vr wd1 X 4 0), (1, jm_i l1), (2, jm_i l2)] [] 2 (k2 M l1 l2)) : ∀ (M : jm_M) (l1 l2 : Int) (hl1 : jm_in l1) (hl2 : jm_in l2), jm_J wd1 jm_qv cX5_reckonFor 5 RX5 rmX5_reckonFor X M [(0, jm_vr wd1 X 4 0), (1, jm_i l1), (2, jm_i l2)] [] 2 (gX5_reckonFor_2 fu k2 M l1 l2) := by
  intro M l1 l2 hl1 hl2
  unfold gX5_reckonFor_2
  refine j_iload_n (pc := 2) dX5_reckonFor_2 rfl (q := 2) rfl ?_
  refine j_aload_n (pc := 3) dX5_reckonFor_3 rfl (q := 0) rfl ?_
  refine j_getr (pc := 4) jv1_4 jm_01 kf_RX5_9 0 kg1_4_0 rfl dX5_reckonFor_4 ?_
  refine j_geti (pc := 7) jv1_2 jm_01 kf_RX5_30 kg1_2_5 dX5_reckonFor_7 (fun h1 => ?_)
  refine j_icmp_ge (tgt := 137) (pc := 10) hl2 h1 dX5_reckonFor_10 (by decide) (fun c2 => ?_) (fun c2 => ?_)
  · skip
    exact j_vret (pc := 137) dX5_reckonFor_137
  · skip
    refine j_iload_n (pc := 13) dX5_reckonFor_13 rfl (q := 2) rfl ?_
    refine j_bipush (pc := 14) 6 dX5_reckonFor_14 (by decide) ?_
    refine j_icmp_ge (tgt := 137) (pc := 16) hl2 (jm_inL (by decide) (by decide)) dX5_reckonFor_16 (by decide) (fun c3 => ?_) (fun c3 => ?_)
    · skip
      exact j_vret (pc := 137) dX5_reckonFor_137
    · skip
      refine j_aload_n (pc := 19) dX5_reckonFor_19 rfl (q := 0) rfl ?_
      refine j_getr (pc := 20) jv1_4 jm_01 kf_RX5_9 0 kg1_4_0 rfl dX5_reckonFor_20 ?_
      refine j_getr (pc := 23) jv1_2 jm_01 kf_RX5_36 0 kg1_2_3 rfl dX5_reckonFor_23 ?_
      refine j_iload_n (pc := 26) dX5_reckonFor_26 rfl (q := 2) rfl ?_
      refine j_aald (pc := 27) jv1_47 jm_01 (by decide) kr1_47 dX5_reckonFor_27 (fun c4 => ?_)
      refine j_astore_n (pc := 28) [(3, jm_vr wd1 X 9 l2), (0, jm_vr wd1 X 4 0), (1, jm_i l1), (2, jm_i l2)] dX5_reckonFor_28 rfl (by decide) rfl ?_
      refine j_aload_n (pc := 29) dX5_reckonFor_29 rfl (q := 1) rfl ?_
      refine j_getr (pc := 30) jv1_4 jm_01 kf_RX5_23 0 kg1_4_3 rfl dX5_reckonFor_30 ?_
      refine j_iload_n (pc := 33) dX5_reckonFor_33 rfl (q := 3) rfl ?_
      refine j_aload_n (pc := 34) dX5_reckonFor_34 rfl (q := 1) rfl ?_
      refine j_getr (pc := 35) jv1_4 jm_01 kf_RX5_9 0 kg1_4_0 rfl dX5_reckonFor_35 ?_
      refine j_iload_n (pc := 38) dX5_reckonFor_38 rfl (q := 3) rfl ?_
      refine j_callVi1 (pc := 39) (ct_X2_lapsEnded M l2 hl2) kg_1105 km_X2_lapsEnded kv_X2_lapsEnded rfl rfl ⟨(Nat.le_of_ble_eq_true rfl), (Nat.le_of_ble_eq_true rfl)⟩ jv1_2 jm_01 ko1_2 rfl rfl (Nat.le_of_ble_eq_true rfl) dX5_reckonFor_39 (fun v5 M6 h7 => ?_)
      refine j_iast (pc := 42) jv1_37 jm_01 rfl (by decide) wI1 ka1_37 h7 dX5_reckonFor_42 (fun c8 M9 => ?_)
      refine j_aload_n (pc := 43) dX5_reckonFor_43 rfl (q := 1) rfl ?_
      refine j_getr (pc := 44) jv1_4 jm_01 kf_RX5_15 0 kg1_4_1 rfl dX5_reckonFor_44 ?_
      refine j_aload_n (pc := 47) dX5_reckonFor_47 rfl (q := 1) rfl ?_
      refine j_getr (pc := 48) jv1_4 jm_01 kf_RX5_9 0 kg1_4_0 rfl dX5_reckonFor_48 ?_
      refine j_getr (pc := 51) jv1_2 jm_01 kf_RX5_44 0 kg1_2_2 rfl dX5_reckonFor_51 ?_
      refine j_iload_n (pc := 54) dX5_reckonFor_54 rfl (q := 3) rfl ?_
      refine j_aald (pc := 55) jv1_46 jm_01 (by decide) kr1_46 dX5_reckonFor_55 (fun c10 => ?_)
      refine j_aload_n (pc := 56) dX5_reckonFor_56 rfl (q := 0) rfl ?_
      refine j_aload_n (pc := 57) dX5_reckonFor_57 rfl (q := 1) rfl ?_
      refine j_getr (pc := 58) jv1_4 jm_01 kf_RX5_23 0 kg1_4_3 rfl dX5_reckonFor_58 ?_
      refine j_iload_n (pc := 61) dX5_reckonFor_61 rfl (q := 3) rfl ?_
      refine j_iald (pc := 62) jv1_37 jm_01 rfl (by decide) ka1_37 dX5_reckonFor_62 (fun c11 h12 => ?_)
      refine j_aload_n (pc := 63) dX5_reckonFor_63 rfl (q := 1) rfl ?_
      refine j_getr (pc := 64) jv1_4 jm_01 kf_RX5_15 0 kg1_4_1 rfl dX5_reckonFor_64 ?_
      refine j_iload_n (pc := 67) dX5_reckonFor_67 rfl (q := 3) rfl ?_
      refine j_iload_n (pc := 68) dX5_reckonFor_68 rfl (q := 2) rfl ?_
      refine j_callVi2 (pc := 69) (ct_X0_weightBy fu M9 l2 l1 hl2 hl1) kg_1106 km_X0_weightBy kv_X0_weightBy rfl rfl ⟨(Nat.le_of_ble_eq_true rfl), (Nat.le_of_ble_eq_true rfl)⟩ jv1_3 jm_01 ko1_3 rfl rfl (Nat.le_of_ble_eq_true rfl) dX5_reckonFor_69 (fun v13 M14 h15 => ?_)
      refine j_iload_n (pc := 72) dX5_reckonFor_72 rfl (q := 2) rfl ?_
      refine j_callVi5 (pc := 73) (ct_X0_secondsBy fu M14 l2 l2 (M9 37 0 l2) v13 l1 (by omega) (by omega) h12 h15 hl1) kg_1107 km_X0_secondsBy kv_X0_secondsBy rfl rfl ⟨(Nat.le_of_ble_eq_true rfl), (Nat.le_of_ble_eq_true rfl)⟩ jv1_3 jm_01 ko1_3 rfl rfl (Nat.le_of_ble_eq_true rfl) dX5_reckonFor_73 (fun v16 M17 h18 => ?_)
      refine j_istore (pc := 76) [(4, jm_i v16), (3, jm_vr wd1 X 9 l2), (0, jm_vr wd1 X 4 0), (1, jm_i l1), (2, jm_i l2)] dX5_reckonFor_76 (by decide) rfl ?_
      refine j_aload_n (pc := 78) dX5_reckonFor_78 rfl (q := 2) rfl ?_
      refine j_getr (pc := 79) jv1_4 jm_01 kf_RX5_19 0 kg1_4_2 rfl dX5_reckonFor_79 ?_
      refine j_iload_n (pc := 82) dX5_reckonFor_82 rfl (q := 4) rfl ?_
      refine j_aload_n (pc := 83) dX5_reckonFor_83 rfl (q := 1) rfl ?_
      refine j_geti (pc := 84) jv1_9 (by omega) kf_RX5_58 kg1_9_3 dX5_reckonFor_84 (fun h19 => ?_)
      refine j_iconst (pc := 87) dX5_reckonFor_87 ?_
      refine j_icmp_eq (tgt := 102) (pc := 88) h19 (jm_inL (by decide) (by decide)) dX5_reckonFor_88 (by decide) (fun c20 => ?_) (fun c20 => ?_)
      · skip
        refine j_iconst (pc := 102) dX5_reckonFor_102 ?_
        refine j_sub (pc := 103) [(0, jm_vr wd1 X 4 0), (1, jm_i l1), (2, jm_i l2), (3, jm_vr wd1 X 9 l2), (4, jm_i v16)] [2, 3, 4, 1, 0] rfl ?_
        exact bX5_reckonFor_103 X fu k2 hk2 M17 l1 l2 l2 v16 0 l2 hl1 hl2 (by omega) h18 (jm_inL (by decide) (by decide)) hl2
      · skip
        refine j_iload (pc := 91) dX5_reckonFor_91 (q := 0) rfl ?_
        refine j_bipush (pc := 93) (-2) dX5_reckonFor_93 (by decide) ?_
        refine j_icmp_eq (tgt := 102) (pc := 95) h18 (jm_inL (by decide) (by decide)) dX5_reckonFor_95 (by decide) (fun c21 => ?_) (fun c21 => ?_)
        · skip
          refine j_iconst (pc := 102) dX5_reckonFor_102 ?_
          refine j_sub (pc := 103) [(0, jm_vr wd1 X 4 0), (1, jm_i l1), (2, jm_i l2), (3, jm_vr wd1 X 9 l2), (4, jm_i v16)] [2, 3, 4, 1, 0] rfl ?_
          exact bX5_reckonFor_103 X fu k2 hk2 M17 l1 l2 l2 v16 0 l2 hl1 hl2 (by omega) h18 (jm_inL (by decide) (by decide)) hl2
        · skip
          refine j_iconst (pc := 98) dX5_reckonFor_98 ?_
          refine j_goto (tgt := 103) (pc := 99) dX5_reckonFor_99 (by decide) ?_
          refine j_sub (pc := 103) [(0, jm_vr wd1 X 4 0), (1, jm_i l1), (2, jm_i l2), (3, jm_vr wd1 X 9 l2), (4, jm_i v16)] [2, 3, 4, 1, 0] rfl ?_
          exact bX5_reckonFor_103 X fu k2 hk2 M17 l1 l2 l2 v16 1 l2 hl1 hl2 (by omega) h18 (jm_inL (by decide) (by decide)) hl2
theorem bX5_reckonFor_2 (X : jm_X) (fu : Nat) : ∀ (n : Nat) (M : jm_M) (l1 l2 : Int) (hl1 : jm_in l1) (hl2 : jm_in l2), jm_J wd1 jm_qv cX5_reckonFor 5 RX5 rmX5_reckonFor X M [(0, jm_vr wd1 X 4 0), (1, jm_i l1), (2, jm_i l2)] [] 2 (fX5_reckonFor_2 fu n M l1 l2) := by
  intro n
  induction n with
  | zero => intro M l1 l2 hl1 hl2; exact j_none
  | succ n ih => intro M l1 l2 hl1 hl2; exact b0X5_reckonFor_2 X fu (fX5_reckonFor_2 fu n) ih M l1 l2 hl1 hl2
set_option maxHeartbeats 4000000 in
set_option maxRecDepth 100000 in
theorem ct_X5_reckonFor (fu : Nat) (M : jm_M) (l1 : Int) (hl1 : jm_in l1) : jm_Cv wd1 yX5_reckonFor cX5_reckonFor 5 none rmX5_reckonFor M (fun G ad => [.ref (ad (jm_r wd1 4 0)), jm_i l1]) (fX5_reckonFor fu M l1) := by
  refine jm_met_v (fun X => [(0, jm_vr wd1 X 4 0), (1, jm_i l1)]) (by decide) (fun _ _ => (Nat.le_of_ble_eq_true rfl)) (fun _ => rfl) (fun X => ?_)
  unfold fX5_reckonFor
  refine j_iconst (pc := 0) dX5_reckonFor_0 ?_
  refine j_istore_n (pc := 1) [(2, jm_i 0), (0, jm_vr wd1 X 4 0), (1, jm_i l1)] dX5_reckonFor_1 rfl (by decide) rfl ?_
  refine j_sub (pc := 2) [(0, jm_vr wd1 X 4 0), (1, jm_i l1), (2, jm_i 0)] [1, 2, 0] rfl ?_
  exact bX5_reckonFor_2 X fu  fu M l1 0 hl1 (jm_inL (by decide) (by decide))
abbrev rmX5_isAhead : Room := { frames := 0, cells := 0, slots := 0, locals := 0 }
set_option maxHeartbeats 4000000 in
set_option maxRecDepth 100000 in
theorem ct_X5_isAhead (M : jm_M) (l1 l2 : Int) (hl1 : jm_in l1) (hl2 : jm_in l2) : jm_Ci wd1 yX5_isAhead cX5_isAhead 3 (some .boolean) rmX5_isAhead M (fun G ad => [.ref (ad (jm_r wd1 4 0)), jm_i l1, jm_i l2]) (fX5_isAhead M l1 l2) := by
  refine jm_met_i (fun X => [(0, jm_vr wd1 X 4 0), (1, jm_i l1), (2, jm_i l2)]) (by decide) (fun _ _ => (Nat.le_of_ble_eq_true rfl)) (fun _ => rfl) (fun X => ?_)
  unfold fX5_isAhead
  refine j_aload_n (pc := 0) dX5_isAhead_0 rfl (q := 0) rfl ?_
  refine j_getr (pc := 1) jv1_4 jm_01 kf_RX5_23 0 kg1_4_3 rfl dX5_isAhead_1 ?_
  refine j_iload_n (pc := 4) dX5_isAhead_4 rfl (q := 1) rfl ?_
  refine j_iald (pc := 5) jv1_37 jm_01 rfl (by decide) ka1_37 dX5_isAhead_5 (fun c1 h2 => ?_)
  refine j_aload_n (pc := 6) dX5_isAhead_6 rfl (q := 0) rfl ?_
  refine j_getr (pc := 7) jv1_4 jm_01 kf_RX5_23 0 kg1_4_3 rfl dX5_isAhead_7 ?_
  refine j_iload_n (pc := 10) dX5_isAhead_10 rfl (q := 2) rfl ?_
  refine j_iald (pc := 11) jv1_37 jm_01 rfl (by decide) ka1_37 dX5_isAhead_11 (fun c3 h4 => ?_)
  refine j_icmp_eq (tgt := 36) (pc := 12) h2 h4 dX5_isAhead_12 (by decide) (fun c5 => ?_) (fun c5 => ?_)
  · skip
    refine j_aload_n (pc := 36) dX5_isAhead_36 rfl (q := 0) rfl ?_
    refine j_getr (pc := 37) jv1_4 jm_01 kf_RX5_27 0 kg1_4_4 rfl dX5_isAhead_37 ?_
    refine j_iload_n (pc := 40) dX5_isAhead_40 rfl (q := 1) rfl ?_
    refine j_iald (pc := 41) jv1_38 jm_01 rfl (by decide) ka1_38 dX5_isAhead_41 (fun c6 h7 => ?_)
    refine j_aload_n (pc := 42) dX5_isAhead_42 rfl (q := 0) rfl ?_
    refine j_getr (pc := 43) jv1_4 jm_01 kf_RX5_27 0 kg1_4_4 rfl dX5_isAhead_43 ?_
    refine j_iload_n (pc := 46) dX5_isAhead_46 rfl (q := 2) rfl ?_
    refine j_iald (pc := 47) jv1_38 jm_01 rfl (by decide) ka1_38 dX5_isAhead_47 (fun c8 h9 => ?_)
    refine j_icmp_lt (tgt := 71) (pc := 48) h7 h9 dX5_isAhead_48 (by decide) (fun c10 => ?_) (fun c10 => ?_)
    · skip
      refine j_iconst (pc := 71) dX5_isAhead_71 ?_
      refine j_goto (tgt := 76) (pc := 72) dX5_isAhead_72 (by decide) ?_
      exact j_iret (pc := 76) (jm_inL (by decide) (by decide)) rfl dX5_isAhead_76
    · skip
      refine j_aload_n (pc := 51) dX5_isAhead_51 rfl (q := 0) rfl ?_
      refine j_getr (pc := 52) jv1_4 jm_01 kf_RX5_27 0 kg1_4_4 rfl dX5_isAhead_52 ?_
      refine j_iload_n (pc := 55) dX5_isAhead_55 rfl (q := 1) rfl ?_
      refine j_iald (pc := 56) jv1_38 jm_01 rfl (by decide) ka1_38 dX5_isAhead_56 (fun c11 h12 => ?_)
      refine j_aload_n (pc := 57) dX5_isAhead_57 rfl (q := 0) rfl ?_
      refine j_getr (pc := 58) jv1_4 jm_01 kf_RX5_27 0 kg1_4_4 rfl dX5_isAhead_58 ?_
      refine j_iload_n (pc := 61) dX5_isAhead_61 rfl (q := 2) rfl ?_
      refine j_iald (pc := 62) jv1_38 jm_01 rfl (by decide) ka1_38 dX5_isAhead_62 (fun c13 h14 => ?_)
      refine j_icmp_ne (tgt := 75) (pc := 63) h12 h14 dX5_isAhead_63 (by decide) (fun c15 => ?_) (fun c15 => ?_)
      · skip
        refine j_iload_n (pc := 66) dX5_isAhead_66 rfl (q := 1) rfl ?_
        refine j_iload_n (pc := 67) dX5_isAhead_67 rfl (q := 2) rfl ?_
        refine j_icmp_ge (tgt := 75) (pc := 68) hl1 hl2 dX5_isAhead_68 (by decide) (fun c16 => ?_) (fun c16 => ?_)
        · skip
          refine j_iconst (pc := 75) dX5_isAhead_75 ?_
          exact j_iret (pc := 76) (jm_inL (by decide) (by decide)) rfl dX5_isAhead_76
        · skip
          refine j_iconst (pc := 71) dX5_isAhead_71 ?_
          refine j_goto (tgt := 76) (pc := 72) dX5_isAhead_72 (by decide) ?_
          exact j_iret (pc := 76) (jm_inL (by decide) (by decide)) rfl dX5_isAhead_76
      · skip
        refine j_iconst (pc := 75) dX5_isAhead_75 ?_
        exact j_iret (pc := 76) (jm_inL (by decide) (by decide)) rfl dX5_isAhead_76
  · skip
    refine j_aload_n (pc := 15) dX5_isAhead_15 rfl (q := 0) rfl ?_
    refine j_getr (pc := 16) jv1_4 jm_01 kf_RX5_23 0 kg1_4_3 rfl dX5_isAhead_16 ?_
    refine j_iload_n (pc := 19) dX5_isAhead_19 rfl (q := 1) rfl ?_
    refine j_iald (pc := 20) jv1_37 jm_01 rfl (by decide) ka1_37 dX5_isAhead_20 (fun c17 h18 => ?_)
    refine j_aload_n (pc := 21) dX5_isAhead_21 rfl (q := 0) rfl ?_
    refine j_getr (pc := 22) jv1_4 jm_01 kf_RX5_23 0 kg1_4_3 rfl dX5_isAhead_22 ?_
    refine j_iload_n (pc := 25) dX5_isAhead_25 rfl (q := 2) rfl ?_
    refine j_iald (pc := 26) jv1_37 jm_01 rfl (by decide) ka1_37 dX5_isAhead_26 (fun c19 h20 => ?_)
    refine j_icmp_le (tgt := 34) (pc := 27) h18 h20 dX5_isAhead_27 (by decide) (fun c21 => ?_) (fun c21 => ?_)
    · skip
      refine j_iconst (pc := 34) dX5_isAhead_34 ?_
      exact j_iret (pc := 35) (jm_inL (by decide) (by decide)) rfl dX5_isAhead_35
    · skip
      refine j_iconst (pc := 30) dX5_isAhead_30 ?_
      refine j_goto (tgt := 35) (pc := 31) dX5_isAhead_31 (by decide) ?_
      exact j_iret (pc := 35) (jm_inL (by decide) (by decide)) rfl dX5_isAhead_35
abbrev rmX5_placeAmong : Room := { frames := 2, cells := 0, slots := 0, locals := 42 }
set_option maxHeartbeats 4000000 in
set_option maxRecDepth 100000 in
theorem bX5_placeAmong_83 (X : jm_X) (fu : Nat) (k27 : jm_M → Int → Int → Int → Int → jm_R) (hk27 : ∀ (M : jm_M) (l1 l2 l3 l4 : Int) (hl1 : jm_in l1) (hl2 : jm_in l2) (hl3 : jm_in l3) (hl4 : jm_in l4), jm_J wd1 (jm_qi .int) cX5_placeAmong 6 RX5 rmX5_placeAmong X M [(0, jm_vr wd1 X 4 0), (1, jm_i l1), (2, jm_i l2), (3, jm_i l3), (4, jm_i l4)] [] 27 (k27 M l1 l2 l3 l4)) : ∀ (M : jm_M) (l1 l2 l3 l4 s0 : Int) (hl1 : jm_in l1) (hl2 : jm_in l2) (hl3 : jm_in l3) (hl4 : jm_in l4) (hs0 : jm_in s0), jm_J wd1 (jm_qi .int) cX5_placeAmong 6 RX5 rmX5_placeAmong X M [(0, jm_vr wd1 X 4 0), (1, jm_i l1), (2, jm_i l2), (3, jm_i l3), (4, jm_i l4)] [jm_i s0] 83 (gX5_placeAmong_83 fu k27 M l1 l2 l3 l4 s0) := by
  intro M l1 l2 l3 l4 s0 hl1 hl2 hl3 hl4 hs0
  unfold gX5_placeAmong_83
  refine j_istore (pc := 83) [(5, jm_i s0), (0, jm_vr wd1 X 4 0), (1, jm_i l1), (2, jm_i l2), (3, jm_i l3), (4, jm_i l4)] dX5_placeAmong_83 (by decide) rfl ?_
  refine j_iload (pc := 85) dX5_placeAmong_85 (q := 0) rfl ?_
  refine j_if_eq (tgt := 103) (pc := 87) hs0 dX5_placeAmong_87 (by decide) (fun c1 => ?_) (fun c1 => ?_)
  · skip
    refine j_iinc (pc := 103) [(5, jm_i s0), (0, jm_vr wd1 X 4 0), (1, jm_i l1), (2, jm_i l2), (3, jm_i l3)] (q := 5) dX5_placeAmong_103 rfl (by decide) (fun _ => rfl) (fun v2 h3 => ?_)
    refine j_goto (tgt := 27) (pc := 106) dX5_placeAmong_106 (by decide) ?_
    refine j_sub (pc := 27) [(0, jm_vr wd1 X 4 0), (1, jm_i l1), (2, jm_i l2), (3, jm_i l3), (4, jm_i v2)] [2, 3, 4, 5, 0] rfl ?_
    exact hk27 M l1 l2 l3 v2 hl1 hl2 hl3 h3
  · skip
    refine j_aload_n (pc := 90) dX5_placeAmong_90 rfl (q := 1) rfl ?_
    refine j_iload (pc := 91) dX5_placeAmong_91 (q := 5) rfl ?_
    refine j_iload_n (pc := 93) dX5_placeAmong_93 rfl (q := 2) rfl ?_
    refine j_callVi2 (pc := 94) (ct_X5_isAhead M l4 l1 hl4 hl1) kg_1117 km_X5_isAhead kv_X5_isAhead rfl rfl ⟨(Nat.le_of_ble_eq_true rfl), (Nat.le_of_ble_eq_true rfl)⟩ jv1_4 jm_01 ko1_4 rfl rfl (Nat.le_of_ble_eq_true rfl) dX5_placeAmong_94 (fun v4 M5 h6 => ?_)
    refine j_if_eq (tgt := 103) (pc := 97) h6 dX5_placeAmong_97 (by decide) (fun c7 => ?_) (fun c7 => ?_)
    · skip
      refine j_iinc (pc := 103) [(5, jm_i s0), (0, jm_vr wd1 X 4 0), (1, jm_i l1), (2, jm_i l2), (3, jm_i l3)] (q := 5) dX5_placeAmong_103 rfl (by decide) (fun _ => rfl) (fun v8 h9 => ?_)
      refine j_goto (tgt := 27) (pc := 106) dX5_placeAmong_106 (by decide) ?_
      refine j_sub (pc := 27) [(0, jm_vr wd1 X 4 0), (1, jm_i l1), (2, jm_i l2), (3, jm_i l3), (4, jm_i v8)] [2, 3, 4, 5, 0] rfl ?_
      exact hk27 M5 l1 l2 l3 v8 hl1 hl2 hl3 h9
    · skip
      refine j_iinc (pc := 100) [(5, jm_i s0), (0, jm_vr wd1 X 4 0), (1, jm_i l1), (2, jm_i l2), (4, jm_i l4)] (q := 4) dX5_placeAmong_100 rfl (by decide) (fun _ => rfl) (fun v10 h11 => ?_)
      refine j_iinc (pc := 103) [(3, jm_i v10), (5, jm_i s0), (0, jm_vr wd1 X 4 0), (1, jm_i l1), (2, jm_i l2)] (q := 5) dX5_placeAmong_103 rfl (by decide) (fun _ => rfl) (fun v12 h13 => ?_)
      refine j_goto (tgt := 27) (pc := 106) dX5_placeAmong_106 (by decide) ?_
      refine j_sub (pc := 27) [(0, jm_vr wd1 X 4 0), (1, jm_i l1), (2, jm_i l2), (3, jm_i v10), (4, jm_i v12)] [3, 4, 5, 1, 0] rfl ?_
      exact hk27 M5 l1 l2 v10 v12 hl1 hl2 h11 h13
set_option maxHeartbeats 4000000 in
set_option maxRecDepth 100000 in
theorem b0X5_placeAmong_27 (X : jm_X) (fu : Nat) (k27 : jm_M → Int → Int → Int → Int → jm_R) (hk27 : ∀ (M : jm_M) (l1 l2 l3 l4 : Int) (hl1 : jm_in l1) (hl2 : jm_in l2) (hl3 : jm_in l3) (hl4 : jm_in l4), jm_J wd1 (jm_qi .int) cX5_placeAmong 6 RX5 rmX5_placeAmong X M [(0, jm_vr wd1 X 4 0), (1, jm_i l1), (2, jm_i l2), (3, jm_i l3), (4, jm_i l4)] [] 27 (k27 M l1 l2 l3 l4)) : ∀ (M : jm_M) (l1 l2 l3 l4 : Int) (hl1 : jm_in l1) (hl2 : jm_in l2) (hl3 : jm_in l3) (hl4 : jm_in l4), jm_J wd1 (jm_qi .int) cX5_placeAmong 6 RX5 rmX5_placeAmong X M [(0, jm_vr wd1 X 4 0), (1, jm_i l1), (2, jm_i l2), (3, jm_i l3), (4, jm_i l4)] [] 27 (gX5_placeAmong_27 fu k27 M l1 l2 l3 l4) := by
  intro M l1 l2 l3 l4 hl1 hl2 hl3 hl4
  unfold gX5_placeAmong_27
  refine j_iload (pc := 27) dX5_placeAmong_27 (q := 4) rfl ?_
  refine j_aload_n (pc := 29) dX5_placeAmong_29 rfl (q := 0) rfl ?_
  refine j_getr (pc := 30) jv1_4 jm_01 kf_RX5_9 0 kg1_4_0 rfl dX5_placeAmong_30 ?_
  refine j_geti (pc := 33) jv1_2 jm_01 kf_RX5_30 kg1_2_5 dX5_placeAmong_33 (fun h1 => ?_)
  refine j_icmp_ge (tgt := 109) (pc := 36) hl4 h1 dX5_placeAmong_36 (by decide) (fun c2 => ?_) (fun c2 => ?_)
  · skip
    refine j_iload_n (pc := 109) dX5_placeAmong_109 rfl (q := 3) rfl ?_
    exact j_iret (pc := 110) hl3 rfl dX5_placeAmong_110
  · skip
    refine j_iload (pc := 39) dX5_placeAmong_39 (q := 4) rfl ?_
    refine j_bipush (pc := 41) 6 dX5_placeAmong_41 (by decide) ?_
    refine j_icmp_ge (tgt := 109) (pc := 43) hl4 (jm_inL (by decide) (by decide)) dX5_placeAmong_43 (by decide) (fun c3 => ?_) (fun c3 => ?_)
    · skip
      refine j_iload_n (pc := 109) dX5_placeAmong_109 rfl (q := 3) rfl ?_
      exact j_iret (pc := 110) hl3 rfl dX5_placeAmong_110
    · skip
      refine j_aload_n (pc := 46) dX5_placeAmong_46 rfl (q := 0) rfl ?_
      refine j_getr (pc := 47) jv1_4 jm_01 kf_RX5_19 0 kg1_4_2 rfl dX5_placeAmong_47 ?_
      refine j_iload (pc := 50) dX5_placeAmong_50 (q := 4) rfl ?_
      refine j_bald (pc := 52) jv1_36 jm_01 rfl (by decide) ka1_36 dX5_placeAmong_52 (fun c4 h5 => ?_)
      refine j_if_eq (tgt := 82) (pc := 53) h5 dX5_placeAmong_53 (by decide) (fun c6 => ?_) (fun c6 => ?_)
      · skip
        refine j_iconst (pc := 82) dX5_placeAmong_82 ?_
        refine j_sub (pc := 83) [(0, jm_vr wd1 X 4 0), (1, jm_i l1), (2, jm_i l2), (3, jm_i l3), (4, jm_i l4)] [0, 1, 2, 3, 4] rfl ?_
        exact bX5_placeAmong_83 X fu k27 hk27 M l1 l2 l3 l4 0 hl1 hl2 hl3 hl4 (jm_inL (by decide) (by decide))
      · skip
        refine j_iload_n (pc := 56) dX5_placeAmong_56 rfl (q := 2) rfl ?_
        refine j_iconst (pc := 57) dX5_placeAmong_57 ?_
        refine j_icmp_eq (tgt := 78) (pc := 58) hl2 (jm_inL (by decide) (by decide)) dX5_placeAmong_58 (by decide) (fun c7 => ?_) (fun c7 => ?_)
        · skip
          refine j_iconst (pc := 78) dX5_placeAmong_78 ?_
          refine j_goto (tgt := 83) (pc := 79) dX5_placeAmong_79 (by decide) ?_
          refine j_sub (pc := 83) [(0, jm_vr wd1 X 4 0), (1, jm_i l1), (2, jm_i l2), (3, jm_i l3), (4, jm_i l4)] [0, 1, 2, 3, 4] rfl ?_
          exact bX5_placeAmong_83 X fu k27 hk27 M l1 l2 l3 l4 1 hl1 hl2 hl3 hl4 (jm_inL (by decide) (by decide))
        · skip
          refine j_aload_n (pc := 61) dX5_placeAmong_61 rfl (q := 0) rfl ?_
          refine j_getr (pc := 62) jv1_4 jm_01 kf_RX5_9 0 kg1_4_0 rfl dX5_placeAmong_62 ?_
          refine j_getr (pc := 65) jv1_2 jm_01 kf_RX5_44 0 kg1_2_2 rfl dX5_placeAmong_65 ?_
          refine j_iload (pc := 68) dX5_placeAmong_68 (q := 4) rfl ?_
          refine j_aald (pc := 70) jv1_46 jm_01 (by decide) kr1_46 dX5_placeAmong_70 (fun c8 => ?_)
          refine j_geti (pc := 71) jv1_8 (by omega) kf_RX5_73 kg1_8_4 dX5_placeAmong_71 (fun h9 => ?_)
          refine j_iload_n (pc := 74) dX5_placeAmong_74 rfl (q := 2) rfl ?_
          refine j_icmp_ne (tgt := 82) (pc := 75) h9 hl2 dX5_placeAmong_75 (by decide) (fun c10 => ?_) (fun c10 => ?_)
          · skip
            refine j_iconst (pc := 78) dX5_placeAmong_78 ?_
            refine j_goto (tgt := 83) (pc := 79) dX5_placeAmong_79 (by decide) ?_
            refine j_sub (pc := 83) [(0, jm_vr wd1 X 4 0), (1, jm_i l1), (2, jm_i l2), (3, jm_i l3), (4, jm_i l4)] [0, 1, 2, 3, 4] rfl ?_
            exact bX5_placeAmong_83 X fu k27 hk27 M l1 l2 l3 l4 1 hl1 hl2 hl3 hl4 (jm_inL (by decide) (by decide))
          · skip
            refine j_iconst (pc := 82) dX5_placeAmong_82 ?_
            refine j_sub (pc := 83) [(0, jm_vr wd1 X 4 0), (1, jm_i l1), (2, jm_i l2), (3, jm_i l3), (4, jm_i l4)] [0, 1, 2, 3, 4] rfl ?_
            exact bX5_placeAmong_83 X fu k27 hk27 M l1 l2 l3 l4 0 hl1 hl2 hl3 hl4 (jm_inL (by decide) (by decide))
theorem bX5_placeAmong_27 (X : jm_X) (fu : Nat) : ∀ (n : Nat) (M : jm_M) (l1 l2 l3 l4 : Int) (hl1 : jm_in l1) (hl2 : jm_in l2) (hl3 : jm_in l3) (hl4 : jm_in l4), jm_J wd1 (jm_qi .int) cX5_placeAmong 6 RX5 rmX5_placeAmong X M [(0, jm_vr wd1 X 4 0), (1, jm_i l1), (2, jm_i l2), (3, jm_i l3), (4, jm_i l4)] [] 27 (fX5_placeAmong_27 fu n M l1 l2 l3 l4) := by
  intro n
  induction n with
  | zero => intro M l1 l2 l3 l4 hl1 hl2 hl3 hl4; exact j_none
  | succ n ih => intro M l1 l2 l3 l4 hl1 hl2 hl3 hl4; exact b0X5_placeAmong_27 X fu (fX5_placeAmong_27 fu n) ih M l1 l2 l3 l4 hl1 hl2 hl3 hl4
set_option maxHeartbeats 4000000 in
set_option maxRecDepth 100000 in
theorem ct_X5_placeAmong (fu : Nat) (M : jm_M) (l1 l2 : Int) (hl1 : jm_in l1) (hl2 : jm_in l2) : jm_Ci wd1 yX5_placeAmong cX5_placeAmong 6 (some .int) rmX5_placeAmong M (fun G ad => [.ref (ad (jm_r wd1 4 0)), jm_i l1, jm_i l2]) (fX5_placeAmong fu M l1 l2) := by
  refine jm_met_i (fun X => [(0, jm_vr wd1 X 4 0), (1, jm_i l1), (2, jm_i l2)]) (by decide) (fun _ _ => (Nat.le_of_ble_eq_true rfl)) (fun _ => rfl) (fun X => ?_)
  unfold fX5_placeAmong
  refine j_aload_n (pc := 0) dX5_placeAmong_0 rfl (q := 0) rfl ?_
  refine j_getr (pc := 1) jv1_4 jm_01 kf_RX5_9 0 kg1_4_0 rfl dX5_placeAmong_1 ?_
  refine j_iload_n (pc := 4) dX5_placeAmong_4 rfl (q := 1) rfl ?_
  refine j_callVi1 (pc := 5) (ct_X2_has M l1 hl1) kg_1116 km_X2_has kv_X2_has rfl rfl ⟨(Nat.le_of_ble_eq_true rfl), (Nat.le_of_ble_eq_true rfl)⟩ jv1_2 jm_01 ko1_2 rfl rfl (Nat.le_of_ble_eq_true rfl) dX5_placeAmong_5 (fun v1 M2 h3 => ?_)
  refine j_if_eq (tgt := 20) (pc := 8) h3 dX5_placeAmong_8 (by decide) (fun c4 => ?_) (fun c4 => ?_)
  · skip
    refine j_iconst (pc := 20) dX5_placeAmong_20 ?_
    exact j_iret (pc := 21) (jm_inL (by decide) (by decide)) rfl dX5_placeAmong_21
  · skip
    refine j_aload_n (pc := 11) dX5_placeAmong_11 rfl (q := 0) rfl ?_
    refine j_getr (pc := 12) jv1_4 jm_01 kf_RX5_19 0 kg1_4_2 rfl dX5_placeAmong_12 ?_
    refine j_iload_n (pc := 15) dX5_placeAmong_15 rfl (q := 1) rfl ?_
    refine j_bald (pc := 16) jv1_36 jm_01 rfl (by decide) ka1_36 dX5_placeAmong_16 (fun c5 h6 => ?_)
    refine j_if_ne (tgt := 22) (pc := 17) h6 dX5_placeAmong_17 (by decide) (fun c7 => ?_) (fun c7 => ?_)
    · skip
      refine j_iconst (pc := 20) dX5_placeAmong_20 ?_
      exact j_iret (pc := 21) (jm_inL (by decide) (by decide)) rfl dX5_placeAmong_21
    · skip
      refine j_iconst (pc := 22) dX5_placeAmong_22 ?_
      refine j_istore_n (pc := 23) [(3, jm_i 0), (0, jm_vr wd1 X 4 0), (1, jm_i l1), (2, jm_i l2)] dX5_placeAmong_23 rfl (by decide) rfl ?_
      refine j_iconst (pc := 24) dX5_placeAmong_24 ?_
      refine j_istore (pc := 25) [(4, jm_i 0), (3, jm_i 0), (0, jm_vr wd1 X 4 0), (1, jm_i l1), (2, jm_i l2)] dX5_placeAmong_25 (by decide) rfl ?_
      refine j_sub (pc := 27) [(0, jm_vr wd1 X 4 0), (1, jm_i l1), (2, jm_i l2), (3, jm_i 0), (4, jm_i 0)] [2, 3, 4, 1, 0] rfl ?_
      exact bX5_placeAmong_27 X fu  fu M2 l1 l2 0 0 hl1 hl2 (jm_inL (by decide) (by decide)) (jm_inL (by decide) (by decide))
abbrev rmX11_place : Room := { frames := 7, cells := 0, slots := 0, locals := 178 }
set_option maxHeartbeats 4000000 in
set_option maxRecDepth 100000 in
theorem ct_X11_place (fu : Nat) (M : jm_M) (l1 l2 : Int) (hl1 : jm_in l1) (hl2 : jm_in l2) : jm_Ci wd1 yX11_place cX11_place 3 (some .int) rmX11_place M (fun G ad => [.ref (ad (jm_r wd1 0 0)), jm_i l1, jm_i l2]) (fX11_place fu M l1 l2) := by
  refine jm_met_i (fun X => [(0, jm_vr wd1 X 0 0), (1, jm_i l1), (2, jm_i l2)]) (by decide) (fun _ _ => (Nat.le_of_ble_eq_true rfl)) (fun _ => rfl) (fun X => ?_)
  unfold fX11_place
  refine j_aload_n (pc := 0) dX11_place_0 rfl (q := 0) rfl ?_
  refine j_getr (pc := 1) jv1_0 jm_01 kf_RX11_24 0 kg1_0_1 rfl dX11_place_1 ?_
  refine j_iload_n (pc := 4) dX11_place_4 rfl (q := 1) rfl ?_
  refine j_callVi1 (pc := 5) (ct_X2_has M l1 hl1) kg_619 km_X2_has kv_X2_has rfl rfl ⟨(Nat.le_of_ble_eq_true rfl), (Nat.le_of_ble_eq_true rfl)⟩ jv1_2 jm_01 ko1_2 rfl rfl (Nat.le_of_ble_eq_true rfl) dX11_place_5 (fun v1 M2 h3 => ?_)
  refine j_if_eq (tgt := 18) (pc := 8) h3 dX11_place_8 (by decide) (fun c4 => ?_) (fun c4 => ?_)
  · skip
    refine j_iconst (pc := 18) dX11_place_18 ?_
    exact j_iret (pc := 19) (jm_inL (by decide) (by decide)) rfl dX11_place_19
  · skip
    refine j_iload_n (pc := 11) dX11_place_11 rfl (q := 2) rfl ?_
    refine j_callSi1 (pc := 12) (ct_X11_isDay M2 l2 hl2) kg_1055 km_X11_isDay kg_1056 rfl rfl ⟨(Nat.le_of_ble_eq_true rfl), (Nat.le_of_ble_eq_true rfl)⟩ rfl rfl (Nat.le_of_ble_eq_true rfl) dX11_place_12 (fun v5 M6 h7 => ?_)
    refine j_if_ne (tgt := 20) (pc := 15) h7 dX11_place_15 (by decide) (fun c8 => ?_) (fun c8 => ?_)
    · skip
      refine j_iconst (pc := 18) dX11_place_18 ?_
      exact j_iret (pc := 19) (jm_inL (by decide) (by decide)) rfl dX11_place_19
    · skip
      refine j_aload_n (pc := 20) dX11_place_20 rfl (q := 0) rfl ?_
      refine j_getr (pc := 21) jv1_0 jm_01 kf_RX11_24 0 kg1_0_1 rfl dX11_place_21 ?_
      refine j_callVv0 (pc := 24) (ct_X2_reckon fu M6 ) kg_857 km_X2_reckon kv_X2_reckon rfl rfl ⟨(Nat.le_of_ble_eq_true rfl), (Nat.le_of_ble_eq_true rfl)⟩ jv1_2 jm_01 ko1_2 rfl rfl (Nat.le_of_ble_eq_true rfl) dX11_place_24 (fun v9 M10 => ?_)
      refine j_aload_n (pc := 27) dX11_place_27 rfl (q := 0) rfl ?_
      refine j_getr (pc := 28) jv1_0 jm_01 kf_RX11_42 0 kg1_0_3 rfl dX11_place_28 ?_
      refine j_iload_n (pc := 31) dX11_place_31 rfl (q := 2) rfl ?_
      refine j_callVv1 (pc := 32) (ct_X5_reckonFor fu M10 l2 hl2) kg_1101 km_X5_reckonFor kv_X5_reckonFor rfl rfl ⟨(Nat.le_of_ble_eq_true rfl), (Nat.le_of_ble_eq_true rfl)⟩ jv1_4 jm_01 ko1_4 rfl rfl (Nat.le_of_ble_eq_true rfl) dX11_place_32 (fun v11 M12 => ?_)
      refine j_aload_n (pc := 35) dX11_place_35 rfl (q := 0) rfl ?_
      refine j_getr (pc := 36) jv1_0 jm_01 kf_RX11_42 0 kg1_0_3 rfl dX11_place_36 ?_
      refine j_iload_n (pc := 39) dX11_place_39 rfl (q := 1) rfl ?_
      refine j_iconst (pc := 40) dX11_place_40 ?_
      refine j_callVi2 (pc := 41) (ct_X5_placeAmong fu M12 l1 (-1) hl1 (jm_inL (by decide) (by decide))) kg_1112 km_X5_placeAmong kv_X5_placeAmong rfl rfl ⟨(Nat.le_of_ble_eq_true rfl), (Nat.le_of_ble_eq_true rfl)⟩ jv1_4 jm_01 ko1_4 rfl rfl (Nat.le_of_ble_eq_true rfl) dX11_place_41 (fun v13 M14 h15 => ?_)
      exact j_iret (pc := 44) h15 rfl dX11_place_44
abbrev rmX11_sum : Room := { frames := 7, cells := 1, slots := 6, locals := 178 }
set_option maxHeartbeats 4000000 in
set_option maxRecDepth 100000 in
theorem ct_X11_sum (fu : Nat) (M : jm_M) (l1 l2 : Int) (hl1 : jm_in l1) (hl2 : jm_in l2) : jm_Cx wd1 yX11_sum cX11_sum 3 (some .int) rmX11_sum M (fun G ad => [.ref (ad (jm_r wd1 0 0)), jm_i l1, jm_i l2]) (fX11_sum fu M l1 l2) := by
  refine jm_met_x (fun X => [(0, jm_vr wd1 X 0 0), (1, jm_i l1), (2, jm_i l2)]) (by decide) (fun _ _ => (Nat.le_of_ble_eq_true rfl)) (fun _ => rfl) (fun X => ?_)
  unfold fX11_sum
  refine j_aload_n (pc := 0) dX11_sum_0 rfl (q := 0) rfl ?_
  refine j_getr (pc := 1) jv1_0 jm_01 kf_RX11_24 0 kg1_0_1 rfl dX11_sum_1 ?_
  refine j_iload_n (pc := 4) dX11_sum_4 rfl (q := 1) rfl ?_
  refine j_callVi1 (pc := 5) (ct_X2_has M l1 hl1) kg_619 km_X2_has kv_X2_has rfl rfl ⟨(Nat.le_of_ble_eq_true rfl), (Nat.le_of_ble_eq_true rfl)⟩ jv1_2 jm_01 ko1_2 rfl rfl (Nat.le_of_ble_eq_true rfl) dX11_sum_5 (fun v1 M2 h3 => ?_)
  refine j_if_eq (tgt := 18) (pc := 8) h3 dX11_sum_8 (by decide) (fun c4 => ?_) (fun c4 => ?_)
  · skip
    exact j_throw (pc := 18) dX11_sum_18 dX11_sum_21 dX11_sum_22 dX11_sum_25
  · skip
    refine j_iload_n (pc := 11) dX11_sum_11 rfl (q := 2) rfl ?_
    refine j_callSi1 (pc := 12) (ct_X11_isDay M2 l2 hl2) kg_1055 km_X11_isDay kg_1056 rfl rfl ⟨(Nat.le_of_ble_eq_true rfl), (Nat.le_of_ble_eq_true rfl)⟩ rfl rfl (Nat.le_of_ble_eq_true rfl) dX11_sum_12 (fun v5 M6 h7 => ?_)
    refine j_if_ne (tgt := 26) (pc := 15) h7 dX11_sum_15 (by decide) (fun c8 => ?_) (fun c8 => ?_)
    · skip
      exact j_throw (pc := 18) dX11_sum_18 dX11_sum_21 dX11_sum_22 dX11_sum_25
    · skip
      refine j_aload_n (pc := 26) dX11_sum_26 rfl (q := 0) rfl ?_
      refine j_getr (pc := 27) jv1_0 jm_01 kf_RX11_24 0 kg1_0_1 rfl dX11_sum_27 ?_
      refine j_callVv0 (pc := 30) (ct_X2_reckon fu M6 ) kg_857 km_X2_reckon kv_X2_reckon rfl rfl ⟨(Nat.le_of_ble_eq_true rfl), (Nat.le_of_ble_eq_true rfl)⟩ jv1_2 jm_01 ko1_2 rfl rfl (Nat.le_of_ble_eq_true rfl) dX11_sum_30 (fun v9 M10 => ?_)
      refine j_aload_n (pc := 33) dX11_sum_33 rfl (q := 0) rfl ?_
      refine j_getr (pc := 34) jv1_0 jm_01 kf_RX11_42 0 kg1_0_3 rfl dX11_sum_34 ?_
      refine j_iload_n (pc := 37) dX11_sum_37 rfl (q := 2) rfl ?_
      refine j_callVv1 (pc := 38) (ct_X5_reckonFor fu M10 l2 hl2) kg_1101 km_X5_reckonFor kv_X5_reckonFor rfl rfl ⟨(Nat.le_of_ble_eq_true rfl), (Nat.le_of_ble_eq_true rfl)⟩ jv1_4 jm_01 ko1_4 rfl rfl (Nat.le_of_ble_eq_true rfl) dX11_sum_38 (fun v11 M12 => ?_)
      refine j_aload_n (pc := 41) dX11_sum_41 rfl (q := 0) rfl ?_
      refine j_getr (pc := 42) jv1_0 jm_01 kf_RX11_42 0 kg1_0_3 rfl dX11_sum_42 ?_
      refine j_getr (pc := 45) jv1_4 jm_01 kf_RX11_279 0 kg1_4_2 rfl dX11_sum_45 ?_
      refine j_iload_n (pc := 48) dX11_sum_48 rfl (q := 1) rfl ?_
      refine j_bald (pc := 49) jv1_36 jm_01 rfl (by decide) ka1_36 dX11_sum_49 (fun c13 h14 => ?_)
      refine j_if_ne (tgt := 61) (pc := 50) h14 dX11_sum_50 (by decide) (fun c15 => ?_) (fun c15 => ?_)
      · skip
        exact j_throw (pc := 53) dX11_sum_53 dX11_sum_56 dX11_sum_57 dX11_sum_60
      · skip
        refine j_aload_n (pc := 61) dX11_sum_61 rfl (q := 0) rfl ?_
        refine j_getr (pc := 62) jv1_0 jm_01 kf_RX11_42 0 kg1_0_3 rfl dX11_sum_62 ?_
        refine j_getr (pc := 65) jv1_4 jm_01 kf_RX11_283 0 kg1_4_4 rfl dX11_sum_65 ?_
        refine j_iload_n (pc := 68) dX11_sum_68 rfl (q := 1) rfl ?_
        refine j_iald (pc := 69) jv1_38 jm_01 rfl (by decide) ka1_38 dX11_sum_69 (fun c16 h17 => ?_)
        exact j_ixret (pc := 70) h17 dX11_sum_70
abbrev rmX11_within : Room := { frames := 7, cells := 0, slots := 0, locals := 178 }
set_option maxHeartbeats 4000000 in
set_option maxRecDepth 100000 in
theorem ct_X11_within (fu : Nat) (M : jm_M) (l1 l2 : Int) (hl1 : jm_in l1) (hl2 : jm_in l2) : jm_Ci wd1 yX11_within cX11_within 3 (some .int) rmX11_within M (fun G ad => [.ref (ad (jm_r wd1 0 0)), jm_i l1, jm_i l2]) (fX11_within fu M l1 l2) := by
  refine jm_met_i (fun X => [(0, jm_vr wd1 X 0 0), (1, jm_i l1), (2, jm_i l2)]) (by decide) (fun _ _ => (Nat.le_of_ble_eq_true rfl)) (fun _ => rfl) (fun X => ?_)
  unfold fX11_within
  refine j_aload_n (pc := 0) dX11_within_0 rfl (q := 0) rfl ?_
  refine j_getr (pc := 1) jv1_0 jm_01 kf_RX11_24 0 kg1_0_1 rfl dX11_within_1 ?_
  refine j_iload_n (pc := 4) dX11_within_4 rfl (q := 1) rfl ?_
  refine j_callVi1 (pc := 5) (ct_X2_has M l1 hl1) kg_619 km_X2_has kv_X2_has rfl rfl ⟨(Nat.le_of_ble_eq_true rfl), (Nat.le_of_ble_eq_true rfl)⟩ jv1_2 jm_01 ko1_2 rfl rfl (Nat.le_of_ble_eq_true rfl) dX11_within_5 (fun v1 M2 h3 => ?_)
  refine j_if_eq (tgt := 18) (pc := 8) h3 dX11_within_8 (by decide) (fun c4 => ?_) (fun c4 => ?_)
  · skip
    refine j_iconst (pc := 18) dX11_within_18 ?_
    exact j_iret (pc := 19) (jm_inL (by decide) (by decide)) rfl dX11_within_19
  · skip
    refine j_iload_n (pc := 11) dX11_within_11 rfl (q := 2) rfl ?_
    refine j_callSi1 (pc := 12) (ct_X11_isDay M2 l2 hl2) kg_1055 km_X11_isDay kg_1056 rfl rfl ⟨(Nat.le_of_ble_eq_true rfl), (Nat.le_of_ble_eq_true rfl)⟩ rfl rfl (Nat.le_of_ble_eq_true rfl) dX11_within_12 (fun v5 M6 h7 => ?_)
    refine j_if_ne (tgt := 20) (pc := 15) h7 dX11_within_15 (by decide) (fun c8 => ?_) (fun c8 => ?_)
    · skip
      refine j_iconst (pc := 18) dX11_within_18 ?_
      exact j_iret (pc := 19) (jm_inL (by decide) (by decide)) rfl dX11_within_19
    · skip
      refine j_aload_n (pc := 20) dX11_within_20 rfl (q := 0) rfl ?_
      refine j_getr (pc := 21) jv1_0 jm_01 kf_RX11_24 0 kg1_0_1 rfl dX11_within_21 ?_
      refine j_callVv0 (pc := 24) (ct_X2_reckon fu M6 ) kg_857 km_X2_reckon kv_X2_reckon rfl rfl ⟨(Nat.le_of_ble_eq_true rfl), (Nat.le_of_ble_eq_true rfl)⟩ jv1_2 jm_01 ko1_2 rfl rfl (Nat.le_of_ble_eq_true rfl) dX11_within_24 (fun v9 M10 => ?_)
      refine j_aload_n (pc := 27) dX11_within_27 rfl (q := 0) rfl ?_
      refine j_getr (pc := 28) jv1_0 jm_01 kf_RX11_42 0 kg1_0_3 rfl dX11_within_28 ?_
      refine j_iload_n (pc := 31) dX11_within_31 rfl (q := 2) rfl ?_
      refine j_callVv1 (pc := 32) (ct_X5_reckonFor fu M10 l2 hl2) kg_1101 km_X5_reckonFor kv_X5_reckonFor rfl rfl ⟨(Nat.le_of_ble_eq_true rfl), (Nat.le_of_ble_eq_true rfl)⟩ jv1_4 jm_01 ko1_4 rfl rfl (Nat.le_of_ble_eq_true rfl) dX11_within_32 (fun v11 M12 => ?_)
      refine j_aload_n (pc := 35) dX11_within_35 rfl (q := 0) rfl ?_
      refine j_getr (pc := 36) jv1_0 jm_01 kf_RX11_42 0 kg1_0_3 rfl dX11_within_36 ?_
      refine j_iload_n (pc := 39) dX11_within_39 rfl (q := 1) rfl ?_
      refine j_aload_n (pc := 40) dX11_within_40 rfl (q := 0) rfl ?_
      refine j_getr (pc := 41) jv1_0 jm_01 kf_RX11_24 0 kg1_0_1 rfl dX11_within_41 ?_
      refine j_getr (pc := 44) jv1_2 jm_01 kf_RX11_148 0 kg1_2_2 rfl dX11_within_44 ?_
      refine j_iload_n (pc := 47) dX11_within_47 rfl (q := 1) rfl ?_
      refine j_aald (pc := 48) jv1_46 jm_01 (by decide) kr1_46 dX11_within_48 (fun c13 => ?_)
      refine j_geti (pc := 49) jv1_8 (by omega) kf_RX11_169 kg1_8_4 dX11_within_49 (fun h14 => ?_)
      refine j_callVi2 (pc := 52) (ct_X5_placeAmong fu M12 l1 (M12 8 l1 4) hl1 h14) kg_1112 km_X5_placeAmong kv_X5_placeAmong rfl rfl ⟨(Nat.le_of_ble_eq_true rfl), (Nat.le_of_ble_eq_true rfl)⟩ jv1_4 jm_01 ko1_4 rfl rfl (Nat.le_of_ble_eq_true rfl) dX11_within_52 (fun v15 M16 h17 => ?_)
      exact j_iret (pc := 55) h17 rfl dX11_within_55
abbrev rmX11_result : Room := { frames := 7, cells := 0, slots := 0, locals := 178 }
set_option maxHeartbeats 4000000 in
set_option maxRecDepth 100000 in
theorem b0X11_result_28 (X : jm_X) (fu : Nat) (k28 : jm_M → Int → Int → jm_R) (hk28 : ∀ (M : jm_M) (l2 l3 : Int) (hl2 : jm_in l2) (hl3 : jm_in l3), jm_J wd1 (jm_qi .int) cX11_result 5 RX11 rmX11_result X M [(0, jm_vr wd1 X 0 0), (2, jm_i l2), (3, jm_i l3)] [] 28 (k28 M l2 l3)) : ∀ (M : jm_M) (l2 l3 : Int) (hl2 : jm_in l2) (hl3 : jm_in l3), jm_J wd1 (jm_qi .int) cX11_result 5 RX11 rmX11_result X M [(0, jm_vr wd1 X 0 0), (2, jm_i l2), (3, jm_i l3)] [] 28 (gX11_result_28 fu k28 M l2 l3) := by
  intro M l2 l3 hl2 hl3
  unfold gX11_result_28
  refine j_iload_n (pc := 28) dX11_result_28 rfl (q := 2) rfl ?_
  refine j_aload_n (pc := 29) dX11_result_29 rfl (q := 0) rfl ?_
  refine j_getr (pc := 30) jv1_0 jm_01 kf_RX11_24 0 kg1_0_1 rfl dX11_result_30 ?_
  refine j_geti (pc := 33) jv1_2 jm_01 kf_RX11_80 kg1_2_5 dX11_result_33 (fun h1 => ?_)
  refine j_icmp_ge (tgt := 83) (pc := 36) hl3 h1 dX11_result_36 (by decide) (fun c2 => ?_) (fun c2 => ?_)
  · skip
    refine j_aload_n (pc := 83) dX11_result_83 rfl (q := 0) rfl ?_
    refine j_iload_n (pc := 84) dX11_result_84 rfl (q := 1) rfl ?_
    refine j_put (pc := 85) jv1_0 jm_01 kf_RX11_215 wI1 kp_X11_9 kx1_0_9 hl2 rfl rfl dX11_result_85 (fun M3 => ?_)
    refine j_iload_n (pc := 88) dX11_result_88 rfl (q := 1) rfl ?_
    exact j_iret (pc := 89) hl2 rfl dX11_result_89
  · skip
    refine j_iload_n (pc := 39) dX11_result_39 rfl (q := 2) rfl ?_
    refine j_bipush (pc := 40) 6 dX11_result_40 (by decide) ?_
    refine j_icmp_ge (tgt := 83) (pc := 42) hl3 (jm_inL (by decide) (by decide)) dX11_result_42 (by decide) (fun c4 => ?_) (fun c4 => ?_)
    · skip
      refine j_aload_n (pc := 83) dX11_result_83 rfl (q := 0) rfl ?_
      refine j_iload_n (pc := 84) dX11_result_84 rfl (q := 1) rfl ?_
      refine j_put (pc := 85) jv1_0 jm_01 kf_RX11_215 wI1 kp_X11_9 kx1_0_9 hl2 rfl rfl dX11_result_85 (fun M5 => ?_)
      refine j_iload_n (pc := 88) dX11_result_88 rfl (q := 1) rfl ?_
      exact j_iret (pc := 89) hl2 rfl dX11_result_89
    · skip
      refine j_aload_n (pc := 45) dX11_result_45 rfl (q := 0) rfl ?_
      refine j_getr (pc := 46) jv1_0 jm_01 kf_RX11_42 0 kg1_0_3 rfl dX11_result_46 ?_
      refine j_iload_n (pc := 49) dX11_result_49 rfl (q := 2) rfl ?_
      refine j_iconst (pc := 50) dX11_result_50 ?_
      refine j_callVi2 (pc := 51) (ct_X5_placeAmong fu M l3 (-1) hl3 (jm_inL (by decide) (by decide))) kg_1112 km_X5_placeAmong kv_X5_placeAmong rfl rfl ⟨(Nat.le_of_ble_eq_true rfl), (Nat.le_of_ble_eq_true rfl)⟩ jv1_4 jm_01 ko1_4 rfl rfl (Nat.le_of_ble_eq_true rfl) dX11_result_51 (fun v6 M7 h8 => ?_)
      refine j_istore (pc := 54) [(4, jm_i v6), (0, jm_vr wd1 X 0 0), (2, jm_i l2), (3, jm_i l3)] dX11_result_54 (by decide) rfl ?_
      refine j_iload (pc := 56) dX11_result_56 (q := 0) rfl ?_
      refine j_bipush (pc := 58) 6 dX11_result_58 (by decide) ?_
      refine j_callSi2 (pc := 60) (ct_X11_isIndex M7 v6 6 h8 (jm_inL (by decide) (by decide))) kg_572 km_X11_isIndex kg_562 rfl rfl ⟨(Nat.le_of_ble_eq_true rfl), (Nat.le_of_ble_eq_true rfl)⟩ rfl rfl (Nat.le_of_ble_eq_true rfl) dX11_result_60 (fun v9 M10 h11 => ?_)
      refine j_if_eq (tgt := 77) (pc := 63) h11 dX11_result_63 (by decide) (fun c12 => ?_) (fun c12 => ?_)
      · skip
        refine j_iinc (pc := 77) [(4, jm_i v6), (0, jm_vr wd1 X 0 0), (2, jm_i l2)] (q := 3) dX11_result_77 rfl (by decide) (fun _ => rfl) (fun v13 h14 => ?_)
        refine j_goto (tgt := 28) (pc := 80) dX11_result_80 (by decide) ?_
        refine j_sub (pc := 28) [(0, jm_vr wd1 X 0 0), (2, jm_i l2), (3, jm_i v13)] [2, 3, 0] rfl ?_
        exact hk28 M10 l2 v13 hl2 h14
      · skip
        refine j_aload_n (pc := 66) dX11_result_66 rfl (q := 1) rfl ?_
        refine j_getr (pc := 67) jv1_0 jm_01 kf_RX11_66 0 kg1_0_8 rfl dX11_result_67 ?_
        refine j_iload (pc := 70) dX11_result_70 (q := 0) rfl ?_
        refine j_iload_n (pc := 72) dX11_result_72 rfl (q := 3) rfl ?_
        refine j_iast (pc := 73) jv1_13 jm_01 rfl (by decide) wI1 ka1_13 hl3 dX11_result_73 (fun c15 M16 => ?_)
        refine j_iinc (pc := 74) [(4, jm_i v6), (0, jm_vr wd1 X 0 0), (3, jm_i l3)] (q := 2) dX11_result_74 rfl (by decide) (fun _ => rfl) (fun v17 h18 => ?_)
        refine j_iinc (pc := 77) [(2, jm_i v17), (4, jm_i v6), (0, jm_vr wd1 X 0 0)] (q := 3) dX11_result_77 rfl (by decide) (fun _ => rfl) (fun v19 h20 => ?_)
        refine j_goto (tgt := 28) (pc := 80) dX11_result_80 (by decide) ?_
        refine j_sub (pc := 28) [(0, jm_vr wd1 X 0 0), (2, jm_i v17), (3, jm_i v19)] [3, 1, 0] rfl ?_
        exact hk28 M16 v17 v19 h18 h20
theorem bX11_result_28 (X : jm_X) (fu : Nat) : ∀ (n : Nat) (M : jm_M) (l2 l3 : Int) (hl2 : jm_in l2) (hl3 : jm_in l3), jm_J wd1 (jm_qi .int) cX11_result 5 RX11 rmX11_result X M [(0, jm_vr wd1 X 0 0), (2, jm_i l2), (3, jm_i l3)] [] 28 (fX11_result_28 fu n M l2 l3) := by
  intro n
  induction n with
  | zero => intro M l2 l3 hl2 hl3; exact j_none
  | succ n ih => intro M l2 l3 hl2 hl3; exact b0X11_result_28 X fu (fX11_result_28 fu n) ih M l2 l3 hl2 hl3
set_option maxHeartbeats 4000000 in
set_option maxRecDepth 100000 in
theorem ct_X11_result (fu : Nat) (M : jm_M) (l1 : Int) (hl1 : jm_in l1) : jm_Ci wd1 yX11_result cX11_result 5 (some .int) rmX11_result M (fun G ad => [.ref (ad (jm_r wd1 0 0)), jm_i l1]) (fX11_result fu M l1) := by
  refine jm_met_i (fun X => [(0, jm_vr wd1 X 0 0), (1, jm_i l1)]) (by decide) (fun _ _ => (Nat.le_of_ble_eq_true rfl)) (fun _ => rfl) (fun X => ?_)
  unfold fX11_result
  refine j_iload_n (pc := 0) dX11_result_0 rfl (q := 1) rfl ?_
  refine j_callSi1 (pc := 1) (ct_X11_isDay M l1 hl1) kg_1055 km_X11_isDay kg_1056 rfl rfl ⟨(Nat.le_of_ble_eq_true rfl), (Nat.le_of_ble_eq_true rfl)⟩ rfl rfl (Nat.le_of_ble_eq_true rfl) dX11_result_1 (fun v1 M2 h3 => ?_)
  refine j_if_ne (tgt := 9) (pc := 4) h3 dX11_result_4 (by decide) (fun c4 => ?_) (fun c4 => ?_)
  · skip
    refine j_iconst (pc := 7) dX11_result_7 ?_
    exact j_iret (pc := 8) (jm_inL (by decide) (by decide)) rfl dX11_result_8
  · skip
    refine j_aload_n (pc := 9) dX11_result_9 rfl (q := 0) rfl ?_
    refine j_getr (pc := 10) jv1_0 jm_01 kf_RX11_24 0 kg1_0_1 rfl dX11_result_10 ?_
    refine j_callVv0 (pc := 13) (ct_X2_reckon fu M2 ) kg_857 km_X2_reckon kv_X2_reckon rfl rfl ⟨(Nat.le_of_ble_eq_true rfl), (Nat.le_of_ble_eq_true rfl)⟩ jv1_2 jm_01 ko1_2 rfl rfl (Nat.le_of_ble_eq_true rfl) dX11_result_13 (fun v5 M6 => ?_)
    refine j_aload_n (pc := 16) dX11_result_16 rfl (q := 0) rfl ?_
    refine j_getr (pc := 17) jv1_0 jm_01 kf_RX11_42 0 kg1_0_3 rfl dX11_result_17 ?_
    refine j_iload_n (pc := 20) dX11_result_20 rfl (q := 1) rfl ?_
    refine j_callVv1 (pc := 21) (ct_X5_reckonFor fu M6 l1 hl1) kg_1101 km_X5_reckonFor kv_X5_reckonFor rfl rfl ⟨(Nat.le_of_ble_eq_true rfl), (Nat.le_of_ble_eq_true rfl)⟩ jv1_4 jm_01 ko1_4 rfl rfl (Nat.le_of_ble_eq_true rfl) dX11_result_21 (fun v7 M8 => ?_)
    refine j_iconst (pc := 24) dX11_result_24 ?_
    refine j_istore_n (pc := 25) [(2, jm_i 0), (0, jm_vr wd1 X 0 0), (1, jm_i l1)] dX11_result_25 rfl (by decide) rfl ?_
    refine j_iconst (pc := 26) dX11_result_26 ?_
    refine j_istore_n (pc := 27) [(3, jm_i 0), (2, jm_i 0), (0, jm_vr wd1 X 0 0), (1, jm_i l1)] dX11_result_27 rfl (by decide) rfl ?_
    refine j_sub (pc := 28) [(0, jm_vr wd1 X 0 0), (2, jm_i 0), (3, jm_i 0)] [2, 1, 0] rfl ?_
    exact bX11_result_28 X fu  fu M8 0 0 (jm_inL (by decide) (by decide)) (jm_inL (by decide) (by decide))
abbrev rmX11_move : Room := { frames := 6, cells := 0, slots := 0, locals := 158 }
set_option maxHeartbeats 4000000 in
set_option maxRecDepth 100000 in
theorem ct_X11_move (fu : Nat) (M : jm_M) (l1 l2 l3 l4 : Int) (hl1 : jm_in l1) (hl2 : jm_in l2) (hl3 : jm_in l3) (hl4 : jm_in l4) : jm_Ci wd1 yX11_move cX11_move 8 (some .int) rmX11_move M (fun G ad => [.ref (ad (jm_r wd1 0 0)), jm_i l1, jm_i l2, jm_i l3, jm_i l4]) (fX11_move fu M l1 l2 l3 l4) := by
  refine jm_met_i (fun X => [(0, jm_vr wd1 X 0 0), (1, jm_i l1), (2, jm_i l2), (3, jm_i l3), (4, jm_i l4)]) (by decide) (fun _ _ => (Nat.le_of_ble_eq_true rfl)) (fun _ => rfl) (fun X => ?_)
  unfold fX11_move
  refine j_aload_n (pc := 0) dX11_move_0 rfl (q := 0) rfl ?_
  refine j_getr (pc := 1) jv1_0 jm_01 kf_RX11_24 0 kg1_0_1 rfl dX11_move_1 ?_
  refine j_iload_n (pc := 4) dX11_move_4 rfl (q := 1) rfl ?_
  refine j_callVi1 (pc := 5) (ct_X2_has M l1 hl1) kg_619 km_X2_has kv_X2_has rfl rfl ⟨(Nat.le_of_ble_eq_true rfl), (Nat.le_of_ble_eq_true rfl)⟩ jv1_2 jm_01 ko1_2 rfl rfl (Nat.le_of_ble_eq_true rfl) dX11_move_5 (fun v1 M2 h3 => ?_)
  refine j_if_eq (tgt := 33) (pc := 8) h3 dX11_move_8 (by decide) (fun c4 => ?_) (fun c4 => ?_)
  · skip
    refine j_iconst (pc := 33) dX11_move_33 ?_
    exact j_iret (pc := 34) (jm_inL (by decide) (by decide)) rfl dX11_move_34
  · skip
    refine j_iload_n (pc := 11) dX11_move_11 rfl (q := 2) rfl ?_
    refine j_aload_n (pc := 12) dX11_move_12 rfl (q := 0) rfl ?_
    refine j_getr (pc := 13) jv1_0 jm_01 kf_RX11_24 0 kg1_0_1 rfl dX11_move_13 ?_
    refine j_getr (pc := 16) jv1_2 jm_01 kf_RX11_148 0 kg1_2_2 rfl dX11_move_16 ?_
    refine j_iload_n (pc := 19) dX11_move_19 rfl (q := 1) rfl ?_
    refine j_aald (pc := 20) jv1_46 jm_01 (by decide) kr1_46 dX11_move_20 (fun c5 => ?_)
    refine j_getr (pc := 21) jv1_8 (by omega) kf_RX11_191 (l1 + 12) kg1_8_8 rfl dX11_move_21 ?_
    refine j_geti (pc := 24) jv1_10 (by omega) kf_RX11_95 kg1_10_3 dX11_move_24 (fun h6 => ?_)
    refine j_callSi2 (pc := 27) (ct_X11_isIndex M2 l2 (M2 10 (l1 + 12) 3) hl2 h6) kg_572 km_X11_isIndex kg_562 rfl rfl ⟨(Nat.le_of_ble_eq_true rfl), (Nat.le_of_ble_eq_true rfl)⟩ rfl rfl (Nat.le_of_ble_eq_true rfl) dX11_move_27 (fun v7 M8 h9 => ?_)
    refine j_if_ne (tgt := 35) (pc := 30) h9 dX11_move_30 (by decide) (fun c10 => ?_) (fun c10 => ?_)
    · skip
      refine j_iconst (pc := 33) dX11_move_33 ?_
      exact j_iret (pc := 34) (jm_inL (by decide) (by decide)) rfl dX11_move_34
    · skip
      refine j_iload_n (pc := 35) dX11_move_35 rfl (q := 3) rfl ?_
      refine j_iconst (pc := 36) dX11_move_36 ?_
      refine j_aload_n (pc := 37) dX11_move_37 rfl (q := 0) rfl ?_
      refine j_getr (pc := 38) jv1_0 jm_01 kf_RX11_15 0 kg1_0_0 rfl dX11_move_38 ?_
      refine j_geti (pc := 41) jv1_1 jm_01 kf_RX11_185 kg1_1_1 dX11_move_41 (fun h11 => ?_)
      refine j_iconst (pc := 44) dX11_move_44 ?_
      refine j_isub (pc := 45) dX11_move_45 ?_
      refine j_callSi3 (pc := 46) (ct_X11_isWithin M8 l3 0 (jm_w ((M8 1 0 1) - 2)) hl3 (jm_inL (by decide) (by decide)) (jm_w_in _)) kg_565 km_X11_isWithin kg_566 rfl rfl ⟨(Nat.le_of_ble_eq_true rfl), (Nat.le_of_ble_eq_true rfl)⟩ rfl rfl (Nat.le_of_ble_eq_true rfl) dX11_move_46 (fun v12 M13 h14 => ?_)
      refine j_if_eq (tgt := 60) (pc := 49) h14 dX11_move_49 (by decide) (fun c15 => ?_) (fun c15 => ?_)
      · skip
        refine j_iconst (pc := 60) dX11_move_60 ?_
        exact j_iret (pc := 61) (jm_inL (by decide) (by decide)) rfl dX11_move_61
      · skip
        refine j_iload (pc := 52) dX11_move_52 (q := 4) rfl ?_
        refine j_callSi1 (pc := 54) (ct_X11_isDay M13 l4 hl4) kg_1055 km_X11_isDay kg_1056 rfl rfl ⟨(Nat.le_of_ble_eq_true rfl), (Nat.le_of_ble_eq_true rfl)⟩ rfl rfl (Nat.le_of_ble_eq_true rfl) dX11_move_54 (fun v16 M17 h18 => ?_)
        refine j_if_ne (tgt := 62) (pc := 57) h18 dX11_move_57 (by decide) (fun c19 => ?_) (fun c19 => ?_)
        · skip
          refine j_iconst (pc := 60) dX11_move_60 ?_
          exact j_iret (pc := 61) (jm_inL (by decide) (by decide)) rfl dX11_move_61
        · skip
          refine j_aload_n (pc := 62) dX11_move_62 rfl (q := 0) rfl ?_
          refine j_getr (pc := 63) jv1_0 jm_01 kf_RX11_24 0 kg1_0_1 rfl dX11_move_63 ?_
          refine j_getr (pc := 66) jv1_2 jm_01 kf_RX11_148 0 kg1_2_2 rfl dX11_move_66 ?_
          refine j_iload_n (pc := 69) dX11_move_69 rfl (q := 1) rfl ?_
          refine j_aald (pc := 70) jv1_46 jm_01 (by decide) kr1_46 dX11_move_70 (fun c20 => ?_)
          refine j_getr (pc := 71) jv1_8 (by omega) kf_RX11_191 (l1 + 12) kg1_8_8 rfl dX11_move_71 ?_
          refine j_astore (pc := 74) [(5, jm_vr wd1 X 10 (l1 + 12)), (0, jm_vr wd1 X 0 0), (1, jm_i l1), (2, jm_i l2), (3, jm_i l3), (4, jm_i l4)] dX11_move_74 (by decide) rfl ?_
          refine j_aload (pc := 76) dX11_move_76 (q := 0) rfl ?_
          refine j_iload_n (pc := 78) dX11_move_78 rfl (q := 3) rfl ?_
          refine j_iconst (pc := 79) dX11_move_79 ?_
          refine j_callVi2 (pc := 80) (ct_X7_cell M17 (l1 + 12) l2 0 (by omega) hl2 (jm_inL (by decide) (by decide))) kg_1133 km_X7_cell kv_X7_cell rfl rfl ⟨(Nat.le_of_ble_eq_true rfl), (Nat.le_of_ble_eq_true rfl)⟩ jv1_10 (by omega) ko1_10 rfl rfl (Nat.le_of_ble_eq_true rfl) dX11_move_80 (fun v21 M22 h23 => ?_)
          refine j_istore (pc := 83) [(6, jm_i v21), (5, jm_vr wd1 X 10 (l1 + 12)), (0, jm_vr wd1 X 0 0), (1, jm_i l1), (2, jm_i l2), (3, jm_i l3), (4, jm_i l4)] dX11_move_83 (by decide) rfl ?_
          refine j_aload (pc := 85) dX11_move_85 (q := 1) rfl ?_
          refine j_iload_n (pc := 87) dX11_move_87 rfl (q := 4) rfl ?_
          refine j_iconst (pc := 88) dX11_move_88 ?_
          refine j_iload_n (pc := 89) dX11_move_89 rfl (q := 5) rfl ?_
          refine j_callVv3 (pc := 90) (ct_X7_put M22 (l1 + 12) l2 0 l3 (by omega) hl2 (jm_inL (by decide) (by decide)) hl3) kg_1134 km_X7_put kv_X7_put rfl rfl ⟨(Nat.le_of_ble_eq_true rfl), (Nat.le_of_ble_eq_true rfl)⟩ jv1_10 (by omega) ko1_10 rfl rfl (Nat.le_of_ble_eq_true rfl) dX11_move_90 (fun v24 M25 => ?_)
          refine j_aload_n (pc := 93) dX11_move_93 rfl (q := 2) rfl ?_
          refine j_getr (pc := 94) jv1_0 jm_01 kf_RX11_24 0 kg1_0_1 rfl dX11_move_94 ?_
          refine j_callVv0 (pc := 97) (ct_X2_run fu M25 ) kg_1135 km_X2_run kv_X2_run rfl rfl ⟨(Nat.le_of_ble_eq_true rfl), (Nat.le_of_ble_eq_true rfl)⟩ jv1_2 jm_01 ko1_2 rfl rfl (Nat.le_of_ble_eq_true rfl) dX11_move_97 (fun v26 M27 => ?_)
          refine j_aload_n (pc := 100) dX11_move_100 rfl (q := 2) rfl ?_
          refine j_getr (pc := 101) jv1_0 jm_01 kf_RX11_42 0 kg1_0_3 rfl dX11_move_101 ?_
          refine j_iload (pc := 104) dX11_move_104 (q := 6) rfl ?_
          refine j_callVv1 (pc := 106) (ct_X5_reckonFor fu M27 l4 hl4) kg_1101 km_X5_reckonFor kv_X5_reckonFor rfl rfl ⟨(Nat.le_of_ble_eq_true rfl), (Nat.le_of_ble_eq_true rfl)⟩ jv1_4 jm_01 ko1_4 rfl rfl (Nat.le_of_ble_eq_true rfl) dX11_move_106 (fun v28 M29 => ?_)
          refine j_aload (pc := 109) dX11_move_109 (q := 1) rfl ?_
          refine j_iload_n (pc := 111) dX11_move_111 rfl (q := 4) rfl ?_
          refine j_iconst (pc := 112) dX11_move_112 ?_
          refine j_iload (pc := 113) dX11_move_113 (q := 0) rfl ?_
          refine j_callVv3 (pc := 115) (ct_X7_put M29 (l1 + 12) l2 0 v21 (by omega) hl2 (jm_inL (by decide) (by decide)) h23) kg_1134 km_X7_put kv_X7_put rfl rfl ⟨(Nat.le_of_ble_eq_true rfl), (Nat.le_of_ble_eq_true rfl)⟩ jv1_10 (by omega) ko1_10 rfl rfl (Nat.le_of_ble_eq_true rfl) dX11_move_115 (fun v30 M31 => ?_)
          refine j_aload_n (pc := 118) dX11_move_118 rfl (q := 2) rfl ?_
          refine j_getr (pc := 119) jv1_0 jm_01 kf_RX11_42 0 kg1_0_3 rfl dX11_move_119 ?_
          refine j_iload_n (pc := 122) dX11_move_122 rfl (q := 3) rfl ?_
          refine j_iconst (pc := 123) dX11_move_123 ?_
          refine j_callVi2 (pc := 124) (ct_X5_placeAmong fu M31 l1 (-1) hl1 (jm_inL (by decide) (by decide))) kg_1112 km_X5_placeAmong kv_X5_placeAmong rfl rfl ⟨(Nat.le_of_ble_eq_true rfl), (Nat.le_of_ble_eq_true rfl)⟩ jv1_4 jm_01 ko1_4 rfl rfl (Nat.le_of_ble_eq_true rfl) dX11_move_124 (fun v32 M33 h34 => ?_)
          refine j_istore (pc := 127) [(7, jm_i v32), (6, jm_i v21), (5, jm_vr wd1 X 10 (l1 + 12)), (0, jm_vr wd1 X 0 0), (1, jm_i l1), (2, jm_i l2), (3, jm_i l3), (4, jm_i l4)] dX11_move_127 (by decide) rfl ?_
          refine j_iload (pc := 129) dX11_move_129 (q := 0) rfl ?_
          refine j_iconst (pc := 131) dX11_move_131 ?_
          refine j_icmp_ne (tgt := 140) (pc := 132) h34 (jm_inL (by decide) (by decide)) dX11_move_132 (by decide) (fun c35 => ?_) (fun c35 => ?_)
          · skip
            refine j_bipush (pc := 135) (-2) dX11_move_135 (by decide) ?_
            refine j_goto (tgt := 142) (pc := 137) dX11_move_137 (by decide) ?_
            exact j_iret (pc := 142) (jm_inL (by decide) (by decide)) rfl dX11_move_142
          · skip
            refine j_iload (pc := 140) dX11_move_140 (q := 0) rfl ?_
            exact j_iret (pc := 142) h34 rfl dX11_move_142
abbrev rmX10_takeWay : Room := { frames := 2, cells := 0, slots := 0, locals := 47 }
set_option maxHeartbeats 4000000 in
set_option maxRecDepth 100000 in
theorem b0X10_takeWay_10 (X : jm_X) (fu : Nat) (k10 : jm_M → Int → Int → Int → jm_R) (hk10 : ∀ (M : jm_M) (r1 l2 l3 : Int) (gr1 : 0 ≤ r1 ∧ r1 < 6) (hl2 : jm_in l2) (hl3 : jm_in l3), jm_J wd1 jm_qv cX10_takeWay 4 RX10 rmX10_takeWay X M [(0, jm_vr wd1 X 5 0), (1, jm_vr wd1 X 8 r1), (2, jm_i l2), (3, jm_i l3)] [] 10 (k10 M r1 l2 l3)) : ∀ (M : jm_M) (r1 l2 l3 : Int) (gr1 : 0 ≤ r1 ∧ r1 < 6) (hl2 : jm_in l2) (hl3 : jm_in l3), jm_J wd1 jm_qv cX10_takeWay 4 RX10 rmX10_takeWay X M [(0, jm_vr wd1 X 5 0), (1, jm_vr wd1 X 8 r1), (2, jm_i l2), (3, jm_i l3)] [] 10 (gX10_takeWay_10 fu k10 M r1 l2 l3) := by
  intro M r1 l2 l3 gr1 hl2 hl3
  unfold gX10_takeWay_10
  refine j_iload_n (pc := 10) dX10_takeWay_10 rfl (q := 3) rfl ?_
  refine j_iload_n (pc := 11) dX10_takeWay_11 rfl (q := 2) rfl ?_
  refine j_icmp_ge (tgt := 50) (pc := 12) hl3 hl2 dX10_takeWay_12 (by decide) (fun c1 => ?_) (fun c1 => ?_)
  · skip
    exact j_vret (pc := 50) dX10_takeWay_50
  · skip
    refine j_iload_n (pc := 15) dX10_takeWay_15 rfl (q := 3) rfl ?_
    refine j_iconst (pc := 16) dX10_takeWay_16 ?_
    refine j_icmp_ge (tgt := 50) (pc := 17) hl3 (jm_inL (by decide) (by decide)) dX10_takeWay_17 (by decide) (fun c2 => ?_) (fun c2 => ?_)
    · skip
      exact j_vret (pc := 50) dX10_takeWay_50
    · skip
      refine j_aload_n (pc := 20) dX10_takeWay_20 rfl (q := 1) rfl ?_
      refine j_getr (pc := 21) jv1_8 gr1 kf_RX10_121 (r1 + 24) kg1_8_10 rfl dX10_takeWay_21 ?_
      refine j_aload_n (pc := 24) dX10_takeWay_24 rfl (q := 0) rfl ?_
      refine j_getr (pc := 25) jv1_5 jm_01 kf_RX10_19 0 kg1_5_2 rfl dX10_takeWay_25 ?_
      refine j_iload_n (pc := 28) dX10_takeWay_28 rfl (q := 3) rfl ?_
      refine j_iald (pc := 29) jv1_39 jm_01 rfl (by decide) ka1_39 dX10_takeWay_29 (fun c3 h4 => ?_)
      refine j_aload_n (pc := 30) dX10_takeWay_30 rfl (q := 0) rfl ?_
      refine j_getr (pc := 31) jv1_5 jm_01 kf_RX10_23 0 kg1_5_3 rfl dX10_takeWay_31 ?_
      refine j_iload_n (pc := 34) dX10_takeWay_34 rfl (q := 3) rfl ?_
      refine j_iald (pc := 35) jv1_40 jm_01 rfl (by decide) ka1_40 dX10_takeWay_35 (fun c5 h6 => ?_)
      refine j_sipush (pc := 36) 200 dX10_takeWay_36 (by decide) ?_
      refine j_iconst (pc := 39) dX10_takeWay_39 ?_
      refine j_callVi4 (pc := 40) (ct_X7_push M (r1 + 24) (M 39 0 l3) (M 40 0 l3) 200 0 (by omega) h4 h6 (jm_inL (by decide) (by decide)) (jm_inL (by decide) (by decide))) kg_1150 km_X7_push kv_X7_push rfl rfl ⟨(Nat.le_of_ble_eq_true rfl), (Nat.le_of_ble_eq_true rfl)⟩ jv1_10 (by omega) ko1_10 rfl rfl (Nat.le_of_ble_eq_true rfl) dX10_takeWay_40 (fun v7 M8 h9 => ?_)
      refine j_pop (pc := 43) dX10_takeWay_43 rfl ?_
      refine j_iinc (pc := 44) [(0, jm_vr wd1 X 5 0), (1, jm_vr wd1 X 8 r1), (2, jm_i l2)] (q := 3) dX10_takeWay_44 rfl (by decide) (fun _ => rfl) (fun v10 h11 => ?_)
      refine j_goto (tgt := 10) (pc := 47) dX10_takeWay_47 (by decide) ?_
      refine j_sub (pc := 10) [(0, jm_vr wd1 X 5 0), (1, jm_vr wd1 X 8 r1), (2, jm_i l2), (3, jm_i v10)] [1, 2, 3, 0] rfl ?_
      exact hk10 M8 r1 l2 v10 gr1 hl2 h11
theorem bX10_takeWay_10 (X : jm_X) (fu : Nat) : ∀ (n : Nat) (M : jm_M) (r1 l2 l3 : Int) (gr1 : 0 ≤ r1 ∧ r1 < 6) (hl2 : jm_in l2) (hl3 : jm_in l3), jm_J wd1 jm_qv cX10_takeWay 4 RX10 rmX10_takeWay X M [(0, jm_vr wd1 X 5 0), (1, jm_vr wd1 X 8 r1), (2, jm_i l2), (3, jm_i l3)] [] 10 (fX10_takeWay_10 fu n M r1 l2 l3) := by
  intro n
  induction n with
  | zero => intro M r1 l2 l3 gr1 hl2 hl3; exact j_none
  | succ n ih => intro M r1 l2 l3 gr1 hl2 hl3; exact b0X10_takeWay_10 X fu (fX10_takeWay_10 fu n) ih M r1 l2 l3 gr1 hl2 hl3
set_option maxHeartbeats 4000000 in
set_option maxRecDepth 100000 in
theorem ct_X10_takeWay (fu : Nat) (M : jm_M) (r1 l2 : Int) (gr1 : 0 ≤ r1 ∧ r1 < 6) (hl2 : jm_in l2) : jm_Cv wd1 yX10_takeWay cX10_takeWay 4 none rmX10_takeWay M (fun G ad => [.ref (ad (jm_r wd1 5 0)), .ref (ad (jm_r wd1 8 r1)), jm_i l2]) (fX10_takeWay fu M r1 l2) := by
  refine jm_met_v (fun X => [(0, jm_vr wd1 X 5 0), (1, jm_vr wd1 X 8 r1), (2, jm_i l2)]) (by decide) (fun _ _ => (Nat.le_of_ble_eq_true rfl)) (fun _ => rfl) (fun X => ?_)
  unfold fX10_takeWay
  refine j_aload_n (pc := 0) dX10_takeWay_0 rfl (q := 1) rfl ?_
  refine j_getr (pc := 1) jv1_8 gr1 kf_RX10_121 (r1 + 24) kg1_8_10 rfl dX10_takeWay_1 ?_
  refine j_iconst (pc := 4) dX10_takeWay_4 ?_
  refine j_put (pc := 5) jv1_10 (by omega) kf_RX10_71 wI1 kp_X7_3 kx1_10_3 (jm_inL (by decide) (by decide)) rfl rfl dX10_takeWay_5 (fun M1 => ?_)
  refine j_iconst (pc := 8) dX10_takeWay_8 ?_
  refine j_istore_n (pc := 9) [(3, jm_i 0), (0, jm_vr wd1 X 5 0), (1, jm_vr wd1 X 8 r1), (2, jm_i l2)] dX10_takeWay_9 rfl (by decide) rfl ?_
  refine j_sub (pc := 10) [(0, jm_vr wd1 X 5 0), (1, jm_vr wd1 X 8 r1), (2, jm_i l2), (3, jm_i 0)] [1, 2, 3, 0] rfl ?_
  exact bX10_takeWay_10 X fu  fu M1 r1 l2 0 gr1 hl2 (jm_inL (by decide) (by decide))
abbrev rmX5_triedPlace : Room := { frames := 3, cells := 0, slots := 0, locals := 67 }
set_option maxHeartbeats 4000000 in
set_option maxRecDepth 100000 in
theorem ct_X5_triedPlace (fu : Nat) (M : jm_M) (l1 : Int) (hl1 : jm_in l1) : jm_Ci wd1 yX5_triedPlace cX5_triedPlace 3 (some .int) rmX5_triedPlace M (fun G ad => [.ref (ad (jm_r wd1 4 0)), jm_i l1]) (fX5_triedPlace fu M l1) := by
  refine jm_met_i (fun X => [(0, jm_vr wd1 X 4 0), (1, jm_i l1)]) (by decide) (fun _ _ => (Nat.le_of_ble_eq_true rfl)) (fun _ => rfl) (fun X => ?_)
  unfold fX5_triedPlace
  refine j_aload_n (pc := 0) dX5_triedPlace_0 rfl (q := 0) rfl ?_
  refine j_iload_n (pc := 1) dX5_triedPlace_1 rfl (q := 1) rfl ?_
  refine j_iconst (pc := 2) dX5_triedPlace_2 ?_
  refine j_callVi2 (pc := 3) (ct_X5_placeAmong fu M l1 (-1) hl1 (jm_inL (by decide) (by decide))) kg_1157 km_X5_placeAmong kv_X5_placeAmong rfl rfl ⟨(Nat.le_of_ble_eq_true rfl), (Nat.le_of_ble_eq_true rfl)⟩ jv1_4 jm_01 ko1_4 rfl rfl (Nat.le_of_ble_eq_true rfl) dX5_triedPlace_3 (fun v1 M2 h3 => ?_)
  refine j_istore_n (pc := 6) [(2, jm_i v1), (0, jm_vr wd1 X 4 0), (1, jm_i l1)] dX5_triedPlace_6 rfl (by decide) rfl ?_
  refine j_iload_n (pc := 7) dX5_triedPlace_7 rfl (q := 0) rfl ?_
  refine j_iconst (pc := 8) dX5_triedPlace_8 ?_
  refine j_icmp_ne (tgt := 17) (pc := 9) h3 (jm_inL (by decide) (by decide)) dX5_triedPlace_9 (by decide) (fun c4 => ?_) (fun c4 => ?_)
  · skip
    refine j_bipush (pc := 12) 99 dX5_triedPlace_12 (by decide) ?_
    refine j_goto (tgt := 18) (pc := 14) dX5_triedPlace_14 (by decide) ?_
    exact j_iret (pc := 18) (jm_inL (by decide) (by decide)) rfl dX5_triedPlace_18
  · skip
    refine j_iload_n (pc := 17) dX5_triedPlace_17 rfl (q := 0) rfl ?_
    exact j_iret (pc := 18) h3 rfl dX5_triedPlace_18
abbrev rmX5_triedSum : Room := { frames := 1, cells := 0, slots := 0, locals := 21 }
set_option maxHeartbeats 4000000 in
set_option maxRecDepth 100000 in
theorem ct_X5_triedSum (M : jm_M) (l1 : Int) (hl1 : jm_in l1) : jm_Ci wd1 yX5_triedSum cX5_triedSum 2 (some .int) rmX5_triedSum M (fun G ad => [.ref (ad (jm_r wd1 4 0)), jm_i l1]) (fX5_triedSum M l1) := by
  refine jm_met_i (fun X => [(0, jm_vr wd1 X 4 0), (1, jm_i l1)]) (by decide) (fun _ _ => (Nat.le_of_ble_eq_true rfl)) (fun _ => rfl) (fun X => ?_)
  unfold fX5_triedSum
  refine j_iload_n (pc := 0) dX5_triedSum_0 rfl (q := 1) rfl ?_
  refine j_bipush (pc := 1) 6 dX5_triedSum_1 (by decide) ?_
  refine j_callNi2 (pc := 3) (ct_X11_isIndex M l1 6 hl1 (jm_inL (by decide) (by decide))) (host := "RaceByLaps") (by decide) km_X11_isIndex kg_562 rfl rfl ⟨(Nat.le_of_ble_eq_true rfl), (Nat.le_of_ble_eq_true rfl)⟩ rfl rfl (Nat.le_of_ble_eq_true rfl) dX5_triedSum_3 (fun v1 M2 h3 => ?_)
  refine j_if_eq (tgt := 27) (pc := 6) h3 dX5_triedSum_6 (by decide) (fun c4 => ?_) (fun c4 => ?_)
  · skip
    refine j_iconst (pc := 27) dX5_triedSum_27 ?_
    exact j_iret (pc := 28) (jm_inL (by decide) (by decide)) rfl dX5_triedSum_28
  · skip
    refine j_aload_n (pc := 9) dX5_triedSum_9 rfl (q := 0) rfl ?_
    refine j_getr (pc := 10) jv1_4 jm_01 kf_RX5_19 0 kg1_4_2 rfl dX5_triedSum_10 ?_
    refine j_iload_n (pc := 13) dX5_triedSum_13 rfl (q := 1) rfl ?_
    refine j_bald (pc := 14) jv1_36 jm_01 rfl (by decide) ka1_36 dX5_triedSum_14 (fun c5 h6 => ?_)
    refine j_if_eq (tgt := 27) (pc := 15) h6 dX5_triedSum_15 (by decide) (fun c7 => ?_) (fun c7 => ?_)
    · skip
      refine j_iconst (pc := 27) dX5_triedSum_27 ?_
      exact j_iret (pc := 28) (jm_inL (by decide) (by decide)) rfl dX5_triedSum_28
    · skip
      refine j_aload_n (pc := 18) dX5_triedSum_18 rfl (q := 0) rfl ?_
      refine j_getr (pc := 19) jv1_4 jm_01 kf_RX5_27 0 kg1_4_4 rfl dX5_triedSum_19 ?_
      refine j_iload_n (pc := 22) dX5_triedSum_22 rfl (q := 1) rfl ?_
      refine j_iald (pc := 23) jv1_38 jm_01 rfl (by decide) ka1_38 dX5_triedSum_23 (fun c8 h9 => ?_)
      refine j_goto (tgt := 28) (pc := 24) dX5_triedSum_24 (by decide) ?_
      exact j_iret (pc := 28) h9 rfl dX5_triedSum_28
abbrev rmX10_keepWay : Room := { frames := 4, cells := 0, slots := 0, locals := 89 }
set_option maxHeartbeats 4000000 in
set_option maxRecDepth 100000 in
theorem b0X10_keepWay_26 (X : jm_X) (fu : Nat) (k26 : jm_M → Int → Int → jm_R) (hk26 : ∀ (M : jm_M) (l2 l3 : Int) (hl2 : jm_in l2) (hl3 : jm_in l3), jm_J wd1 jm_qv cX10_keepWay 4 RX10 rmX10_keepWay X M [(0, jm_vr wd1 X 5 0), (2, jm_i l2), (3, jm_i l3)] [] 26 (k26 M l2 l3)) : ∀ (M : jm_M) (l2 l3 : Int) (hl2 : jm_in l2) (hl3 : jm_in l3), jm_J wd1 jm_qv cX10_keepWay 4 RX10 rmX10_keepWay X M [(0, jm_vr wd1 X 5 0), (2, jm_i l2), (3, jm_i l3)] [] 26 (gX10_keepWay_26 fu k26 M l2 l3) := by
  intro M l2 l3 hl2 hl3
  unfold gX10_keepWay_26
  refine j_iload_n (pc := 26) dX10_keepWay_26 rfl (q := 2) rfl ?_
  refine j_iload_n (pc := 27) dX10_keepWay_27 rfl (q := 1) rfl ?_
  refine j_icmp_ge (tgt := 72) (pc := 28) hl3 hl2 dX10_keepWay_28 (by decide) (fun c1 => ?_) (fun c1 => ?_)
  · skip
    exact j_vret (pc := 72) dX10_keepWay_72
  · skip
    refine j_iload_n (pc := 31) dX10_keepWay_31 rfl (q := 2) rfl ?_
    refine j_iconst (pc := 32) dX10_keepWay_32 ?_
    refine j_icmp_ge (tgt := 72) (pc := 33) hl3 (jm_inL (by decide) (by decide)) dX10_keepWay_33 (by decide) (fun c2 => ?_) (fun c2 => ?_)
    · skip
      exact j_vret (pc := 72) dX10_keepWay_72
    · skip
      refine j_aload_n (pc := 36) dX10_keepWay_36 rfl (q := 0) rfl ?_
      refine j_getr (pc := 37) jv1_5 jm_01 kf_RX10_26 0 kg1_5_4 rfl dX10_keepWay_37 ?_
      refine j_iconst (pc := 40) dX10_keepWay_40 ?_
      refine j_iload_n (pc := 41) dX10_keepWay_41 rfl (q := 2) rfl ?_
      refine j_imul (pc := 42) dX10_keepWay_42 ?_
      refine j_aload_n (pc := 43) dX10_keepWay_43 rfl (q := 0) rfl ?_
      refine j_getr (pc := 44) jv1_5 jm_01 kf_RX10_19 0 kg1_5_2 rfl dX10_keepWay_44 ?_
      refine j_iload_n (pc := 47) dX10_keepWay_47 rfl (q := 2) rfl ?_
      refine j_iald (pc := 48) jv1_39 jm_01 rfl (by decide) ka1_39 dX10_keepWay_48 (fun c3 h4 => ?_)
      refine j_iast (pc := 49) jv1_41 jm_01 rfl (by decide) wI1 ka1_41 h4 dX10_keepWay_49 (fun c5 M6 => ?_)
      refine j_aload_n (pc := 50) dX10_keepWay_50 rfl (q := 0) rfl ?_
      refine j_getr (pc := 51) jv1_5 jm_01 kf_RX10_26 0 kg1_5_4 rfl dX10_keepWay_51 ?_
      refine j_iconst (pc := 54) dX10_keepWay_54 ?_
      refine j_iload_n (pc := 55) dX10_keepWay_55 rfl (q := 2) rfl ?_
      refine j_imul (pc := 56) dX10_keepWay_56 ?_
      refine j_iconst (pc := 57) dX10_keepWay_57 ?_
      refine j_iadd (pc := 58) dX10_keepWay_58 ?_
      refine j_aload_n (pc := 59) dX10_keepWay_59 rfl (q := 0) rfl ?_
      refine j_getr (pc := 60) jv1_5 jm_01 kf_RX10_23 0 kg1_5_3 rfl dX10_keepWay_60 ?_
      refine j_iload_n (pc := 63) dX10_keepWay_63 rfl (q := 2) rfl ?_
      refine j_iald (pc := 64) jv1_40 jm_01 rfl (by decide) ka1_40 dX10_keepWay_64 (fun c7 h8 => ?_)
      refine j_iast (pc := 65) jv1_41 jm_01 rfl (by decide) wI1 ka1_41 h8 dX10_keepWay_65 (fun c9 M10 => ?_)
      refine j_iinc (pc := 66) [(0, jm_vr wd1 X 5 0), (2, jm_i l2)] (q := 2) dX10_keepWay_66 rfl (by decide) (fun _ => rfl) (fun v11 h12 => ?_)
      refine j_goto (tgt := 26) (pc := 69) dX10_keepWay_69 (by decide) ?_
      refine j_sub (pc := 26) [(0, jm_vr wd1 X 5 0), (2, jm_i l2), (3, jm_i v11)] [1, 2, 0] rfl ?_
      exact hk26 M10 l2 v11 hl2 h12
theorem bX10_keepWay_26 (X : jm_X) (fu : Nat) : ∀ (n : Nat) (M : jm_M) (l2 l3 : Int) (hl2 : jm_in l2) (hl3 : jm_in l3), jm_J wd1 jm_qv cX10_keepWay 4 RX10 rmX10_keepWay X M [(0, jm_vr wd1 X 5 0), (2, jm_i l2), (3, jm_i l3)] [] 26 (fX10_keepWay_26 fu n M l2 l3) := by
  intro n
  induction n with
  | zero => intro M l2 l3 hl2 hl3; exact j_none
  | succ n ih => intro M l2 l3 hl2 hl3; exact b0X10_keepWay_26 X fu (fX10_keepWay_26 fu n) ih M l2 l3 hl2 hl3
set_option maxHeartbeats 4000000 in
set_option maxRecDepth 100000 in
theorem ct_X10_keepWay (fu : Nat) (M : jm_M) (l1 l2 : Int) (hl1 : jm_in l1) (hl2 : jm_in l2) : jm_Cv wd1 yX10_keepWay cX10_keepWay 4 none rmX10_keepWay M (fun G ad => [.ref (ad (jm_r wd1 5 0)), jm_i l1, jm_i l2]) (fX10_keepWay fu M l1 l2) := by
  refine jm_met_v (fun X => [(0, jm_vr wd1 X 5 0), (1, jm_i l1), (2, jm_i l2)]) (by decide) (fun _ _ => (Nat.le_of_ble_eq_true rfl)) (fun _ => rfl) (fun X => ?_)
  unfold fX10_keepWay
  refine j_aload_n (pc := 0) dX10_keepWay_0 rfl (q := 0) rfl ?_
  refine j_aload_n (pc := 1) dX10_keepWay_1 rfl (q := 0) rfl ?_
  refine j_getr (pc := 2) jv1_5 jm_01 kf_RX10_15 0 kg1_5_1 rfl dX10_keepWay_2 ?_
  refine j_iload_n (pc := 5) dX10_keepWay_5 rfl (q := 1) rfl ?_
  refine j_callVi1 (pc := 6) (ct_X5_triedPlace fu M l1 hl1) kg_1153 km_X5_triedPlace kv_X5_triedPlace rfl rfl ⟨(Nat.le_of_ble_eq_true rfl), (Nat.le_of_ble_eq_true rfl)⟩ jv1_4 jm_01 ko1_4 rfl rfl (Nat.le_of_ble_eq_true rfl) dX10_keepWay_6 (fun v1 M2 h3 => ?_)
  refine j_put (pc := 9) jv1_5 jm_01 kf_RX10_100 wI1 kp_X10_5 kx1_5_5 h3 rfl rfl dX10_keepWay_9 (fun M4 => ?_)
  refine j_aload_n (pc := 12) dX10_keepWay_12 rfl (q := 0) rfl ?_
  refine j_aload_n (pc := 13) dX10_keepWay_13 rfl (q := 0) rfl ?_
  refine j_getr (pc := 14) jv1_5 jm_01 kf_RX10_15 0 kg1_5_1 rfl dX10_keepWay_14 ?_
  refine j_iload_n (pc := 17) dX10_keepWay_17 rfl (q := 1) rfl ?_
  refine j_callVi1 (pc := 18) (ct_X5_triedSum M4 l1 hl1) kg_1158 km_X5_triedSum kv_X5_triedSum rfl rfl ⟨(Nat.le_of_ble_eq_true rfl), (Nat.le_of_ble_eq_true rfl)⟩ jv1_4 jm_01 ko1_4 rfl rfl (Nat.le_of_ble_eq_true rfl) dX10_keepWay_18 (fun v5 M6 h7 => ?_)
  refine j_put (pc := 21) jv1_5 jm_01 kf_RX10_103 wI1 kp_X10_6 kx1_5_6 h7 rfl rfl dX10_keepWay_21 (fun M8 => ?_)
  refine j_iconst (pc := 24) dX10_keepWay_24 ?_
  refine j_istore_n (pc := 25) [(3, jm_i 0), (0, jm_vr wd1 X 5 0), (1, jm_i l1), (2, jm_i l2)] dX10_keepWay_25 rfl (by decide) rfl ?_
  refine j_sub (pc := 26) [(0, jm_vr wd1 X 5 0), (2, jm_i l2), (3, jm_i 0)] [1, 3, 0] rfl ?_
  exact bX10_keepWay_26 X fu  fu M8 l2 0 hl2 (jm_inL (by decide) (by decide))
abbrev rmX10_isBetter : Room := { frames := 0, cells := 0, slots := 0, locals := 0 }
set_option maxHeartbeats 4000000 in
set_option maxRecDepth 100000 in
theorem ct_X10_isBetter (M : jm_M) (l0 l1 l2 l3 : Int) (hl0 : jm_in l0) (hl1 : jm_in l1) (hl2 : jm_in l2) (hl3 : jm_in l3) : jm_Ci wd1 yX10_isBetter cX10_isBetter 4 (some .boolean) rmX10_isBetter M (fun G ad => [jm_i l0, jm_i l1, jm_i l2, jm_i l3]) (fX10_isBetter M l0 l1 l2 l3) := by
  refine jm_met_i (fun X => [(0, jm_i l0), (1, jm_i l1), (2, jm_i l2), (3, jm_i l3)]) (by decide) (fun _ _ => (Nat.le_of_ble_eq_true rfl)) (fun _ => rfl) (fun X => ?_)
  unfold fX10_isBetter
  refine j_iload_n (pc := 0) dX10_isBetter_0 rfl (q := 0) rfl ?_
  refine j_iload_n (pc := 1) dX10_isBetter_1 rfl (q := 2) rfl ?_
  refine j_icmp_lt (tgt := 15) (pc := 2) hl0 hl2 dX10_isBetter_2 (by decide) (fun c1 => ?_) (fun c1 => ?_)
  · skip
    refine j_iconst (pc := 15) dX10_isBetter_15 ?_
    refine j_goto (tgt := 20) (pc := 16) dX10_isBetter_16 (by decide) ?_
    exact j_iret (pc := 20) (jm_inL (by decide) (by decide)) rfl dX10_isBetter_20
  · skip
    refine j_iload_n (pc := 5) dX10_isBetter_5 rfl (q := 0) rfl ?_
    refine j_iload_n (pc := 6) dX10_isBetter_6 rfl (q := 2) rfl ?_
    refine j_icmp_ne (tgt := 19) (pc := 7) hl0 hl2 dX10_isBetter_7 (by decide) (fun c2 => ?_) (fun c2 => ?_)
    · skip
      refine j_iload_n (pc := 10) dX10_isBetter_10 rfl (q := 1) rfl ?_
      refine j_iload_n (pc := 11) dX10_isBetter_11 rfl (q := 3) rfl ?_
      refine j_icmp_ge (tgt := 19) (pc := 12) hl1 hl3 dX10_isBetter_12 (by decide) (fun c3 => ?_) (fun c3 => ?_)
      · skip
        refine j_iconst (pc := 19) dX10_isBetter_19 ?_
        exact j_iret (pc := 20) (jm_inL (by decide) (by decide)) rfl dX10_isBetter_20
      · skip
        refine j_iconst (pc := 15) dX10_isBetter_15 ?_
        refine j_goto (tgt := 20) (pc := 16) dX10_isBetter_16 (by decide) ?_
        exact j_iret (pc := 20) (jm_inL (by decide) (by decide)) rfl dX10_isBetter_20
    · skip
      refine j_iconst (pc := 19) dX10_isBetter_19 ?_
      exact j_iret (pc := 20) (jm_inL (by decide) (by decide)) rfl dX10_isBetter_20
abbrev rmX10_nextSets : Room := { frames := 0, cells := 0, slots := 0, locals := 0 }
set_option maxHeartbeats 4000000 in
set_option maxRecDepth 100000 in
theorem b0X10_nextSets_4 (X : jm_X) (fu : Nat) (k4 : jm_M → Int → Int → jm_R) (hk4 : ∀ (M : jm_M) (l2 l3 : Int) (hl2 : jm_in l2) (hl3 : jm_in l3), jm_J wd1 (jm_qi .boolean) cX10_nextSets 4 RX10 rmX10_nextSets X M [(0, jm_vr wd1 X 5 0), (2, jm_i l2), (3, jm_i l3)] [] 4 (k4 M l2 l3)) : ∀ (M : jm_M) (l2 l3 : Int) (hl2 : jm_in l2) (hl3 : jm_in l3), jm_J wd1 (jm_qi .boolean) cX10_nextSets 4 RX10 rmX10_nextSets X M [(0, jm_vr wd1 X 5 0), (2, jm_i l2), (3, jm_i l3)] [] 4 (gX10_nextSets_4 fu k4 M l2 l3) := by
  intro M l2 l3 hl2 hl3
  unfold gX10_nextSets_4
  refine j_iload_n (pc := 4) dX10_nextSets_4 rfl (q := 2) rfl ?_
  refine j_if_lt (tgt := 48) (pc := 5) hl3 dX10_nextSets_5 (by decide) (fun c1 => ?_) (fun c1 => ?_)
  · skip
    refine j_iconst (pc := 48) dX10_nextSets_48 ?_
    exact j_iret (pc := 49) (jm_inL (by decide) (by decide)) rfl dX10_nextSets_49
  · skip
    refine j_iload_n (pc := 8) dX10_nextSets_8 rfl (q := 2) rfl ?_
    refine j_iconst (pc := 9) dX10_nextSets_9 ?_
    refine j_icmp_ge (tgt := 48) (pc := 10) hl3 (jm_inL (by decide) (by decide)) dX10_nextSets_10 (by decide) (fun c2 => ?_) (fun c2 => ?_)
    · skip
      refine j_iconst (pc := 48) dX10_nextSets_48 ?_
      exact j_iret (pc := 49) (jm_inL (by decide) (by decide)) rfl dX10_nextSets_49
    · skip
      refine j_aload_n (pc := 13) dX10_nextSets_13 rfl (q := 0) rfl ?_
      refine j_getr (pc := 14) jv1_5 jm_01 kf_RX10_23 0 kg1_5_3 rfl dX10_nextSets_14 ?_
      refine j_iload_n (pc := 17) dX10_nextSets_17 rfl (q := 2) rfl ?_
      refine j_dup2 (pc := 18) dX10_nextSets_18 rfl rfl ?_
      refine j_iald (pc := 19) jv1_40 jm_01 rfl (by decide) ka1_40 dX10_nextSets_19 (fun c3 h4 => ?_)
      refine j_iconst (pc := 20) dX10_nextSets_20 ?_
      refine j_iadd (pc := 21) dX10_nextSets_21 ?_
      refine j_iast (pc := 22) jv1_40 jm_01 rfl (by decide) wI1 ka1_40 (jm_w_in _) dX10_nextSets_22 (fun c5 M6 => ?_)
      refine j_aload_n (pc := 23) dX10_nextSets_23 rfl (q := 0) rfl ?_
      refine j_getr (pc := 24) jv1_5 jm_01 kf_RX10_23 0 kg1_5_3 rfl dX10_nextSets_24 ?_
      refine j_iload_n (pc := 27) dX10_nextSets_27 rfl (q := 2) rfl ?_
      refine j_iald (pc := 28) jv1_40 jm_01 rfl (by decide) ka1_40 dX10_nextSets_28 (fun c7 h8 => ?_)
      refine j_iload_n (pc := 29) dX10_nextSets_29 rfl (q := 1) rfl ?_
      refine j_icmp_ge (tgt := 35) (pc := 30) h8 hl2 dX10_nextSets_30 (by decide) (fun c9 => ?_) (fun c9 => ?_)
      · skip
        refine j_aload_n (pc := 35) dX10_nextSets_35 rfl (q := 0) rfl ?_
        refine j_getr (pc := 36) jv1_5 jm_01 kf_RX10_23 0 kg1_5_3 rfl dX10_nextSets_36 ?_
        refine j_iload_n (pc := 39) dX10_nextSets_39 rfl (q := 2) rfl ?_
        refine j_iconst (pc := 40) dX10_nextSets_40 ?_
        refine j_iast (pc := 41) jv1_40 jm_01 rfl (by decide) wI1 ka1_40 (jm_inL (by decide) (by decide)) dX10_nextSets_41 (fun c10 M11 => ?_)
        refine j_iinc (pc := 42) [(0, jm_vr wd1 X 5 0), (2, jm_i l2)] (q := 2) dX10_nextSets_42 rfl (by decide) (fun _ => rfl) (fun v12 h13 => ?_)
        refine j_goto (tgt := 4) (pc := 45) dX10_nextSets_45 (by decide) ?_
        refine j_sub (pc := 4) [(0, jm_vr wd1 X 5 0), (2, jm_i l2), (3, jm_i v12)] [1, 2, 0] rfl ?_
        exact hk4 M11 l2 v12 hl2 h13
      · skip
        refine j_iconst (pc := 33) dX10_nextSets_33 ?_
        exact j_iret (pc := 34) (jm_inL (by decide) (by decide)) rfl dX10_nextSets_34
theorem bX10_nextSets_4 (X : jm_X) (fu : Nat) : ∀ (n : Nat) (M : jm_M) (l2 l3 : Int) (hl2 : jm_in l2) (hl3 : jm_in l3), jm_J wd1 (jm_qi .boolean) cX10_nextSets 4 RX10 rmX10_nextSets X M [(0, jm_vr wd1 X 5 0), (2, jm_i l2), (3, jm_i l3)] [] 4 (fX10_nextSets_4 fu n M l2 l3) := by
  intro n
  induction n with
  | zero => intro M l2 l3 hl2 hl3; exact j_none
  | succ n ih => intro M l2 l3 hl2 hl3; exact b0X10_nextSets_4 X fu (fX10_nextSets_4 fu n) ih M l2 l3 hl2 hl3
set_option maxHeartbeats 4000000 in
set_option maxRecDepth 100000 in
theorem ct_X10_nextSets (fu : Nat) (M : jm_M) (l1 l2 : Int) (hl1 : jm_in l1) (hl2 : jm_in l2) : jm_Ci wd1 yX10_nextSets cX10_nextSets 4 (some .boolean) rmX10_nextSets M (fun G ad => [.ref (ad (jm_r wd1 5 0)), jm_i l1, jm_i l2]) (fX10_nextSets fu M l1 l2) := by
  refine jm_met_i (fun X => [(0, jm_vr wd1 X 5 0), (1, jm_i l1), (2, jm_i l2)]) (by decide) (fun _ _ => (Nat.le_of_ble_eq_true rfl)) (fun _ => rfl) (fun X => ?_)
  unfold fX10_nextSets
  refine j_iload_n (pc := 0) dX10_nextSets_0 rfl (q := 1) rfl ?_
  refine j_iconst (pc := 1) dX10_nextSets_1 ?_
  refine j_isub (pc := 2) dX10_nextSets_2 ?_
  refine j_nm (pc := 3) (jm_w_in _) (fun v1 h2 => ?_)
  refine j_istore_n (pc := 3) [(3, jm_i v1), (0, jm_vr wd1 X 5 0), (1, jm_i l1), (2, jm_i l2)] dX10_nextSets_3 rfl (by decide) rfl ?_
  refine j_sub (pc := 4) [(0, jm_vr wd1 X 5 0), (2, jm_i l2), (3, jm_i v1)] [1, 3, 0] rfl ?_
  exact bX10_nextSets_4 X fu  fu M l2 v1 hl2 h2
abbrev rmX10_nextLaps : Room := { frames := 0, cells := 0, slots := 0, locals := 0 }
set_option maxHeartbeats 4000000 in
set_option maxRecDepth 100000 in
theorem b0X10_nextLaps_38 (X : jm_X) (fu : Nat) (k38 : jm_M → Int → Int → Int → Int → jm_R) (hk38 : ∀ (M : jm_M) (l1 l3 l4 l5 : Int) (hl1 : jm_in l1) (hl3 : jm_in l3) (hl4 : jm_in l4) (hl5 : jm_in l5), jm_J wd1 (jm_qi .boolean) cX10_nextLaps 6 RX10 rmX10_nextLaps X M [(0, jm_vr wd1 X 5 0), (1, jm_i l1), (3, jm_i l3), (4, jm_i l4), (5, jm_i l5)] [] 38 (k38 M l1 l3 l4 l5)) : ∀ (M : jm_M) (l1 l3 l4 l5 : Int) (hl1 : jm_in l1) (hl3 : jm_in l3) (hl4 : jm_in l4) (hl5 : jm_in l5), jm_J wd1 (jm_qi .boolean) cX10_nextLaps 6 RX10 rmX10_nextLaps X M [(0, jm_vr wd1 X 5 0), (1, jm_i l1), (3, jm_i l3), (4, jm_i l4), (5, jm_i l5)] [] 38 (gX10_nextLaps_38 fu k38 M l1 l3 l4 l5) := by
  intro M l1 l3 l4 l5 hl1 hl3 hl4 hl5
  unfold gX10_nextLaps_38
  refine j_iload (pc := 38) dX10_nextLaps_38 (q := 4) rfl ?_
  refine j_iload_n (pc := 40) dX10_nextLaps_40 rfl (q := 1) rfl ?_
  refine j_icmp_ge (tgt := 70) (pc := 41) hl5 hl1 dX10_nextLaps_41 (by decide) (fun c1 => ?_) (fun c1 => ?_)
  · skip
    refine j_iconst (pc := 70) dX10_nextLaps_70 ?_
    exact j_iret (pc := 71) (jm_inL (by decide) (by decide)) rfl dX10_nextLaps_71
  · skip
    refine j_iload (pc := 44) dX10_nextLaps_44 (q := 4) rfl ?_
    refine j_iconst (pc := 46) dX10_nextLaps_46 ?_
    refine j_icmp_ge (tgt := 70) (pc := 47) hl5 (jm_inL (by decide) (by decide)) dX10_nextLaps_47 (by decide) (fun c2 => ?_) (fun c2 => ?_)
    · skip
      refine j_iconst (pc := 70) dX10_nextLaps_70 ?_
      exact j_iret (pc := 71) (jm_inL (by decide) (by decide)) rfl dX10_nextLaps_71
    · skip
      refine j_aload_n (pc := 50) dX10_nextLaps_50 rfl (q := 0) rfl ?_
      refine j_getr (pc := 51) jv1_5 jm_01 kf_RX10_19 0 kg1_5_2 rfl dX10_nextLaps_51 ?_
      refine j_iload (pc := 54) dX10_nextLaps_54 (q := 4) rfl ?_
      refine j_iload (pc := 56) dX10_nextLaps_56 (q := 3) rfl ?_
      refine j_iload (pc := 58) dX10_nextLaps_58 (q := 4) rfl ?_
      refine j_iadd (pc := 60) dX10_nextLaps_60 ?_
      refine j_iload_n (pc := 61) dX10_nextLaps_61 rfl (q := 2) rfl ?_
      refine j_isub (pc := 62) dX10_nextLaps_62 ?_
      refine j_iast (pc := 63) jv1_39 jm_01 rfl (by decide) wI1 ka1_39 (jm_w_in _) dX10_nextLaps_63 (fun c3 M4 => ?_)
      refine j_iinc (pc := 64) [(0, jm_vr wd1 X 5 0), (1, jm_i l1), (3, jm_i l3), (4, jm_i l4)] (q := 4) dX10_nextLaps_64 rfl (by decide) (fun _ => rfl) (fun v5 h6 => ?_)
      refine j_goto (tgt := 38) (pc := 67) dX10_nextLaps_67 (by decide) ?_
      refine j_sub (pc := 38) [(0, jm_vr wd1 X 5 0), (1, jm_i l1), (3, jm_i l3), (4, jm_i l4), (5, jm_i v5)] [1, 2, 3, 4, 0] rfl ?_
      exact hk38 M4 l1 l3 l4 v5 hl1 hl3 hl4 h6
theorem bX10_nextLaps_38 (X : jm_X) (fu : Nat) : ∀ (n : Nat) (M : jm_M) (l1 l3 l4 l5 : Int) (hl1 : jm_in l1) (hl3 : jm_in l3) (hl4 : jm_in l4) (hl5 : jm_in l5), jm_J wd1 (jm_qi .boolean) cX10_nextLaps 6 RX10 rmX10_nextLaps X M [(0, jm_vr wd1 X 5 0), (1, jm_i l1), (3, jm_i l3), (4, jm_i l4), (5, jm_i l5)] [] 38 (fX10_nextLaps_38 fu n M l1 l3 l4 l5) := by
  intro n
  induction n with
  | zero => intro M l1 l3 l4 l5 hl1 hl3 hl4 hl5; exact j_none
  | succ n ih => intro M l1 l3 l4 l5 hl1 hl3 hl4 hl5; exact b0X10_nextLaps_38 X fu (fX10_nextLaps_38 fu n) ih M l1 l3 l4 l5 hl1 hl3 hl4 hl5
set_option maxHeartbeats 4000000 in
set_option maxRecDepth 100000 in
theorem b0X10_nextLaps_4 (X : jm_X) (fu : Nat) (k4 : jm_M → Int → Int → Int → jm_R) (hk4 : ∀ (M : jm_M) (l1 l2 l3 : Int) (hl1 : jm_in l1) (hl2 : jm_in l2) (hl3 : jm_in l3), jm_J wd1 (jm_qi .boolean) cX10_nextLaps 6 RX10 rmX10_nextLaps X M [(0, jm_vr wd1 X 5 0), (1, jm_i l1), (2, jm_i l2), (3, jm_i l3)] [] 4 (k4 M l1 l2 l3)) : ∀ (M : jm_M) (l1 l2 l3 : Int) (hl1 : jm_in l1) (hl2 : jm_in l2) (hl3 : jm_in l3), jm_J wd1 (jm_qi .boolean) cX10_nextLaps 6 RX10 rmX10_nextLaps X M [(0, jm_vr wd1 X 5 0), (1, jm_i l1), (2, jm_i l2), (3, jm_i l3)] [] 4 (gX10_nextLaps_4 fu k4 M l1 l2 l3) := by
  intro M l1 l2 l3 hl1 hl2 hl3
  unfold gX10_nextLaps_4
  refine j_iload_n (pc := 4) dX10_nextLaps_4 rfl (q := 3) rfl ?_
  refine j_if_lt (tgt := 78) (pc := 5) hl3 dX10_nextLaps_5 (by decide) (fun c1 => ?_) (fun c1 => ?_)
  · skip
    refine j_iconst (pc := 78) dX10_nextLaps_78 ?_
    exact j_iret (pc := 79) (jm_inL (by decide) (by decide)) rfl dX10_nextLaps_79
  · skip
    refine j_iload_n (pc := 8) dX10_nextLaps_8 rfl (q := 3) rfl ?_
    refine j_iconst (pc := 9) dX10_nextLaps_9 ?_
    refine j_icmp_ge (tgt := 78) (pc := 10) hl3 (jm_inL (by decide) (by decide)) dX10_nextLaps_10 (by decide) (fun c2 => ?_) (fun c2 => ?_)
    · skip
      refine j_iconst (pc := 78) dX10_nextLaps_78 ?_
      exact j_iret (pc := 79) (jm_inL (by decide) (by decide)) rfl dX10_nextLaps_79
    · skip
      refine j_aload_n (pc := 13) dX10_nextLaps_13 rfl (q := 0) rfl ?_
      refine j_getr (pc := 14) jv1_5 jm_01 kf_RX10_19 0 kg1_5_2 rfl dX10_nextLaps_14 ?_
      refine j_iload_n (pc := 17) dX10_nextLaps_17 rfl (q := 3) rfl ?_
      refine j_iald (pc := 18) jv1_39 jm_01 rfl (by decide) ka1_39 dX10_nextLaps_18 (fun c3 h4 => ?_)
      refine j_iconst (pc := 19) dX10_nextLaps_19 ?_
      refine j_iadd (pc := 20) dX10_nextLaps_20 ?_
      refine j_nm (pc := 21) (jm_w_in _) (fun v5 h6 => ?_)
      refine j_istore (pc := 21) [(4, jm_i v5), (0, jm_vr wd1 X 5 0), (1, jm_i l1), (2, jm_i l2), (3, jm_i l3)] dX10_nextLaps_21 (by decide) rfl ?_
      refine j_iload (pc := 23) dX10_nextLaps_23 (q := 0) rfl ?_
      refine j_iload_n (pc := 25) dX10_nextLaps_25 rfl (q := 2) rfl ?_
      refine j_iadd (pc := 26) dX10_nextLaps_26 ?_
      refine j_iconst (pc := 27) dX10_nextLaps_27 ?_
      refine j_isub (pc := 28) dX10_nextLaps_28 ?_
      refine j_iload_n (pc := 29) dX10_nextLaps_29 rfl (q := 4) rfl ?_
      refine j_isub (pc := 30) dX10_nextLaps_30 ?_
      refine j_iload_n (pc := 31) dX10_nextLaps_31 rfl (q := 3) rfl ?_
      refine j_icmp_gt (tgt := 72) (pc := 32) (jm_w_in _) hl2 dX10_nextLaps_32 (by decide) (fun c7 => ?_) (fun c7 => ?_)
      · skip
        refine j_iinc (pc := 72) [(4, jm_i v5), (0, jm_vr wd1 X 5 0), (1, jm_i l1), (2, jm_i l2)] (q := 4) dX10_nextLaps_72 rfl (by decide) (fun _ => rfl) (fun v8 h9 => ?_)
        refine j_goto (tgt := 4) (pc := 75) dX10_nextLaps_75 (by decide) ?_
        refine j_sub (pc := 4) [(0, jm_vr wd1 X 5 0), (1, jm_i l1), (2, jm_i l2), (3, jm_i v8)] [2, 3, 4, 0] rfl ?_
        exact hk4 M l1 l2 v8 hl1 hl2 h9
      · skip
        refine j_iload_n (pc := 35) dX10_nextLaps_35 rfl (q := 4) rfl ?_
        refine j_istore (pc := 36) [(5, jm_i l3), (4, jm_i v5), (0, jm_vr wd1 X 5 0), (1, jm_i l1), (2, jm_i l2), (3, jm_i l3)] dX10_nextLaps_36 (by decide) rfl ?_
        refine j_sub (pc := 38) [(0, jm_vr wd1 X 5 0), (1, jm_i l1), (3, jm_i l3), (4, jm_i v5), (5, jm_i l3)] [2, 3, 5, 1, 0] rfl ?_
        exact bX10_nextLaps_38 X fu  fu M l1 l3 v5 l3 hl1 hl3 h6 hl3
theorem bX10_nextLaps_4 (X : jm_X) (fu : Nat) : ∀ (n : Nat) (M : jm_M) (l1 l2 l3 : Int) (hl1 : jm_in l1) (hl2 : jm_in l2) (hl3 : jm_in l3), jm_J wd1 (jm_qi .boolean) cX10_nextLaps 6 RX10 rmX10_nextLaps X M [(0, jm_vr wd1 X 5 0), (1, jm_i l1), (2, jm_i l2), (3, jm_i l3)] [] 4 (fX10_nextLaps_4 fu n M l1 l2 l3) := by
  intro n
  induction n with
  | zero => intro M l1 l2 l3 hl1 hl2 hl3; exact j_none
  | succ n ih => intro M l1 l2 l3 hl1 hl2 hl3; exact b0X10_nextLaps_4 X fu (fX10_nextLaps_4 fu n) ih M l1 l2 l3 hl1 hl2 hl3
set_option maxHeartbeats 4000000 in
set_option maxRecDepth 100000 in
theorem ct_X10_nextLaps (fu : Nat) (M : jm_M) (l1 l2 : Int) (hl1 : jm_in l1) (hl2 : jm_in l2) : jm_Ci wd1 yX10_nextLaps cX10_nextLaps 6 (some .boolean) rmX10_nextLaps M (fun G ad => [.ref (ad (jm_r wd1 5 0)), jm_i l1, jm_i l2]) (fX10_nextLaps fu M l1 l2) := by
  refine jm_met_i (fun X => [(0, jm_vr wd1 X 5 0), (1, jm_i l1), (2, jm_i l2)]) (by decide) (fun _ _ => (Nat.le_of_ble_eq_true rfl)) (fun _ => rfl) (fun X => ?_)
  unfold fX10_nextLaps
  refine j_iload_n (pc := 0) dX10_nextLaps_0 rfl (q := 1) rfl ?_
  refine j_iconst (pc := 1) dX10_nextLaps_1 ?_
  refine j_isub (pc := 2) dX10_nextLaps_2 ?_
  refine j_nm (pc := 3) (jm_w_in _) (fun v1 h2 => ?_)
  refine j_istore_n (pc := 3) [(3, jm_i v1), (0, jm_vr wd1 X 5 0), (1, jm_i l1), (2, jm_i l2)] dX10_nextLaps_3 rfl (by decide) rfl ?_
  refine j_sub (pc := 4) [(0, jm_vr wd1 X 5 0), (1, jm_i l1), (2, jm_i l2), (3, jm_i v1)] [1, 2, 3, 0] rfl ?_
  exact bX10_nextLaps_4 X fu  fu M l1 l2 v1 hl1 hl2 h2
abbrev rmX10_search : Room := { frames := 6, cells := 0, slots := 0, locals := 158 }
set_option maxHeartbeats 4000000 in
set_option maxRecDepth 100000 in
theorem bX10_search_192 (X : jm_X) (fu : Nat) (k116 : jm_M → Int → Int → Int → Int → Int → Int → Int → jm_R) (hk116 : ∀ (M : jm_M) (l1 l2 l3 r4 l5 l6 l7 : Int) (hl1 : jm_in l1) (hl2 : jm_in l2) (hl3 : jm_in l3) (gr4 : 0 ≤ r4 ∧ r4 < 6) (hl5 : jm_in l5) (hl6 : jm_in l6) (hl7 : jm_in l7), jm_J wd1 (jm_qi .boolean) cX10_search 8 RX10 rmX10_search X M [(0, jm_vr wd1 X 5 0), (1, jm_i l1), (2, jm_i l2), (3, jm_i l3), (4, jm_vr wd1 X 8 r4), (5, jm_i l5), (6, jm_i l6), (7, jm_i l7)] [] 116 (k116 M l1 l2 l3 r4 l5 l6 l7)) : ∀ (M : jm_M) (l1 l2 l3 r4 l5 l7 : Int) (hl1 : jm_in l1) (hl2 : jm_in l2) (hl3 : jm_in l3) (gr4 : 0 ≤ r4 ∧ r4 < 6) (hl5 : jm_in l5) (hl7 : jm_in l7), jm_J wd1 (jm_qi .boolean) cX10_search 8 RX10 rmX10_search X M [(0, jm_vr wd1 X 5 0), (1, jm_i l1), (2, jm_i l2), (3, jm_i l3), (4, jm_vr wd1 X 8 r4), (5, jm_i l5), (7, jm_i l7)] [] 192 (gX10_search_192 fu k116 M l1 l2 l3 r4 l5 l7) := by
  intro M l1 l2 l3 r4 l5 l7 hl1 hl2 hl3 gr4 hl5 hl7
  unfold gX10_search_192
  refine j_aload_n (pc := 192) dX10_search_192 rfl (q := 0) rfl ?_
  refine j_iload_n (pc := 193) dX10_search_193 rfl (q := 2) rfl ?_
  refine j_aload (pc := 194) dX10_search_194 (q := 4) rfl ?_
  refine j_getr (pc := 196) jv1_8 gr4 kf_RX10_65 r4 kg1_8_6 rfl dX10_search_196 ?_
  refine j_geti (pc := 199) jv1_10 (by omega) kf_RX10_71 kg1_10_3 dX10_search_199 (fun h1 => ?_)
  refine j_callVi2 (pc := 202) (ct_X10_nextSets fu M l2 (M 10 r4 3) hl2 h1) kg_1170 km_X10_nextSets kv_X10_nextSets rfl rfl ⟨(Nat.le_of_ble_eq_true rfl), (Nat.le_of_ble_eq_true rfl)⟩ jv1_5 jm_01 ko1_5 rfl rfl (Nat.le_of_ble_eq_true rfl) dX10_search_202 (fun v2 M3 h4 => ?_)
  refine j_if_ne (tgt := 218) (pc := 205) h4 dX10_search_205 (by decide) (fun c5 => ?_) (fun c5 => ?_)
  · skip
    refine j_aload_n (pc := 208) dX10_search_208 rfl (q := 0) rfl ?_
    refine j_iload_n (pc := 209) dX10_search_209 rfl (q := 2) rfl ?_
    refine j_iload (pc := 210) dX10_search_210 (q := 5) rfl ?_
    refine j_callVi2 (pc := 212) (ct_X10_nextLaps fu M3 l2 l5 hl2 hl5) kg_1174 km_X10_nextLaps kv_X10_nextLaps rfl rfl ⟨(Nat.le_of_ble_eq_true rfl), (Nat.le_of_ble_eq_true rfl)⟩ jv1_5 jm_01 ko1_5 rfl rfl (Nat.le_of_ble_eq_true rfl) dX10_search_212 (fun v6 M7 h8 => ?_)
    refine j_if_eq (tgt := 222) (pc := 215) h8 dX10_search_215 (by decide) (fun c9 => ?_) (fun c9 => ?_)
    · skip
      refine j_iconst (pc := 222) dX10_search_222 ?_
      refine j_istore (pc := 223) [(6, jm_i 0), (0, jm_vr wd1 X 5 0), (1, jm_i l1), (2, jm_i l2), (3, jm_i l3), (4, jm_vr wd1 X 8 r4), (5, jm_i l5), (7, jm_i l7)] dX10_search_223 (by decide) rfl ?_
      refine j_iinc (pc := 225) [(6, jm_i 0), (0, jm_vr wd1 X 5 0), (1, jm_i l1), (2, jm_i l2), (3, jm_i l3), (4, jm_vr wd1 X 8 r4), (5, jm_i l5)] (q := 7) dX10_search_225 rfl (by decide) (fun _ => rfl) (fun v10 h11 => ?_)
      refine j_goto (tgt := 116) (pc := 228) dX10_search_228 (by decide) ?_
      refine j_sub (pc := 116) [(0, jm_vr wd1 X 5 0), (1, jm_i l1), (2, jm_i l2), (3, jm_i l3), (4, jm_vr wd1 X 8 r4), (5, jm_i l5), (6, jm_i 0), (7, jm_i v10)] [2, 3, 4, 5, 6, 7, 1, 0] rfl ?_
      exact hk116 M7 l1 l2 l3 r4 l5 0 v10 hl1 hl2 hl3 gr4 hl5 (jm_inL (by decide) (by decide)) h11
    · skip
      refine j_iconst (pc := 218) dX10_search_218 ?_
      refine j_goto (tgt := 223) (pc := 219) dX10_search_219 (by decide) ?_
      refine j_istore (pc := 223) [(6, jm_i 1), (0, jm_vr wd1 X 5 0), (1, jm_i l1), (2, jm_i l2), (3, jm_i l3), (4, jm_vr wd1 X 8 r4), (5, jm_i l5), (7, jm_i l7)] dX10_search_223 (by decide) rfl ?_
      refine j_iinc (pc := 225) [(6, jm_i 1), (0, jm_vr wd1 X 5 0), (1, jm_i l1), (2, jm_i l2), (3, jm_i l3), (4, jm_vr wd1 X 8 r4), (5, jm_i l5)] (q := 7) dX10_search_225 rfl (by decide) (fun _ => rfl) (fun v12 h13 => ?_)
      refine j_goto (tgt := 116) (pc := 228) dX10_search_228 (by decide) ?_
      refine j_sub (pc := 116) [(0, jm_vr wd1 X 5 0), (1, jm_i l1), (2, jm_i l2), (3, jm_i l3), (4, jm_vr wd1 X 8 r4), (5, jm_i l5), (6, jm_i 1), (7, jm_i v12)] [2, 3, 4, 5, 6, 7, 1, 0] rfl ?_
      exact hk116 M7 l1 l2 l3 r4 l5 1 v12 hl1 hl2 hl3 gr4 hl5 (jm_inL (by decide) (by decide)) h13
  · skip
    refine j_iconst (pc := 218) dX10_search_218 ?_
    refine j_goto (tgt := 223) (pc := 219) dX10_search_219 (by decide) ?_
    refine j_istore (pc := 223) [(6, jm_i 1), (0, jm_vr wd1 X 5 0), (1, jm_i l1), (2, jm_i l2), (3, jm_i l3), (4, jm_vr wd1 X 8 r4), (5, jm_i l5), (7, jm_i l7)] dX10_search_223 (by decide) rfl ?_
    refine j_iinc (pc := 225) [(6, jm_i 1), (0, jm_vr wd1 X 5 0), (1, jm_i l1), (2, jm_i l2), (3, jm_i l3), (4, jm_vr wd1 X 8 r4), (5, jm_i l5)] (q := 7) dX10_search_225 rfl (by decide) (fun _ => rfl) (fun v14 h15 => ?_)
    refine j_goto (tgt := 116) (pc := 228) dX10_search_228 (by decide) ?_
    refine j_sub (pc := 116) [(0, jm_vr wd1 X 5 0), (1, jm_i l1), (2, jm_i l2), (3, jm_i l3), (4, jm_vr wd1 X 8 r4), (5, jm_i l5), (6, jm_i 1), (7, jm_i v14)] [2, 3, 4, 5, 6, 7, 1, 0] rfl ?_
    exact hk116 M3 l1 l2 l3 r4 l5 1 v14 hl1 hl2 hl3 gr4 hl5 (jm_inL (by decide) (by decide)) h15
set_option maxHeartbeats 4000000 in
set_option maxRecDepth 100000 in
theorem b0X10_search_116 (X : jm_X) (fu : Nat) (k116 : jm_M → Int → Int → Int → Int → Int → Int → Int → jm_R) (hk116 : ∀ (M : jm_M) (l1 l2 l3 r4 l5 l6 l7 : Int) (hl1 : jm_in l1) (hl2 : jm_in l2) (hl3 : jm_in l3) (gr4 : 0 ≤ r4 ∧ r4 < 6) (hl5 : jm_in l5) (hl6 : jm_in l6) (hl7 : jm_in l7), jm_J wd1 (jm_qi .boolean) cX10_search 8 RX10 rmX10_search X M [(0, jm_vr wd1 X 5 0), (1, jm_i l1), (2, jm_i l2), (3, jm_i l3), (4, jm_vr wd1 X 8 r4), (5, jm_i l5), (6, jm_i l6), (7, jm_i l7)] [] 116 (k116 M l1 l2 l3 r4 l5 l6 l7)) : ∀ (M : jm_M) (l1 l2 l3 r4 l5 l6 l7 : Int) (hl1 : jm_in l1) (hl2 : jm_in l2) (hl3 : jm_in l3) (gr4 : 0 ≤ r4 ∧ r4 < 6) (hl5 : jm_in l5) (hl6 : jm_in l6) (hl7 : jm_in l7), jm_J wd1 (jm_qi .boolean) cX10_search 8 RX10 rmX10_search X M [(0, jm_vr wd1 X 5 0), (1, jm_i l1), (2, jm_i l2), (3, jm_i l3), (4, jm_vr wd1 X 8 r4), (5, jm_i l5), (6, jm_i l6), (7, jm_i l7)] [] 116 (gX10_search_116 fu k116 M l1 l2 l3 r4 l5 l6 l7) := by
  intro M l1 l2 l3 r4 l5 l6 l7 hl1 hl2 hl3 gr4 hl5 hl6 hl7
  unfold gX10_search_116
  refine j_iload (pc := 116) dX10_search_116 (q := 7) rfl ?_
  refine j_sipush (pc := 118) 1000 dX10_search_118 (by decide) ?_
  refine j_icmp_ge (tgt := 231) (pc := 121) hl7 (jm_inL (by decide) (by decide)) dX10_search_121 (by decide) (fun c1 => ?_) (fun c1 => ?_)
  · skip
    refine j_aload (pc := 231) dX10_search_231 (q := 4) rfl ?_
    refine j_iconst (pc := 233) dX10_search_233 ?_
    refine j_put (pc := 234) jv1_8 gr4 kf_RX10_76 wI1 kp_X1_13 kx1_8_13 (jm_inL (by decide) (by decide)) rfl rfl dX10_search_234 (fun M2 => ?_)
    refine j_iconst (pc := 237) dX10_search_237 ?_
    exact j_iret (pc := 238) (jm_inL (by decide) (by decide)) rfl dX10_search_238
  · skip
    refine j_iload (pc := 124) dX10_search_124 (q := 6) rfl ?_
    refine j_if_eq (tgt := 231) (pc := 126) hl6 dX10_search_126 (by decide) (fun c3 => ?_) (fun c3 => ?_)
    · skip
      refine j_aload (pc := 231) dX10_search_231 (q := 4) rfl ?_
      refine j_iconst (pc := 233) dX10_search_233 ?_
      refine j_put (pc := 234) jv1_8 gr4 kf_RX10_76 wI1 kp_X1_13 kx1_8_13 (jm_inL (by decide) (by decide)) rfl rfl dX10_search_234 (fun M4 => ?_)
      refine j_iconst (pc := 237) dX10_search_237 ?_
      exact j_iret (pc := 238) (jm_inL (by decide) (by decide)) rfl dX10_search_238
    · skip
      refine j_aload_n (pc := 129) dX10_search_129 rfl (q := 0) rfl ?_
      refine j_aload (pc := 130) dX10_search_130 (q := 4) rfl ?_
      refine j_iload_n (pc := 132) dX10_search_132 rfl (q := 2) rfl ?_
      refine j_callVv2 (pc := 133) (ct_X10_takeWay fu M r4 l2 gr4 hl2) kg_1146 km_X10_takeWay kv_X10_takeWay rfl rfl ⟨(Nat.le_of_ble_eq_true rfl), (Nat.le_of_ble_eq_true rfl)⟩ jv1_5 jm_01 ko1_5 rfl rfl (Nat.le_of_ble_eq_true rfl) dX10_search_133 (fun v5 M6 => ?_)
      refine j_aload_n (pc := 136) dX10_search_136 rfl (q := 0) rfl ?_
      refine j_getr (pc := 137) jv1_5 jm_01 kf_RX10_9 0 kg1_5_0 rfl dX10_search_137 ?_
      refine j_callVv0 (pc := 140) (ct_X2_run fu M6 ) kg_1151 km_X2_run kv_X2_run rfl rfl ⟨(Nat.le_of_ble_eq_true rfl), (Nat.le_of_ble_eq_true rfl)⟩ jv1_2 jm_01 ko1_2 rfl rfl (Nat.le_of_ble_eq_true rfl) dX10_search_140 (fun v7 M8 => ?_)
      refine j_aload_n (pc := 143) dX10_search_143 rfl (q := 0) rfl ?_
      refine j_getr (pc := 144) jv1_5 jm_01 kf_RX10_15 0 kg1_5_1 rfl dX10_search_144 ?_
      refine j_iload_n (pc := 147) dX10_search_147 rfl (q := 3) rfl ?_
      refine j_callVv1 (pc := 148) (ct_X5_reckonFor fu M8 l3 hl3) kg_1152 km_X5_reckonFor kv_X5_reckonFor rfl rfl ⟨(Nat.le_of_ble_eq_true rfl), (Nat.le_of_ble_eq_true rfl)⟩ jv1_4 jm_01 ko1_4 rfl rfl (Nat.le_of_ble_eq_true rfl) dX10_search_148 (fun v9 M10 => ?_)
      refine j_iload (pc := 151) dX10_search_151 (q := 7) rfl ?_
      refine j_if_eq (tgt := 186) (pc := 153) hl7 dX10_search_153 (by decide) (fun c11 => ?_) (fun c11 => ?_)
      · skip
        refine j_aload_n (pc := 186) dX10_search_186 rfl (q := 0) rfl ?_
        refine j_iload_n (pc := 187) dX10_search_187 rfl (q := 1) rfl ?_
        refine j_iload_n (pc := 188) dX10_search_188 rfl (q := 2) rfl ?_
        refine j_callVv2 (pc := 189) (ct_X10_keepWay fu M10 l1 l2 hl1 hl2) kg_1166 km_X10_keepWay kv_X10_keepWay rfl rfl ⟨(Nat.le_of_ble_eq_true rfl), (Nat.le_of_ble_eq_true rfl)⟩ jv1_5 jm_01 ko1_5 rfl rfl (Nat.le_of_ble_eq_true rfl) dX10_search_189 (fun v12 M13 => ?_)
        refine j_sub (pc := 192) [(0, jm_vr wd1 X 5 0), (1, jm_i l1), (2, jm_i l2), (3, jm_i l3), (4, jm_vr wd1 X 8 r4), (5, jm_i l5), (7, jm_i l7)] [0, 1, 2, 3, 4, 5, 7] rfl ?_
        exact bX10_search_192 X fu k116 hk116 M13 l1 l2 l3 r4 l5 l7 hl1 hl2 hl3 gr4 hl5 hl7
      · skip
        refine j_aload_n (pc := 156) dX10_search_156 rfl (q := 0) rfl ?_
        refine j_getr (pc := 157) jv1_5 jm_01 kf_RX10_15 0 kg1_5_1 rfl dX10_search_157 ?_
        refine j_iload_n (pc := 160) dX10_search_160 rfl (q := 1) rfl ?_
        refine j_callVi1 (pc := 161) (ct_X5_triedPlace fu M10 l1 hl1) kg_1153 km_X5_triedPlace kv_X5_triedPlace rfl rfl ⟨(Nat.le_of_ble_eq_true rfl), (Nat.le_of_ble_eq_true rfl)⟩ jv1_4 jm_01 ko1_4 rfl rfl (Nat.le_of_ble_eq_true rfl) dX10_search_161 (fun v14 M15 h16 => ?_)
        refine j_aload_n (pc := 164) dX10_search_164 rfl (q := 0) rfl ?_
        refine j_getr (pc := 165) jv1_5 jm_01 kf_RX10_15 0 kg1_5_1 rfl dX10_search_165 ?_
        refine j_iload_n (pc := 168) dX10_search_168 rfl (q := 1) rfl ?_
        refine j_callVi1 (pc := 169) (ct_X5_triedSum M15 l1 hl1) kg_1158 km_X5_triedSum kv_X5_triedSum rfl rfl ⟨(Nat.le_of_ble_eq_true rfl), (Nat.le_of_ble_eq_true rfl)⟩ jv1_4 jm_01 ko1_4 rfl rfl (Nat.le_of_ble_eq_true rfl) dX10_search_169 (fun v17 M18 h19 => ?_)
        refine j_aload_n (pc := 172) dX10_search_172 rfl (q := 0) rfl ?_
        refine j_geti (pc := 173) jv1_5 jm_01 kf_RX10_100 kg1_5_5 dX10_search_173 (fun h20 => ?_)
        refine j_aload_n (pc := 176) dX10_search_176 rfl (q := 0) rfl ?_
        refine j_geti (pc := 177) jv1_5 jm_01 kf_RX10_103 kg1_5_6 dX10_search_177 (fun h21 => ?_)
        refine j_callSi4 (pc := 180) (ct_X10_isBetter M18 v14 v17 (M18 5 0 5) (M18 5 0 6) h16 h19 h20 h21) kg_1163 km_X10_isBetter kg_1164 rfl rfl ⟨(Nat.le_of_ble_eq_true rfl), (Nat.le_of_ble_eq_true rfl)⟩ rfl rfl (Nat.le_of_ble_eq_true rfl) dX10_search_180 (fun v22 M23 h24 => ?_)
        refine j_if_eq (tgt := 192) (pc := 183) h24 dX10_search_183 (by decide) (fun c25 => ?_) (fun c25 => ?_)
        · skip
          refine j_sub (pc := 192) [(0, jm_vr wd1 X 5 0), (1, jm_i l1), (2, jm_i l2), (3, jm_i l3), (4, jm_vr wd1 X 8 r4), (5, jm_i l5), (7, jm_i l7)] [0, 1, 2, 3, 4, 5, 7] rfl ?_
          exact bX10_search_192 X fu k116 hk116 M23 l1 l2 l3 r4 l5 l7 hl1 hl2 hl3 gr4 hl5 hl7
        · skip
          refine j_aload_n (pc := 186) dX10_search_186 rfl (q := 0) rfl ?_
          refine j_iload_n (pc := 187) dX10_search_187 rfl (q := 1) rfl ?_
          refine j_iload_n (pc := 188) dX10_search_188 rfl (q := 2) rfl ?_
          refine j_callVv2 (pc := 189) (ct_X10_keepWay fu M23 l1 l2 hl1 hl2) kg_1166 km_X10_keepWay kv_X10_keepWay rfl rfl ⟨(Nat.le_of_ble_eq_true rfl), (Nat.le_of_ble_eq_true rfl)⟩ jv1_5 jm_01 ko1_5 rfl rfl (Nat.le_of_ble_eq_true rfl) dX10_search_189 (fun v26 M27 => ?_)
          refine j_sub (pc := 192) [(0, jm_vr wd1 X 5 0), (1, jm_i l1), (2, jm_i l2), (3, jm_i l3), (4, jm_vr wd1 X 8 r4), (5, jm_i l5), (7, jm_i l7)] [0, 1, 2, 3, 4, 5, 7] rfl ?_
          exact bX10_search_192 X fu k116 hk116 M27 l1 l2 l3 r4 l5 l7 hl1 hl2 hl3 gr4 hl5 hl7
theorem bX10_search_116 (X : jm_X) (fu : Nat) : ∀ (n : Nat) (M : jm_M) (l1 l2 l3 r4 l5 l6 l7 : Int) (hl1 : jm_in l1) (hl2 : jm_in l2) (hl3 : jm_in l3) (gr4 : 0 ≤ r4 ∧ r4 < 6) (hl5 : jm_in l5) (hl6 : jm_in l6) (hl7 : jm_in l7), jm_J wd1 (jm_qi .boolean) cX10_search 8 RX10 rmX10_search X M [(0, jm_vr wd1 X 5 0), (1, jm_i l1), (2, jm_i l2), (3, jm_i l3), (4, jm_vr wd1 X 8 r4), (5, jm_i l5), (6, jm_i l6), (7, jm_i l7)] [] 116 (fX10_search_116 fu n M l1 l2 l3 r4 l5 l6 l7) := by
  intro n
  induction n with
  | zero => intro M l1 l2 l3 r4 l5 l6 l7 hl1 hl2 hl3 gr4 hl5 hl6 hl7; exact j_none
  | succ n ih => intro M l1 l2 l3 r4 l5 l6 l7 hl1 hl2 hl3 gr4 hl5 hl6 hl7; exact b0X10_search_116 X fu (fX10_search_116 fu n) ih M l1 l2 l3 r4 l5 l6 l7 hl1 hl2 hl3 gr4 hl5 hl6 hl7
set_option maxHeartbeats 4000000 in
set_option maxRecDepth 100000 in
theorem b0X10_search_75 (X : jm_X) (fu : Nat) (k75 : jm_M → Int → Int → Int → Int → Int → Int → jm_R) (hk75 : ∀ (M : jm_M) (l1 l2 l3 r4 l5 l6 : Int) (hl1 : jm_in l1) (hl2 : jm_in l2) (hl3 : jm_in l3) (gr4 : 0 ≤ r4 ∧ r4 < 6) (hl5 : jm_in l5) (hl6 : jm_in l6), jm_J wd1 (jm_qi .boolean) cX10_search 8 RX10 rmX10_search X M [(0, jm_vr wd1 X 5 0), (1, jm_i l1), (2, jm_i l2), (3, jm_i l3), (4, jm_vr wd1 X 8 r4), (5, jm_i l5), (6, jm_i l6)] [] 75 (k75 M l1 l2 l3 r4 l5 l6)) : ∀ (M : jm_M) (l1 l2 l3 r4 l5 l6 : Int) (hl1 : jm_in l1) (hl2 : jm_in l2) (hl3 : jm_in l3) (gr4 : 0 ≤ r4 ∧ r4 < 6) (hl5 : jm_in l5) (hl6 : jm_in l6), jm_J wd1 (jm_qi .boolean) cX10_search 8 RX10 rmX10_search X M [(0, jm_vr wd1 X 5 0), (1, jm_i l1), (2, jm_i l2), (3, jm_i l3), (4, jm_vr wd1 X 8 r4), (5, jm_i l5), (6, jm_i l6)] [] 75 (gX10_search_75 fu k75 M l1 l2 l3 r4 l5 l6) := by
  intro M l1 l2 l3 r4 l5 l6 hl1 hl2 hl3 gr4 hl5 hl6
  unfold gX10_search_75
  refine j_iload (pc := 75) dX10_search_75 (q := 6) rfl ?_
  refine j_iload_n (pc := 77) dX10_search_77 rfl (q := 2) rfl ?_
  refine j_icmp_ge (tgt := 104) (pc := 78) hl6 hl2 dX10_search_78 (by decide) (fun c1 => ?_) (fun c1 => ?_)
  · skip
    refine j_aload (pc := 104) dX10_search_104 (q := 4) rfl ?_
    refine j_iconst (pc := 106) dX10_search_106 ?_
    refine j_put (pc := 107) jv1_8 gr4 kf_RX10_76 wI1 kp_X1_13 kx1_8_13 (jm_inL (by decide) (by decide)) rfl rfl dX10_search_107 (fun M2 => ?_)
    refine j_iconst (pc := 110) dX10_search_110 ?_
    refine j_istore (pc := 111) [(6, jm_i 1), (0, jm_vr wd1 X 5 0), (1, jm_i l1), (2, jm_i l2), (3, jm_i l3), (4, jm_vr wd1 X 8 r4), (5, jm_i l5)] dX10_search_111 (by decide) rfl ?_
    refine j_iconst (pc := 113) dX10_search_113 ?_
    refine j_istore (pc := 114) [(7, jm_i 0), (6, jm_i 1), (0, jm_vr wd1 X 5 0), (1, jm_i l1), (2, jm_i l2), (3, jm_i l3), (4, jm_vr wd1 X 8 r4), (5, jm_i l5)] dX10_search_114 (by decide) rfl ?_
    refine j_sub (pc := 116) [(0, jm_vr wd1 X 5 0), (1, jm_i l1), (2, jm_i l2), (3, jm_i l3), (4, jm_vr wd1 X 8 r4), (5, jm_i l5), (6, jm_i 1), (7, jm_i 0)] [2, 3, 4, 5, 6, 7, 1, 0] rfl ?_
    exact bX10_search_116 X fu  fu M2 l1 l2 l3 r4 l5 1 0 hl1 hl2 hl3 gr4 hl5 (jm_inL (by decide) (by decide)) (jm_inL (by decide) (by decide))
  · skip
    refine j_aload_n (pc := 81) dX10_search_81 rfl (q := 0) rfl ?_
    refine j_getr (pc := 82) jv1_5 jm_01 kf_RX10_19 0 kg1_5_2 rfl dX10_search_82 ?_
    refine j_iload (pc := 85) dX10_search_85 (q := 6) rfl ?_
    refine j_iload (pc := 87) dX10_search_87 (q := 6) rfl ?_
    refine j_iast (pc := 89) jv1_39 jm_01 rfl (by decide) wI1 ka1_39 hl6 dX10_search_89 (fun c3 M4 => ?_)
    refine j_aload_n (pc := 90) dX10_search_90 rfl (q := 0) rfl ?_
    refine j_getr (pc := 91) jv1_5 jm_01 kf_RX10_23 0 kg1_5_3 rfl dX10_search_91 ?_
    refine j_iload (pc := 94) dX10_search_94 (q := 6) rfl ?_
    refine j_iconst (pc := 96) dX10_search_96 ?_
    refine j_iast (pc := 97) jv1_40 jm_01 rfl (by decide) wI1 ka1_40 (jm_inL (by decide) (by decide)) dX10_search_97 (fun c5 M6 => ?_)
    refine j_iinc (pc := 98) [(0, jm_vr wd1 X 5 0), (1, jm_i l1), (2, jm_i l2), (3, jm_i l3), (4, jm_vr wd1 X 8 r4), (5, jm_i l5)] (q := 6) dX10_search_98 rfl (by decide) (fun _ => rfl) (fun v7 h8 => ?_)
    refine j_goto (tgt := 75) (pc := 101) dX10_search_101 (by decide) ?_
    refine j_sub (pc := 75) [(0, jm_vr wd1 X 5 0), (1, jm_i l1), (2, jm_i l2), (3, jm_i l3), (4, jm_vr wd1 X 8 r4), (5, jm_i l5), (6, jm_i v7)] [1, 2, 3, 4, 5, 6, 0] rfl ?_
    exact hk75 M6 l1 l2 l3 r4 l5 v7 hl1 hl2 hl3 gr4 hl5 h8
theorem bX10_search_75 (X : jm_X) (fu : Nat) : ∀ (n : Nat) (M : jm_M) (l1 l2 l3 r4 l5 l6 : Int) (hl1 : jm_in l1) (hl2 : jm_in l2) (hl3 : jm_in l3) (gr4 : 0 ≤ r4 ∧ r4 < 6) (hl5 : jm_in l5) (hl6 : jm_in l6), jm_J wd1 (jm_qi .boolean) cX10_search 8 RX10 rmX10_search X M [(0, jm_vr wd1 X 5 0), (1, jm_i l1), (2, jm_i l2), (3, jm_i l3), (4, jm_vr wd1 X 8 r4), (5, jm_i l5), (6, jm_i l6)] [] 75 (fX10_search_75 fu n M l1 l2 l3 r4 l5 l6) := by
  intro n
  induction n with
  | zero => intro M l1 l2 l3 r4 l5 l6 hl1 hl2 hl3 gr4 hl5 hl6; exact j_none
  | succ n ih => intro M l1 l2 l3 r4 l5 l6 hl1 hl2 hl3 gr4 hl5 hl6; exact b0X10_search_75 X fu (fX10_search_75 fu n) ih M l1 l2 l3 r4 l5 l6 hl1 hl2 hl3 gr4 hl5 hl6
set_option maxHeartbeats 4000000 in
set_option maxRecDepth 100000 in
theorem ct_X10_search (fu : Nat) (M : jm_M) (l1 l2 l3 : Int) (hl1 : jm_in l1) (hl2 : jm_in l2) (hl3 : jm_in l3) : jm_Ci wd1 yX10_search cX10_search 8 (some .boolean) rmX10_search M (fun G ad => [.ref (ad (jm_r wd1 5 0)), jm_i l1, jm_i l2, jm_i l3]) (fX10_search fu M l1 l2 l3) := by
  refine jm_met_i (fun X => [(0, jm_vr wd1 X 5 0), (1, jm_i l1), (2, jm_i l2), (3, jm_i l3)]) (by decide) (fun _ _ => (Nat.le_of_ble_eq_true rfl)) (fun _ => rfl) (fun X => ?_)
  unfold fX10_search
  refine j_aload_n (pc := 0) dX10_search_0 rfl (q := 0) rfl ?_
  refine j_getr (pc := 1) jv1_5 jm_01 kf_RX10_9 0 kg1_5_0 rfl dX10_search_1 ?_
  refine j_iload_n (pc := 4) dX10_search_4 rfl (q := 1) rfl ?_
  refine j_callVi1 (pc := 5) (ct_X2_has M l1 hl1) kg_1144 km_X2_has kv_X2_has rfl rfl ⟨(Nat.le_of_ble_eq_true rfl), (Nat.le_of_ble_eq_true rfl)⟩ jv1_2 jm_01 ko1_2 rfl rfl (Nat.le_of_ble_eq_true rfl) dX10_search_5 (fun v1 M2 h3 => ?_)
  refine j_if_eq (tgt := 20) (pc := 8) h3 dX10_search_8 (by decide) (fun c4 => ?_) (fun c4 => ?_)
  · skip
    refine j_iconst (pc := 20) dX10_search_20 ?_
    exact j_iret (pc := 21) (jm_inL (by decide) (by decide)) rfl dX10_search_21
  · skip
    refine j_iload_n (pc := 11) dX10_search_11 rfl (q := 2) rfl ?_
    refine j_iconst (pc := 12) dX10_search_12 ?_
    refine j_iconst (pc := 13) dX10_search_13 ?_
    refine j_callNi3 (pc := 14) (ct_X11_isWithin M2 l2 0 2 hl2 (jm_inL (by decide) (by decide)) (jm_inL (by decide) (by decide))) (host := "RaceByLaps") (by decide) km_X11_isWithin kg_566 rfl rfl ⟨(Nat.le_of_ble_eq_true rfl), (Nat.le_of_ble_eq_true rfl)⟩ rfl rfl (Nat.le_of_ble_eq_true rfl) dX10_search_14 (fun v5 M6 h7 => ?_)
    refine j_if_ne (tgt := 22) (pc := 17) h7 dX10_search_17 (by decide) (fun c8 => ?_) (fun c8 => ?_)
    · skip
      refine j_iconst (pc := 20) dX10_search_20 ?_
      exact j_iret (pc := 21) (jm_inL (by decide) (by decide)) rfl dX10_search_21
    · skip
      refine j_aload_n (pc := 22) dX10_search_22 rfl (q := 0) rfl ?_
      refine j_getr (pc := 23) jv1_5 jm_01 kf_RX10_9 0 kg1_5_0 rfl dX10_search_23 ?_
      refine j_getr (pc := 26) jv1_2 jm_01 kf_RX10_51 0 kg1_2_2 rfl dX10_search_26 ?_
      refine j_iload_n (pc := 29) dX10_search_29 rfl (q := 1) rfl ?_
      refine j_aald (pc := 30) jv1_46 jm_01 (by decide) kr1_46 dX10_search_30 (fun c9 => ?_)
      refine j_astore (pc := 31) [(4, jm_vr wd1 X 8 l1), (0, jm_vr wd1 X 5 0), (1, jm_i l1), (2, jm_i l2), (3, jm_i l3)] dX10_search_31 (by decide) rfl ?_
      refine j_aload_n (pc := 33) dX10_search_33 rfl (q := 1) rfl ?_
      refine j_getr (pc := 34) jv1_5 jm_01 kf_RX10_9 0 kg1_5_0 rfl dX10_search_34 ?_
      refine j_getr (pc := 37) jv1_2 jm_01 kf_RX10_55 0 kg1_2_0 rfl dX10_search_37 ?_
      refine j_geti (pc := 40) jv1_1 jm_01 kf_RX10_59 kg1_1_1 dX10_search_40 (fun h10 => ?_)
      refine j_iconst (pc := 43) dX10_search_43 ?_
      refine j_isub (pc := 44) dX10_search_44 ?_
      refine j_nm (pc := 45) (jm_w_in _) (fun v11 h12 => ?_)
      refine j_istore (pc := 45) [(5, jm_i v11), (4, jm_vr wd1 X 8 l1), (0, jm_vr wd1 X 5 0), (1, jm_i l1), (2, jm_i l2), (3, jm_i l3)] dX10_search_45 (by decide) rfl ?_
      refine j_iload_n (pc := 47) dX10_search_47 rfl (q := 4) rfl ?_
      refine j_if_le (tgt := 72) (pc := 48) hl2 dX10_search_48 (by decide) (fun c13 => ?_) (fun c13 => ?_)
      · skip
        refine j_iconst (pc := 72) dX10_search_72 ?_
        refine j_istore (pc := 73) [(6, jm_i 0), (5, jm_i v11), (4, jm_vr wd1 X 8 l1), (0, jm_vr wd1 X 5 0), (1, jm_i l1), (2, jm_i l2), (3, jm_i l3)] dX10_search_73 (by decide) rfl ?_
        refine j_sub (pc := 75) [(0, jm_vr wd1 X 5 0), (1, jm_i l1), (2, jm_i l2), (3, jm_i l3), (4, jm_vr wd1 X 8 l1), (5, jm_i v11), (6, jm_i 0)] [3, 4, 5, 6, 2, 1, 0] rfl ?_
        exact bX10_search_75 X fu  fu M6 l1 l2 l3 l1 v11 0 hl1 hl2 hl3 (by omega) h12 (jm_inL (by decide) (by decide))
      · skip
        refine j_aload (pc := 51) dX10_search_51 (q := 1) rfl ?_
        refine j_getr (pc := 53) jv1_8 (by omega) kf_RX10_65 l1 kg1_8_6 rfl dX10_search_53 ?_
        refine j_geti (pc := 56) jv1_10 (by omega) kf_RX10_71 kg1_10_3 dX10_search_56 (fun h14 => ?_)
        refine j_if_eq (tgt := 70) (pc := 59) h14 dX10_search_59 (by decide) (fun c15 => ?_) (fun c15 => ?_)
        · skip
          refine j_iconst (pc := 70) dX10_search_70 ?_
          exact j_iret (pc := 71) (jm_inL (by decide) (by decide)) rfl dX10_search_71
        · skip
          refine j_iload_n (pc := 62) dX10_search_62 rfl (q := 4) rfl ?_
          refine j_iconst (pc := 63) dX10_search_63 ?_
          refine j_isub (pc := 64) dX10_search_64 ?_
          refine j_iload (pc := 65) dX10_search_65 (q := 0) rfl ?_
          refine j_icmp_le (tgt := 72) (pc := 67) (jm_w_in _) h12 dX10_search_67 (by decide) (fun c16 => ?_) (fun c16 => ?_)
          · skip
            refine j_iconst (pc := 72) dX10_search_72 ?_
            refine j_istore (pc := 73) [(6, jm_i 0), (5, jm_i v11), (4, jm_vr wd1 X 8 l1), (0, jm_vr wd1 X 5 0), (1, jm_i l1), (2, jm_i l2), (3, jm_i l3)] dX10_search_73 (by decide) rfl ?_
            refine j_sub (pc := 75) [(0, jm_vr wd1 X 5 0), (1, jm_i l1), (2, jm_i l2), (3, jm_i l3), (4, jm_vr wd1 X 8 l1), (5, jm_i v11), (6, jm_i 0)] [3, 4, 5, 6, 2, 1, 0] rfl ?_
            exact bX10_search_75 X fu  fu M6 l1 l2 l3 l1 v11 0 hl1 hl2 hl3 (by omega) h12 (jm_inL (by decide) (by decide))
          · skip
            refine j_iconst (pc := 70) dX10_search_70 ?_
            exact j_iret (pc := 71) (jm_inL (by decide) (by decide)) rfl dX10_search_71
abbrev rmX11_best : Room := { frames := 7, cells := 0, slots := 0, locals := 185 }
set_option maxHeartbeats 4000000 in
set_option maxRecDepth 100000 in
theorem bX11_best_85 (X : jm_X) (fu : Nat) : ∀ (M : jm_M) (l2 : Int) (hl2 : jm_in l2), jm_J wd1 (jm_qi .int) cX11_best 5 RX11 rmX11_best X M [(0, jm_vr wd1 X 0 0), (2, jm_i l2)] [] 85 (gX11_best_85 fu M l2) := by
  intro M l2 hl2
  unfold gX11_best_85
  refine j_aload_n (pc := 85) dX11_best_85 rfl (q := 0) rfl ?_
  refine j_iconst (pc := 86) dX11_best_86 ?_
  refine j_iload_n (pc := 87) dX11_best_87 rfl (q := 1) rfl ?_
  refine j_imul (pc := 88) dX11_best_88 ?_
  refine j_put (pc := 89) jv1_0 jm_01 kf_RX11_215 wI1 kp_X11_9 kx1_0_9 (jm_w_in _) rfl rfl dX11_best_89 (fun M1 => ?_)
  refine j_aload_n (pc := 92) dX11_best_92 rfl (q := 0) rfl ?_
  refine j_getr (pc := 93) jv1_0 jm_01 kf_RX11_51 0 kg1_0_4 rfl dX11_best_93 ?_
  refine j_geti (pc := 96) jv1_5 jm_01 kf_RX11_302 kg1_5_5 dX11_best_96 (fun h2 => ?_)
  refine j_bipush (pc := 99) 99 dX11_best_99 (by decide) ?_
  refine j_icmp_ne (tgt := 109) (pc := 101) h2 (jm_inL (by decide) (by decide)) dX11_best_101 (by decide) (fun c3 => ?_) (fun c3 => ?_)
  · skip
    refine j_bipush (pc := 104) (-2) dX11_best_104 (by decide) ?_
    refine j_goto (tgt := 116) (pc := 106) dX11_best_106 (by decide) ?_
    exact j_iret (pc := 116) (jm_inL (by decide) (by decide)) rfl dX11_best_116
  · skip
    refine j_aload_n (pc := 109) dX11_best_109 rfl (q := 0) rfl ?_
    refine j_getr (pc := 110) jv1_0 jm_01 kf_RX11_51 0 kg1_0_4 rfl dX11_best_110 ?_
    refine j_geti (pc := 113) jv1_5 jm_01 kf_RX11_302 kg1_5_5 dX11_best_113 (fun h4 => ?_)
    exact j_iret (pc := 116) h4 rfl dX11_best_116
set_option maxHeartbeats 4000000 in
set_option maxRecDepth 100000 in
theorem b0X11_best_47 (X : jm_X) (fu : Nat) (k47 : jm_M → Int → Int → jm_R) (hk47 : ∀ (M : jm_M) (l2 l4 : Int) (hl2 : jm_in l2) (hl4 : jm_in l4), jm_J wd1 (jm_qi .int) cX11_best 5 RX11 rmX11_best X M [(0, jm_vr wd1 X 0 0), (2, jm_i l2), (4, jm_i l4)] [] 47 (k47 M l2 l4)) : ∀ (M : jm_M) (l2 l4 : Int) (hl2 : jm_in l2) (hl4 : jm_in l4), jm_J wd1 (jm_qi .int) cX11_best 5 RX11 rmX11_best X M [(0, jm_vr wd1 X 0 0), (2, jm_i l2), (4, jm_i l4)] [] 47 (gX11_best_47 fu k47 M l2 l4) := by
  intro M l2 l4 hl2 hl4
  unfold gX11_best_47
  refine j_iload (pc := 47) dX11_best_47 (q := 2) rfl ?_
  refine j_iconst (pc := 49) dX11_best_49 ?_
  refine j_iload_n (pc := 50) dX11_best_50 rfl (q := 1) rfl ?_
  refine j_imul (pc := 51) dX11_best_51 ?_
  refine j_icmp_ge (tgt := 85) (pc := 52) hl4 (jm_w_in _) dX11_best_52 (by decide) (fun c1 => ?_) (fun c1 => ?_)
  · skip
    refine j_sub (pc := 85) [(0, jm_vr wd1 X 0 0), (2, jm_i l2)] [0, 1] rfl ?_
    exact bX11_best_85 X fu  M l2 hl2
  · skip
    refine j_iload (pc := 55) dX11_best_55 (q := 2) rfl ?_
    refine j_bipush (pc := 57) 6 dX11_best_57 (by decide) ?_
    refine j_icmp_ge (tgt := 85) (pc := 59) hl4 (jm_inL (by decide) (by decide)) dX11_best_59 (by decide) (fun c2 => ?_) (fun c2 => ?_)
    · skip
      refine j_sub (pc := 85) [(0, jm_vr wd1 X 0 0), (2, jm_i l2)] [0, 1] rfl ?_
      exact bX11_best_85 X fu  M l2 hl2
    · skip
      refine j_aload_n (pc := 62) dX11_best_62 rfl (q := 0) rfl ?_
      refine j_getr (pc := 63) jv1_0 jm_01 kf_RX11_66 0 kg1_0_8 rfl dX11_best_63 ?_
      refine j_iload (pc := 66) dX11_best_66 (q := 2) rfl ?_
      refine j_aload_n (pc := 68) dX11_best_68 rfl (q := 0) rfl ?_
      refine j_getr (pc := 69) jv1_0 jm_01 kf_RX11_51 0 kg1_0_4 rfl dX11_best_69 ?_
      refine j_getr (pc := 72) jv1_5 jm_01 kf_RX11_299 0 kg1_5_4 rfl dX11_best_72 ?_
      refine j_iload (pc := 75) dX11_best_75 (q := 2) rfl ?_
      refine j_iald (pc := 77) jv1_41 jm_01 rfl (by decide) ka1_41 dX11_best_77 (fun c3 h4 => ?_)
      refine j_iast (pc := 78) jv1_13 jm_01 rfl (by decide) wI1 ka1_13 h4 dX11_best_78 (fun c5 M6 => ?_)
      refine j_iinc (pc := 79) [(0, jm_vr wd1 X 0 0), (2, jm_i l2)] (q := 2) dX11_best_79 rfl (by decide) (fun _ => rfl) (fun v7 h8 => ?_)
      refine j_goto (tgt := 47) (pc := 82) dX11_best_82 (by decide) ?_
      refine j_sub (pc := 47) [(0, jm_vr wd1 X 0 0), (2, jm_i l2), (4, jm_i v7)] [1, 2, 0] rfl ?_
      exact hk47 M6 l2 v7 hl2 h8
theorem bX11_best_47 (X : jm_X) (fu : Nat) : ∀ (n : Nat) (M : jm_M) (l2 l4 : Int) (hl2 : jm_in l2) (hl4 : jm_in l4), jm_J wd1 (jm_qi .int) cX11_best 5 RX11 rmX11_best X M [(0, jm_vr wd1 X 0 0), (2, jm_i l2), (4, jm_i l4)] [] 47 (fX11_best_47 fu n M l2 l4) := by
  intro n
  induction n with
  | zero => intro M l2 l4 hl2 hl4; exact j_none
  | succ n ih => intro M l2 l4 hl2 hl4; exact b0X11_best_47 X fu (fX11_best_47 fu n) ih M l2 l4 hl2 hl4
set_option maxHeartbeats 4000000 in
set_option maxRecDepth 100000 in
theorem ct_X11_best (fu : Nat) (M : jm_M) (l1 l2 l3 : Int) (hl1 : jm_in l1) (hl2 : jm_in l2) (hl3 : jm_in l3) : jm_Ci wd1 yX11_best cX11_best 5 (some .int) rmX11_best M (fun G ad => [.ref (ad (jm_r wd1 0 0)), jm_i l1, jm_i l2, jm_i l3]) (fX11_best fu M l1 l2 l3) := by
  refine jm_met_i (fun X => [(0, jm_vr wd1 X 0 0), (1, jm_i l1), (2, jm_i l2), (3, jm_i l3)]) (by decide) (fun _ _ => (Nat.le_of_ble_eq_true rfl)) (fun _ => rfl) (fun X => ?_)
  unfold fX11_best
  refine j_aload_n (pc := 0) dX11_best_0 rfl (q := 0) rfl ?_
  refine j_getr (pc := 1) jv1_0 jm_01 kf_RX11_24 0 kg1_0_1 rfl dX11_best_1 ?_
  refine j_iload_n (pc := 4) dX11_best_4 rfl (q := 1) rfl ?_
  refine j_callVi1 (pc := 5) (ct_X2_has M l1 hl1) kg_619 km_X2_has kv_X2_has rfl rfl ⟨(Nat.le_of_ble_eq_true rfl), (Nat.le_of_ble_eq_true rfl)⟩ jv1_2 jm_01 ko1_2 rfl rfl (Nat.le_of_ble_eq_true rfl) dX11_best_5 (fun v1 M2 h3 => ?_)
  refine j_if_eq (tgt := 27) (pc := 8) h3 dX11_best_8 (by decide) (fun c4 => ?_) (fun c4 => ?_)
  · skip
    refine j_iconst (pc := 27) dX11_best_27 ?_
    exact j_iret (pc := 28) (jm_inL (by decide) (by decide)) rfl dX11_best_28
  · skip
    refine j_iload_n (pc := 11) dX11_best_11 rfl (q := 2) rfl ?_
    refine j_iconst (pc := 12) dX11_best_12 ?_
    refine j_iconst (pc := 13) dX11_best_13 ?_
    refine j_callSi3 (pc := 14) (ct_X11_isWithin M2 l2 0 2 hl2 (jm_inL (by decide) (by decide)) (jm_inL (by decide) (by decide))) kg_565 km_X11_isWithin kg_566 rfl rfl ⟨(Nat.le_of_ble_eq_true rfl), (Nat.le_of_ble_eq_true rfl)⟩ rfl rfl (Nat.le_of_ble_eq_true rfl) dX11_best_14 (fun v5 M6 h7 => ?_)
    refine j_if_eq (tgt := 27) (pc := 17) h7 dX11_best_17 (by decide) (fun c8 => ?_) (fun c8 => ?_)
    · skip
      refine j_iconst (pc := 27) dX11_best_27 ?_
      exact j_iret (pc := 28) (jm_inL (by decide) (by decide)) rfl dX11_best_28
    · skip
      refine j_iload_n (pc := 20) dX11_best_20 rfl (q := 3) rfl ?_
      refine j_callSi1 (pc := 21) (ct_X11_isDay M6 l3 hl3) kg_1055 km_X11_isDay kg_1056 rfl rfl ⟨(Nat.le_of_ble_eq_true rfl), (Nat.le_of_ble_eq_true rfl)⟩ rfl rfl (Nat.le_of_ble_eq_true rfl) dX11_best_21 (fun v9 M10 h11 => ?_)
      refine j_if_ne (tgt := 29) (pc := 24) h11 dX11_best_24 (by decide) (fun c12 => ?_) (fun c12 => ?_)
      · skip
        refine j_iconst (pc := 27) dX11_best_27 ?_
        exact j_iret (pc := 28) (jm_inL (by decide) (by decide)) rfl dX11_best_28
      · skip
        refine j_aload_n (pc := 29) dX11_best_29 rfl (q := 0) rfl ?_
        refine j_getr (pc := 30) jv1_0 jm_01 kf_RX11_51 0 kg1_0_4 rfl dX11_best_30 ?_
        refine j_iload_n (pc := 33) dX11_best_33 rfl (q := 1) rfl ?_
        refine j_iload_n (pc := 34) dX11_best_34 rfl (q := 2) rfl ?_
        refine j_iload_n (pc := 35) dX11_best_35 rfl (q := 3) rfl ?_
        refine j_callVi3 (pc := 36) (ct_X10_search fu M10 l1 l2 l3 hl1 hl2 hl3) kg_1140 km_X10_search kv_X10_search rfl rfl ⟨(Nat.le_of_ble_eq_true rfl), (Nat.le_of_ble_eq_true rfl)⟩ jv1_5 jm_01 ko1_5 rfl rfl (Nat.le_of_ble_eq_true rfl) dX11_best_36 (fun v13 M14 h15 => ?_)
        refine j_if_ne (tgt := 44) (pc := 39) h15 dX11_best_39 (by decide) (fun c16 => ?_) (fun c16 => ?_)
        · skip
          refine j_iconst (pc := 42) dX11_best_42 ?_
          exact j_iret (pc := 43) (jm_inL (by decide) (by decide)) rfl dX11_best_43
        · skip
          refine j_iconst (pc := 44) dX11_best_44 ?_
          refine j_istore (pc := 45) [(4, jm_i 0), (0, jm_vr wd1 X 0 0), (1, jm_i l1), (2, jm_i l2), (3, jm_i l3)] dX11_best_45 (by decide) rfl ?_
          refine j_sub (pc := 47) [(0, jm_vr wd1 X 0 0), (2, jm_i l2), (4, jm_i 0)] [1, 3, 0] rfl ?_
          exact bX11_best_47 X fu  fu M14 l2 0 hl2 (jm_inL (by decide) (by decide))
abbrev rmX11_gain : Room := { frames := 7, cells := 0, slots := 0, locals := 185 }
set_option maxHeartbeats 4000000 in
set_option maxRecDepth 100000 in
theorem bX11_gain_88 (X : jm_X) (fu : Nat) : ∀ (M : jm_M) (s0 : Int) (hs0 : jm_in s0), jm_J wd1 (jm_qi .int) cX11_gain 7 RX11 rmX11_gain X M [(0, jm_vr wd1 X 0 0)] [jm_i s0] 88 (gX11_gain_88 fu M s0) := by
  intro M s0 hs0
  unfold gX11_gain_88
  refine j_istore (pc := 88) [(5, jm_i s0), (0, jm_vr wd1 X 0 0)] dX11_gain_88 (by decide) rfl ?_
  refine j_aload_n (pc := 90) dX11_gain_90 rfl (q := 1) rfl ?_
  refine j_getr (pc := 91) jv1_0 jm_01 kf_RX11_51 0 kg1_0_4 rfl dX11_gain_91 ?_
  refine j_geti (pc := 94) jv1_5 jm_01 kf_RX11_302 kg1_5_5 dX11_gain_94 (fun h1 => ?_)
  refine j_aload_n (pc := 97) dX11_gain_97 rfl (q := 1) rfl ?_
  refine j_getr (pc := 98) jv1_0 jm_01 kf_RX11_24 0 kg1_0_1 rfl dX11_gain_98 ?_
  refine j_geti (pc := 101) jv1_2 jm_01 kf_RX11_80 kg1_2_5 dX11_gain_101 (fun h2 => ?_)
  refine j_mmin (pc := 104) h1 h2 kg_1182 kg_717 kg_5 kg_718 ⟨(Nat.le_of_ble_eq_true rfl), (Nat.le_of_ble_eq_true rfl)⟩ (Nat.le_of_ble_eq_true rfl) dX11_gain_104 ?_
  refine j_nm (pc := 107) (jm_min_in h1 h2) (fun v3 h4 => ?_)
  refine j_istore (pc := 107) [(6, jm_i v3), (5, jm_i s0), (0, jm_vr wd1 X 0 0)] dX11_gain_107 (by decide) rfl ?_
  refine j_iconst (pc := 109) dX11_gain_109 ?_
  refine j_iload (pc := 110) dX11_gain_110 (q := 1) rfl ?_
  refine j_iload (pc := 112) dX11_gain_112 (q := 0) rfl ?_
  refine j_isub (pc := 114) dX11_gain_114 ?_
  refine j_mmax (pc := 115) (jm_inL (by decide) (by decide)) (jm_w_in _) kg_1183 kg_61 kg_5 kg_62 ⟨(Nat.le_of_ble_eq_true rfl), (Nat.le_of_ble_eq_true rfl)⟩ (Nat.le_of_ble_eq_true rfl) dX11_gain_115 ?_
  exact j_iret (pc := 118) (jm_max_in (jm_inL (by decide) (by decide)) (jm_w_in _)) rfl dX11_gain_118
set_option maxHeartbeats 4000000 in
set_option maxRecDepth 100000 in
theorem ct_X11_gain (fu : Nat) (M : jm_M) (l1 l2 l3 : Int) (hl1 : jm_in l1) (hl2 : jm_in l2) (hl3 : jm_in l3) : jm_Ci wd1 yX11_gain cX11_gain 7 (some .int) rmX11_gain M (fun G ad => [.ref (ad (jm_r wd1 0 0)), jm_i l1, jm_i l2, jm_i l3]) (fX11_gain fu M l1 l2 l3) := by
  refine jm_met_i (fun X => [(0, jm_vr wd1 X 0 0), (1, jm_i l1), (2, jm_i l2), (3, jm_i l3)]) (by decide) (fun _ _ => (Nat.le_of_ble_eq_true rfl)) (fun _ => rfl) (fun X => ?_)
  unfold fX11_gain
  refine j_aload_n (pc := 0) dX11_gain_0 rfl (q := 0) rfl ?_
  refine j_getr (pc := 1) jv1_0 jm_01 kf_RX11_24 0 kg1_0_1 rfl dX11_gain_1 ?_
  refine j_iload_n (pc := 4) dX11_gain_4 rfl (q := 1) rfl ?_
  refine j_callVi1 (pc := 5) (ct_X2_has M l1 hl1) kg_619 km_X2_has kv_X2_has rfl rfl ⟨(Nat.le_of_ble_eq_true rfl), (Nat.le_of_ble_eq_true rfl)⟩ jv1_2 jm_01 ko1_2 rfl rfl (Nat.le_of_ble_eq_true rfl) dX11_gain_5 (fun v1 M2 h3 => ?_)
  refine j_if_eq (tgt := 27) (pc := 8) h3 dX11_gain_8 (by decide) (fun c4 => ?_) (fun c4 => ?_)
  · skip
    refine j_iconst (pc := 27) dX11_gain_27 ?_
    exact j_iret (pc := 28) (jm_inL (by decide) (by decide)) rfl dX11_gain_28
  · skip
    refine j_iload_n (pc := 11) dX11_gain_11 rfl (q := 2) rfl ?_
    refine j_iconst (pc := 12) dX11_gain_12 ?_
    refine j_iconst (pc := 13) dX11_gain_13 ?_
    refine j_callSi3 (pc := 14) (ct_X11_isWithin M2 l2 0 2 hl2 (jm_inL (by decide) (by decide)) (jm_inL (by decide) (by decide))) kg_565 km_X11_isWithin kg_566 rfl rfl ⟨(Nat.le_of_ble_eq_true rfl), (Nat.le_of_ble_eq_true rfl)⟩ rfl rfl (Nat.le_of_ble_eq_true rfl) dX11_gain_14 (fun v5 M6 h7 => ?_)
    refine j_if_eq (tgt := 27) (pc := 17) h7 dX11_gain_17 (by decide) (fun c8 => ?_) (fun c8 => ?_)
    · skip
      refine j_iconst (pc := 27) dX11_gain_27 ?_
      exact j_iret (pc := 28) (jm_inL (by decide) (by decide)) rfl dX11_gain_28
    · skip
      refine j_iload_n (pc := 20) dX11_gain_20 rfl (q := 3) rfl ?_
      refine j_callSi1 (pc := 21) (ct_X11_isDay M6 l3 hl3) kg_1055 km_X11_isDay kg_1056 rfl rfl ⟨(Nat.le_of_ble_eq_true rfl), (Nat.le_of_ble_eq_true rfl)⟩ rfl rfl (Nat.le_of_ble_eq_true rfl) dX11_gain_21 (fun v9 M10 h11 => ?_)
      refine j_if_ne (tgt := 29) (pc := 24) h11 dX11_gain_24 (by decide) (fun c12 => ?_) (fun c12 => ?_)
      · skip
        refine j_iconst (pc := 27) dX11_gain_27 ?_
        exact j_iret (pc := 28) (jm_inL (by decide) (by decide)) rfl dX11_gain_28
      · skip
        refine j_aload_n (pc := 29) dX11_gain_29 rfl (q := 0) rfl ?_
        refine j_getr (pc := 30) jv1_0 jm_01 kf_RX11_24 0 kg1_0_1 rfl dX11_gain_30 ?_
        refine j_callVv0 (pc := 33) (ct_X2_reckon fu M10 ) kg_857 km_X2_reckon kv_X2_reckon rfl rfl ⟨(Nat.le_of_ble_eq_true rfl), (Nat.le_of_ble_eq_true rfl)⟩ jv1_2 jm_01 ko1_2 rfl rfl (Nat.le_of_ble_eq_true rfl) dX11_gain_33 (fun v13 M14 => ?_)
        refine j_aload_n (pc := 36) dX11_gain_36 rfl (q := 0) rfl ?_
        refine j_getr (pc := 37) jv1_0 jm_01 kf_RX11_42 0 kg1_0_3 rfl dX11_gain_37 ?_
        refine j_iload_n (pc := 40) dX11_gain_40 rfl (q := 3) rfl ?_
        refine j_callVv1 (pc := 41) (ct_X5_reckonFor fu M14 l3 hl3) kg_1101 km_X5_reckonFor kv_X5_reckonFor rfl rfl ⟨(Nat.le_of_ble_eq_true rfl), (Nat.le_of_ble_eq_true rfl)⟩ jv1_4 jm_01 ko1_4 rfl rfl (Nat.le_of_ble_eq_true rfl) dX11_gain_41 (fun v15 M16 => ?_)
        refine j_aload_n (pc := 44) dX11_gain_44 rfl (q := 0) rfl ?_
        refine j_getr (pc := 45) jv1_0 jm_01 kf_RX11_42 0 kg1_0_3 rfl dX11_gain_45 ?_
        refine j_iload_n (pc := 48) dX11_gain_48 rfl (q := 1) rfl ?_
        refine j_iconst (pc := 49) dX11_gain_49 ?_
        refine j_callVi2 (pc := 50) (ct_X5_placeAmong fu M16 l1 (-1) hl1 (jm_inL (by decide) (by decide))) kg_1112 km_X5_placeAmong kv_X5_placeAmong rfl rfl ⟨(Nat.le_of_ble_eq_true rfl), (Nat.le_of_ble_eq_true rfl)⟩ jv1_4 jm_01 ko1_4 rfl rfl (Nat.le_of_ble_eq_true rfl) dX11_gain_50 (fun v17 M18 h19 => ?_)
        refine j_istore (pc := 53) [(4, jm_i v17), (0, jm_vr wd1 X 0 0), (1, jm_i l1), (2, jm_i l2), (3, jm_i l3)] dX11_gain_53 (by decide) rfl ?_
        refine j_aload_n (pc := 55) dX11_gain_55 rfl (q := 1) rfl ?_
        refine j_getr (pc := 56) jv1_0 jm_01 kf_RX11_51 0 kg1_0_4 rfl dX11_gain_56 ?_
        refine j_iload_n (pc := 59) dX11_gain_59 rfl (q := 2) rfl ?_
        refine j_iload_n (pc := 60) dX11_gain_60 rfl (q := 3) rfl ?_
        refine j_iload_n (pc := 61) dX11_gain_61 rfl (q := 4) rfl ?_
        refine j_callVi3 (pc := 62) (ct_X10_search fu M18 l1 l2 l3 hl1 hl2 hl3) kg_1140 km_X10_search kv_X10_search rfl rfl ⟨(Nat.le_of_ble_eq_true rfl), (Nat.le_of_ble_eq_true rfl)⟩ jv1_5 jm_01 ko1_5 rfl rfl (Nat.le_of_ble_eq_true rfl) dX11_gain_62 (fun v20 M21 h22 => ?_)
        refine j_if_ne (tgt := 70) (pc := 65) h22 dX11_gain_65 (by decide) (fun c23 => ?_) (fun c23 => ?_)
        · skip
          refine j_iconst (pc := 68) dX11_gain_68 ?_
          exact j_iret (pc := 69) (jm_inL (by decide) (by decide)) rfl dX11_gain_69
        · skip
          refine j_iload (pc := 70) dX11_gain_70 (q := 0) rfl ?_
          refine j_iconst (pc := 72) dX11_gain_72 ?_
          refine j_icmp_ne (tgt := 86) (pc := 73) h19 (jm_inL (by decide) (by decide)) dX11_gain_73 (by decide) (fun c24 => ?_) (fun c24 => ?_)
          · skip
            refine j_aload_n (pc := 76) dX11_gain_76 rfl (q := 1) rfl ?_
            refine j_getr (pc := 77) jv1_0 jm_01 kf_RX11_24 0 kg1_0_1 rfl dX11_gain_77 ?_
            refine j_geti (pc := 80) jv1_2 jm_01 kf_RX11_80 kg1_2_5 dX11_gain_80 (fun h25 => ?_)
            refine j_goto (tgt := 88) (pc := 83) dX11_gain_83 (by decide) ?_
            refine j_sub (pc := 88) [(0, jm_vr wd1 X 0 0)] [1] rfl ?_
            exact bX11_gain_88 X fu  M21 (M21 2 0 5) h25
          · skip
            refine j_iload (pc := 86) dX11_gain_86 (q := 0) rfl ?_
            refine j_sub (pc := 88) [(0, jm_vr wd1 X 0 0)] [1] rfl ?_
            exact bX11_gain_88 X fu  M21 v17 h19
abbrev rmX11_option : Room := { frames := 2, cells := 0, slots := 0, locals := 47 }
set_option maxHeartbeats 4000000 in
set_option maxRecDepth 100000 in
theorem ct_X11_option (M : jm_M) (l1 l2 l3 : Int) (hl1 : jm_in l1) (hl2 : jm_in l2) (hl3 : jm_in l3) : jm_Ci wd1 yX11_option cX11_option 4 (some .int) rmX11_option M (fun G ad => [.ref (ad (jm_r wd1 0 0)), jm_i l1, jm_i l2, jm_i l3]) (fX11_option M l1 l2 l3) := by
  refine jm_met_i (fun X => [(0, jm_vr wd1 X 0 0), (1, jm_i l1), (2, jm_i l2), (3, jm_i l3)]) (by decide) (fun _ _ => (Nat.le_of_ble_eq_true rfl)) (fun _ => rfl) (fun X => ?_)
  unfold fX11_option
  refine j_aload_n (pc := 0) dX11_option_0 rfl (q := 0) rfl ?_
  refine j_getr (pc := 1) jv1_0 jm_01 kf_RX11_24 0 kg1_0_1 rfl dX11_option_1 ?_
  refine j_iload_n (pc := 4) dX11_option_4 rfl (q := 1) rfl ?_
  refine j_callVi1 (pc := 5) (ct_X2_has M l1 hl1) kg_619 km_X2_has kv_X2_has rfl rfl ⟨(Nat.le_of_ble_eq_true rfl), (Nat.le_of_ble_eq_true rfl)⟩ jv1_2 jm_01 ko1_2 rfl rfl (Nat.le_of_ble_eq_true rfl) dX11_option_5 (fun v1 M2 h3 => ?_)
  refine j_if_eq (tgt := 37) (pc := 8) h3 dX11_option_8 (by decide) (fun c4 => ?_) (fun c4 => ?_)
  · skip
    refine j_iconst (pc := 37) dX11_option_37 ?_
    exact j_iret (pc := 38) (jm_inL (by decide) (by decide)) rfl dX11_option_38
  · skip
    refine j_iload_n (pc := 11) dX11_option_11 rfl (q := 2) rfl ?_
    refine j_iconst (pc := 12) dX11_option_12 ?_
    refine j_aload_n (pc := 13) dX11_option_13 rfl (q := 0) rfl ?_
    refine j_getr (pc := 14) jv1_0 jm_01 kf_RX11_15 0 kg1_0_0 rfl dX11_option_14 ?_
    refine j_geti (pc := 17) jv1_1 jm_01 kf_RX11_185 kg1_1_1 dX11_option_17 (fun h5 => ?_)
    refine j_iconst (pc := 20) dX11_option_20 ?_
    refine j_isub (pc := 21) dX11_option_21 ?_
    refine j_callSi3 (pc := 22) (ct_X11_isWithin M2 l2 (-1) (jm_w ((M2 1 0 1) - 2)) hl2 (jm_inL (by decide) (by decide)) (jm_w_in _)) kg_565 km_X11_isWithin kg_566 rfl rfl ⟨(Nat.le_of_ble_eq_true rfl), (Nat.le_of_ble_eq_true rfl)⟩ rfl rfl (Nat.le_of_ble_eq_true rfl) dX11_option_22 (fun v6 M7 h8 => ?_)
    refine j_if_eq (tgt := 37) (pc := 25) h8 dX11_option_25 (by decide) (fun c9 => ?_) (fun c9 => ?_)
    · skip
      refine j_iconst (pc := 37) dX11_option_37 ?_
      exact j_iret (pc := 38) (jm_inL (by decide) (by decide)) rfl dX11_option_38
    · skip
      refine j_iload_n (pc := 28) dX11_option_28 rfl (q := 3) rfl ?_
      refine j_iconst (pc := 29) dX11_option_29 ?_
      refine j_iconst (pc := 30) dX11_option_30 ?_
      refine j_callSi3 (pc := 31) (ct_X11_isWithin M7 l3 (-1) 3 hl3 (jm_inL (by decide) (by decide)) (jm_inL (by decide) (by decide))) kg_565 km_X11_isWithin kg_566 rfl rfl ⟨(Nat.le_of_ble_eq_true rfl), (Nat.le_of_ble_eq_true rfl)⟩ rfl rfl (Nat.le_of_ble_eq_true rfl) dX11_option_31 (fun v10 M11 h12 => ?_)
      refine j_if_ne (tgt := 39) (pc := 34) h12 dX11_option_34 (by decide) (fun c13 => ?_) (fun c13 => ?_)
      · skip
        refine j_iconst (pc := 37) dX11_option_37 ?_
        exact j_iret (pc := 38) (jm_inL (by decide) (by decide)) rfl dX11_option_38
      · skip
        refine j_aload_n (pc := 39) dX11_option_39 rfl (q := 0) rfl ?_
        refine j_getr (pc := 40) jv1_0 jm_01 kf_RX11_24 0 kg1_0_1 rfl dX11_option_40 ?_
        refine j_getr (pc := 43) jv1_2 jm_01 kf_RX11_148 0 kg1_2_2 rfl dX11_option_43 ?_
        refine j_iload_n (pc := 46) dX11_option_46 rfl (q := 1) rfl ?_
        refine j_aald (pc := 47) jv1_46 jm_01 (by decide) kr1_46 dX11_option_47 (fun c14 => ?_)
        refine j_getr (pc := 48) jv1_8 (by omega) kf_RX11_313 (l1 + 18) kg1_8_9 rfl dX11_option_48 ?_
        refine j_iload_n (pc := 51) dX11_option_51 rfl (q := 2) rfl ?_
        refine j_iload_n (pc := 52) dX11_option_52 rfl (q := 3) rfl ?_
        refine j_iconst (pc := 53) dX11_option_53 ?_
        refine j_iconst (pc := 54) dX11_option_54 ?_
        refine j_callVi4 (pc := 55) (ct_X7_push M11 (l1 + 18) l2 l3 0 0 (by omega) hl2 hl3 (jm_inL (by decide) (by decide)) (jm_inL (by decide) (by decide))) kg_591 km_X7_push kv_X7_push rfl rfl ⟨(Nat.le_of_ble_eq_true rfl), (Nat.le_of_ble_eq_true rfl)⟩ jv1_10 (by omega) ko1_10 rfl rfl (Nat.le_of_ble_eq_true rfl) dX11_option_55 (fun v15 M16 h17 => ?_)
        exact j_iret (pc := 58) h17 rfl dX11_option_58
abbrev rmX11_clear : Room := { frames := 1, cells := 0, slots := 0, locals := 22 }
set_option maxHeartbeats 4000000 in
set_option maxRecDepth 100000 in
theorem b0X11_clear_10 (X : jm_X) (fu : Nat) (k10 : jm_M → Int → Int → jm_R) (hk10 : ∀ (M : jm_M) (l1 l2 : Int) (hl1 : jm_in l1) (hl2 : jm_in l2), jm_J wd1 (jm_qi .int) cX11_clear 3 RX11 rmX11_clear X M [(0, jm_vr wd1 X 0 0), (1, jm_i l1), (2, jm_i l2)] [] 10 (k10 M l1 l2)) : ∀ (M : jm_M) (l1 l2 : Int) (hl1 : jm_in l1) (hl2 : jm_in l2), jm_J wd1 (jm_qi .int) cX11_clear 3 RX11 rmX11_clear X M [(0, jm_vr wd1 X 0 0), (1, jm_i l1), (2, jm_i l2)] [] 10 (gX11_clear_10 fu k10 M l1 l2) := by
  intro M l1 l2 hl1 hl2
  unfold gX11_clear_10
  refine j_iload_n (pc := 10) dX11_clear_10 rfl (q := 2) rfl ?_
  refine j_aload_n (pc := 11) dX11_clear_11 rfl (q := 0) rfl ?_
  refine j_getr (pc := 12) jv1_0 jm_01 kf_RX11_24 0 kg1_0_1 rfl dX11_clear_12 ?_
  refine j_geti (pc := 15) jv1_2 jm_01 kf_RX11_80 kg1_2_5 dX11_clear_15 (fun h1 => ?_)
  refine j_icmp_ge (tgt := 49) (pc := 18) hl2 h1 dX11_clear_18 (by decide) (fun c2 => ?_) (fun c2 => ?_)
  · skip
    refine j_iload_n (pc := 49) dX11_clear_49 rfl (q := 1) rfl ?_
    exact j_iret (pc := 50) hl1 rfl dX11_clear_50
  · skip
    refine j_iload_n (pc := 21) dX11_clear_21 rfl (q := 2) rfl ?_
    refine j_bipush (pc := 22) 6 dX11_clear_22 (by decide) ?_
    refine j_icmp_ge (tgt := 49) (pc := 24) hl2 (jm_inL (by decide) (by decide)) dX11_clear_24 (by decide) (fun c3 => ?_) (fun c3 => ?_)
    · skip
      refine j_iload_n (pc := 49) dX11_clear_49 rfl (q := 1) rfl ?_
      exact j_iret (pc := 50) hl1 rfl dX11_clear_50
    · skip
      refine j_aload_n (pc := 27) dX11_clear_27 rfl (q := 0) rfl ?_
      refine j_getr (pc := 28) jv1_0 jm_01 kf_RX11_24 0 kg1_0_1 rfl dX11_clear_28 ?_
      refine j_getr (pc := 31) jv1_2 jm_01 kf_RX11_148 0 kg1_2_2 rfl dX11_clear_31 ?_
      refine j_iload_n (pc := 34) dX11_clear_34 rfl (q := 2) rfl ?_
      refine j_aald (pc := 35) jv1_46 jm_01 (by decide) kr1_46 dX11_clear_35 (fun c4 => ?_)
      refine j_getr (pc := 36) jv1_8 (by omega) kf_RX11_313 (l2 + 18) kg1_8_9 rfl dX11_clear_36 ?_
      refine j_iconst (pc := 39) dX11_clear_39 ?_
      refine j_put (pc := 40) jv1_10 (by omega) kf_RX11_95 wI1 kp_X7_3 kx1_10_3 (jm_inL (by decide) (by decide)) rfl rfl dX11_clear_40 (fun M5 => ?_)
      refine j_iinc (pc := 43) [(0, jm_vr wd1 X 0 0), (1, jm_i l1)] (q := 2) dX11_clear_43 rfl (by decide) (fun _ => rfl) (fun v6 h7 => ?_)
      refine j_goto (tgt := 10) (pc := 46) dX11_clear_46 (by decide) ?_
      refine j_sub (pc := 10) [(0, jm_vr wd1 X 0 0), (1, jm_i l1), (2, jm_i v6)] [1, 2, 0] rfl ?_
      exact hk10 M5 l1 v6 hl1 h7
theorem bX11_clear_10 (X : jm_X) (fu : Nat) : ∀ (n : Nat) (M : jm_M) (l1 l2 : Int) (hl1 : jm_in l1) (hl2 : jm_in l2), jm_J wd1 (jm_qi .int) cX11_clear 3 RX11 rmX11_clear X M [(0, jm_vr wd1 X 0 0), (1, jm_i l1), (2, jm_i l2)] [] 10 (fX11_clear_10 fu n M l1 l2) := by
  intro n
  induction n with
  | zero => intro M l1 l2 hl1 hl2; exact j_none
  | succ n ih => intro M l1 l2 hl1 hl2; exact b0X11_clear_10 X fu (fX11_clear_10 fu n) ih M l1 l2 hl1 hl2
set_option maxHeartbeats 4000000 in
set_option maxRecDepth 100000 in
theorem ct_X11_clear (fu : Nat) (M : jm_M) : jm_Ci wd1 yX11_clear cX11_clear 3 (some .int) rmX11_clear M (fun G ad => [.ref (ad (jm_r wd1 0 0))]) (fX11_clear fu M ) := by
  refine jm_met_i (fun X => [(0, jm_vr wd1 X 0 0)]) (by decide) (fun _ _ => (Nat.le_of_ble_eq_true rfl)) (fun _ => rfl) (fun X => ?_)
  unfold fX11_clear
  refine j_aload_n (pc := 0) dX11_clear_0 rfl (q := 0) rfl ?_
  refine j_getr (pc := 1) jv1_0 jm_01 kf_RX11_24 0 kg1_0_1 rfl dX11_clear_1 ?_
  refine j_callVi0 (pc := 4) (ct_X2_optionCount fu M ) kg_844 km_X2_optionCount kv_X2_optionCount rfl rfl ⟨(Nat.le_of_ble_eq_true rfl), (Nat.le_of_ble_eq_true rfl)⟩ jv1_2 jm_01 ko1_2 rfl rfl (Nat.le_of_ble_eq_true rfl) dX11_clear_4 (fun v1 M2 h3 => ?_)
  refine j_istore_n (pc := 7) [(1, jm_i v1), (0, jm_vr wd1 X 0 0)] dX11_clear_7 rfl (by decide) rfl ?_
  refine j_iconst (pc := 8) dX11_clear_8 ?_
  refine j_istore_n (pc := 9) [(2, jm_i 0), (1, jm_i v1), (0, jm_vr wd1 X 0 0)] dX11_clear_9 rfl (by decide) rfl ?_
  refine j_sub (pc := 10) [(0, jm_vr wd1 X 0 0), (1, jm_i v1), (2, jm_i 0)] [2, 1, 0] rfl ?_
  exact bX11_clear_10 X fu  fu M2 v1 0 h3 (jm_inL (by decide) (by decide))
abbrev rmX1_tryOption : Room := { frames := 2, cells := 0, slots := 0, locals := 47 }
set_option maxHeartbeats 4000000 in
set_option maxRecDepth 100000 in
theorem ct_X1_tryOption (M : jm_M) (r0 l1 : Int) (gr0 : 0 ≤ r0 ∧ r0 < 6) (hl1 : jm_in l1) : jm_Cv wd1 yX1_tryOption cX1_tryOption 2 none rmX1_tryOption M (fun G ad => [.ref (ad (jm_r wd1 8 r0)), jm_i l1]) (fX1_tryOption M r0 l1) := by
  refine jm_met_v (fun X => [(0, jm_vr wd1 X 8 r0), (1, jm_i l1)]) (by decide) (fun _ _ => (Nat.le_of_ble_eq_true rfl)) (fun _ => rfl) (fun X => ?_)
  unfold fX1_tryOption
  refine j_aload_n (pc := 0) dX1_tryOption_0 rfl (q := 0) rfl ?_
  refine j_iconst (pc := 1) dX1_tryOption_1 ?_
  refine j_put (pc := 2) jv1_8 gr0 kf_RX1_47 wI1 kp_X1_13 kx1_8_13 (jm_inL (by decide) (by decide)) rfl rfl dX1_tryOption_2 (fun M1 => ?_)
  refine j_aload_n (pc := 5) dX1_tryOption_5 rfl (q := 0) rfl ?_
  refine j_getr (pc := 6) jv1_8 gr0 kf_RX1_29 (r0 + 24) kg1_8_10 rfl dX1_tryOption_6 ?_
  refine j_iconst (pc := 9) dX1_tryOption_9 ?_
  refine j_put (pc := 10) jv1_10 (by omega) kf_RX1_39 wI1 kp_X7_3 kx1_10_3 (jm_inL (by decide) (by decide)) rfl rfl dX1_tryOption_10 (fun M2 => ?_)
  refine j_aload_n (pc := 13) dX1_tryOption_13 rfl (q := 0) rfl ?_
  refine j_getr (pc := 14) jv1_8 gr0 kf_RX1_26 (r0 + 18) kg1_8_9 rfl dX1_tryOption_14 ?_
  refine j_iload_n (pc := 17) dX1_tryOption_17 rfl (q := 1) rfl ?_
  refine j_iconst (pc := 18) dX1_tryOption_18 ?_
  refine j_callVi2 (pc := 19) (ct_X7_cell M2 (r0 + 18) l1 0 (by omega) hl1 (jm_inL (by decide) (by decide))) kg_1014 km_X7_cell kv_X7_cell rfl rfl ⟨(Nat.le_of_ble_eq_true rfl), (Nat.le_of_ble_eq_true rfl)⟩ jv1_10 (by omega) ko1_10 rfl rfl (Nat.le_of_ble_eq_true rfl) dX1_tryOption_19 (fun v3 M4 h5 => ?_)
  refine j_iconst (pc := 22) dX1_tryOption_22 ?_
  refine j_icmp_eq (tgt := 56) (pc := 23) h5 (jm_inL (by decide) (by decide)) dX1_tryOption_23 (by decide) (fun c6 => ?_) (fun c6 => ?_)
  · skip
    exact j_vret (pc := 56) dX1_tryOption_56
  · skip
    refine j_aload_n (pc := 26) dX1_tryOption_26 rfl (q := 0) rfl ?_
    refine j_getr (pc := 27) jv1_8 gr0 kf_RX1_29 (r0 + 24) kg1_8_10 rfl dX1_tryOption_27 ?_
    refine j_aload_n (pc := 30) dX1_tryOption_30 rfl (q := 0) rfl ?_
    refine j_getr (pc := 31) jv1_8 gr0 kf_RX1_26 (r0 + 18) kg1_8_9 rfl dX1_tryOption_31 ?_
    refine j_iload_n (pc := 34) dX1_tryOption_34 rfl (q := 1) rfl ?_
    refine j_iconst (pc := 35) dX1_tryOption_35 ?_
    refine j_callVi2 (pc := 36) (ct_X7_cell M4 (r0 + 18) l1 0 (by omega) hl1 (jm_inL (by decide) (by decide))) kg_1014 km_X7_cell kv_X7_cell rfl rfl ⟨(Nat.le_of_ble_eq_true rfl), (Nat.le_of_ble_eq_true rfl)⟩ jv1_10 (by omega) ko1_10 rfl rfl (Nat.le_of_ble_eq_true rfl) dX1_tryOption_36 (fun v7 M8 h9 => ?_)
    refine j_aload_n (pc := 39) dX1_tryOption_39 rfl (q := 0) rfl ?_
    refine j_getr (pc := 40) jv1_8 gr0 kf_RX1_26 (r0 + 18) kg1_8_9 rfl dX1_tryOption_40 ?_
    refine j_iload_n (pc := 43) dX1_tryOption_43 rfl (q := 1) rfl ?_
    refine j_iconst (pc := 44) dX1_tryOption_44 ?_
    refine j_callVi2 (pc := 45) (ct_X7_cell M8 (r0 + 18) l1 1 (by omega) hl1 (jm_inL (by decide) (by decide))) kg_1014 km_X7_cell kv_X7_cell rfl rfl ⟨(Nat.le_of_ble_eq_true rfl), (Nat.le_of_ble_eq_true rfl)⟩ jv1_10 (by omega) ko1_10 rfl rfl (Nat.le_of_ble_eq_true rfl) dX1_tryOption_45 (fun v10 M11 h12 => ?_)
    refine j_sipush (pc := 48) 200 dX1_tryOption_48 (by decide) ?_
    refine j_iconst (pc := 51) dX1_tryOption_51 ?_
    refine j_callVi4 (pc := 52) (ct_X7_push M11 (r0 + 24) v7 v10 200 0 (by omega) h9 h12 (jm_inL (by decide) (by decide)) (jm_inL (by decide) (by decide))) kg_1205 km_X7_push kv_X7_push rfl rfl ⟨(Nat.le_of_ble_eq_true rfl), (Nat.le_of_ble_eq_true rfl)⟩ jv1_10 (by omega) ko1_10 rfl rfl (Nat.le_of_ble_eq_true rfl) dX1_tryOption_52 (fun v13 M14 h15 => ?_)
    refine j_pop (pc := 55) dX1_tryOption_55 rfl ?_
    exact j_vret (pc := 56) dX1_tryOption_56
abbrev rmX10_keepPair : Room := { frames := 4, cells := 0, slots := 0, locals := 89 }
set_option maxHeartbeats 4000000 in
set_option maxRecDepth 100000 in
theorem ct_X10_keepPair (fu : Nat) (M : jm_M) (l1 l2 l3 : Int) (hl1 : jm_in l1) (hl2 : jm_in l2) (hl3 : jm_in l3) : jm_Cv wd1 yX10_keepPair cX10_keepPair 4 none rmX10_keepPair M (fun G ad => [.ref (ad (jm_r wd1 5 0)), jm_i l1, jm_i l2, jm_i l3]) (fX10_keepPair fu M l1 l2 l3) := by
  refine jm_met_v (fun X => [(0, jm_vr wd1 X 5 0), (1, jm_i l1), (2, jm_i l2), (3, jm_i l3)]) (by decide) (fun _ _ => (Nat.le_of_ble_eq_true rfl)) (fun _ => rfl) (fun X => ?_)
  unfold fX10_keepPair
  refine j_iload_n (pc := 0) dX10_keepPair_0 rfl (q := 3) rfl ?_
  refine j_bipush (pc := 1) 16 dX10_keepPair_1 (by decide) ?_
  refine j_callNi2 (pc := 3) (ct_X11_isIndex M l3 16 hl3 (jm_inL (by decide) (by decide))) (host := "RaceByLaps") (by decide) km_X11_isIndex kg_562 rfl rfl ⟨(Nat.le_of_ble_eq_true rfl), (Nat.le_of_ble_eq_true rfl)⟩ rfl rfl (Nat.le_of_ble_eq_true rfl) dX10_keepPair_3 (fun v1 M2 h3 => ?_)
  refine j_if_ne (tgt := 10) (pc := 6) h3 dX10_keepPair_6 (by decide) (fun c4 => ?_) (fun c4 => ?_)
  · skip
    exact j_vret (pc := 9) dX10_keepPair_9
  · skip
    refine j_aload_n (pc := 10) dX10_keepPair_10 rfl (q := 0) rfl ?_
    refine j_getr (pc := 11) jv1_5 jm_01 kf_RX10_29 0 kg1_5_7 rfl dX10_keepPair_11 ?_
    refine j_iload_n (pc := 14) dX10_keepPair_14 rfl (q := 3) rfl ?_
    refine j_aload_n (pc := 15) dX10_keepPair_15 rfl (q := 0) rfl ?_
    refine j_getr (pc := 16) jv1_5 jm_01 kf_RX10_15 0 kg1_5_1 rfl dX10_keepPair_16 ?_
    refine j_iload_n (pc := 19) dX10_keepPair_19 rfl (q := 1) rfl ?_
    refine j_callVi1 (pc := 20) (ct_X5_triedPlace fu M2 l1 hl1) kg_1153 km_X5_triedPlace kv_X5_triedPlace rfl rfl ⟨(Nat.le_of_ble_eq_true rfl), (Nat.le_of_ble_eq_true rfl)⟩ jv1_4 jm_01 ko1_4 rfl rfl (Nat.le_of_ble_eq_true rfl) dX10_keepPair_20 (fun v5 M6 h7 => ?_)
    refine j_iast (pc := 23) jv1_42 jm_01 rfl (by decide) wI1 ka1_42 h7 dX10_keepPair_23 (fun c8 M9 => ?_)
    refine j_aload_n (pc := 24) dX10_keepPair_24 rfl (q := 0) rfl ?_
    refine j_getr (pc := 25) jv1_5 jm_01 kf_RX10_32 0 kg1_5_8 rfl dX10_keepPair_25 ?_
    refine j_iload_n (pc := 28) dX10_keepPair_28 rfl (q := 3) rfl ?_
    refine j_aload_n (pc := 29) dX10_keepPair_29 rfl (q := 0) rfl ?_
    refine j_getr (pc := 30) jv1_5 jm_01 kf_RX10_15 0 kg1_5_1 rfl dX10_keepPair_30 ?_
    refine j_iload_n (pc := 33) dX10_keepPair_33 rfl (q := 1) rfl ?_
    refine j_callVi1 (pc := 34) (ct_X5_triedSum M9 l1 hl1) kg_1158 km_X5_triedSum kv_X5_triedSum rfl rfl ⟨(Nat.le_of_ble_eq_true rfl), (Nat.le_of_ble_eq_true rfl)⟩ jv1_4 jm_01 ko1_4 rfl rfl (Nat.le_of_ble_eq_true rfl) dX10_keepPair_34 (fun v10 M11 h12 => ?_)
    refine j_iast (pc := 37) jv1_43 jm_01 rfl (by decide) wI1 ka1_43 h12 dX10_keepPair_37 (fun c13 M14 => ?_)
    refine j_aload_n (pc := 38) dX10_keepPair_38 rfl (q := 0) rfl ?_
    refine j_getr (pc := 39) jv1_5 jm_01 kf_RX10_35 0 kg1_5_9 rfl dX10_keepPair_39 ?_
    refine j_iload_n (pc := 42) dX10_keepPair_42 rfl (q := 3) rfl ?_
    refine j_aload_n (pc := 43) dX10_keepPair_43 rfl (q := 0) rfl ?_
    refine j_getr (pc := 44) jv1_5 jm_01 kf_RX10_15 0 kg1_5_1 rfl dX10_keepPair_44 ?_
    refine j_iload_n (pc := 47) dX10_keepPair_47 rfl (q := 2) rfl ?_
    refine j_callVi1 (pc := 48) (ct_X5_triedPlace fu M14 l2 hl2) kg_1153 km_X5_triedPlace kv_X5_triedPlace rfl rfl ⟨(Nat.le_of_ble_eq_true rfl), (Nat.le_of_ble_eq_true rfl)⟩ jv1_4 jm_01 ko1_4 rfl rfl (Nat.le_of_ble_eq_true rfl) dX10_keepPair_48 (fun v15 M16 h17 => ?_)
    refine j_iast (pc := 51) jv1_44 jm_01 rfl (by decide) wI1 ka1_44 h17 dX10_keepPair_51 (fun c18 M19 => ?_)
    refine j_aload_n (pc := 52) dX10_keepPair_52 rfl (q := 0) rfl ?_
    refine j_getr (pc := 53) jv1_5 jm_01 kf_RX10_38 0 kg1_5_10 rfl dX10_keepPair_53 ?_
    refine j_iload_n (pc := 56) dX10_keepPair_56 rfl (q := 3) rfl ?_
    refine j_aload_n (pc := 57) dX10_keepPair_57 rfl (q := 0) rfl ?_
    refine j_getr (pc := 58) jv1_5 jm_01 kf_RX10_15 0 kg1_5_1 rfl dX10_keepPair_58 ?_
    refine j_iload_n (pc := 61) dX10_keepPair_61 rfl (q := 2) rfl ?_
    refine j_callVi1 (pc := 62) (ct_X5_triedSum M19 l2 hl2) kg_1158 km_X5_triedSum kv_X5_triedSum rfl rfl ⟨(Nat.le_of_ble_eq_true rfl), (Nat.le_of_ble_eq_true rfl)⟩ jv1_4 jm_01 ko1_4 rfl rfl (Nat.le_of_ble_eq_true rfl) dX10_keepPair_62 (fun v20 M21 h22 => ?_)
    refine j_iast (pc := 65) jv1_45 jm_01 rfl (by decide) wI1 ka1_45 h22 dX10_keepPair_65 (fun c23 M24 => ?_)
    exact j_vret (pc := 66) dX10_keepPair_66
