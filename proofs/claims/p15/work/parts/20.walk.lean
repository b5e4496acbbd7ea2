abbrev rmX9_layAnew : Room := { frames := 0, cells := 0, slots := 0, locals := 0 }
set_option maxHeartbeats 4000000 in
set_option maxRecDepth 100000 in
theorem b0X9_layAnew_12 (X : jm_X) (fu : Nat) (k12 : jm_M → Int → jm_R) (hk12 : ∀ (M : jm_M) (l3 : Int) (hl3 : jm_in l3), jm_J wd1 jm_qv cX9_layAnew 4 RX9 rmX9_layAnew X M [(0, jm_vr wd1 X 1 0), (3, jm_i l3)] [] 12 (k12 M l3)) : ∀ (M : jm_M) (l3 : Int) (hl3 : jm_in l3), jm_J wd1 jm_qv cX9_layAnew 4 RX9 rmX9_layAnew X M [(0, jm_vr wd1 X 1 0), (3, jm_i l3)] [] 12 (gX9_layAnew_12 fu k12 M l3) := by
  intro M l3 hl3
  unfold gX9_layAnew_12
  refine j_iload_n (pc := 12) dX9_layAnew_12 rfl (q := 1) rfl ?_
  refine j_iconst (pc := 13) dX9_layAnew_13 ?_
  refine j_icmp_ge (tgt := 48) (pc := 14) hl3 (jm_inL (by decide) (by decide)) dX9_layAnew_14 (by decide) (fun c1 => ?_) (fun c1 => ?_)
  · skip
    refine j_aload_n (pc := 48) dX9_layAnew_48 rfl (q := 0) rfl ?_
    refine j_getr (pc := 49) jv1_1 jm_01 kf_RX9_33 30 kg1_1_7 rfl dX9_layAnew_49 ?_
    refine j_iconst (pc := 52) dX9_layAnew_52 ?_
    refine j_put (pc := 53) jv1_10 (by omega) kf_RX9_56 wI1 kp_X7_3 kx1_10_3 (jm_inL (by decide) (by decide)) rfl rfl dX9_layAnew_53 (fun M2 => ?_)
    refine j_aload_n (pc := 56) dX9_layAnew_56 rfl (q := 0) rfl ?_
    refine j_getr (pc := 57) jv1_1 jm_01 kf_RX9_37 31 kg1_1_8 rfl dX9_layAnew_57 ?_
    refine j_iconst (pc := 60) dX9_layAnew_60 ?_
    refine j_put (pc := 61) jv1_10 (by omega) kf_RX9_56 wI1 kp_X7_3 kx1_10_3 (jm_inL (by decide) (by decide)) rfl rfl dX9_layAnew_61 (fun M3 => ?_)
    exact j_vret (pc := 64) dX9_layAnew_64
  · skip
    refine j_aload_n (pc := 17) dX9_layAnew_17 rfl (q := 0) rfl ?_
    refine j_getr (pc := 18) jv1_1 jm_01 kf_RX9_9 0 kg1_1_2 rfl dX9_layAnew_18 ?_
    refine j_iload_n (pc := 21) dX9_layAnew_21 rfl (q := 1) rfl ?_
    refine j_sipush (pc := 22) 20000 dX9_layAnew_22 (by decide) ?_
    refine j_iast (pc := 25) jv1_14 jm_01 rfl (by decide) wI1 ka1_14 (jm_inL (by decide) (by decide)) dX9_layAnew_25 (fun c4 M5 => ?_)
    refine j_aload_n (pc := 26) dX9_layAnew_26 rfl (q := 0) rfl ?_
    refine j_getr (pc := 27) jv1_1 jm_01 kf_RX9_15 0 kg1_1_3 rfl dX9_layAnew_27 ?_
    refine j_iload_n (pc := 30) dX9_layAnew_30 rfl (q := 1) rfl ?_
    refine j_sipush (pc := 31) 300 dX9_layAnew_31 (by decide) ?_
    refine j_iast (pc := 34) jv1_15 jm_01 rfl (by decide) wI1 ka1_15 (jm_inL (by decide) (by decide)) dX9_layAnew_34 (fun c6 M7 => ?_)
    refine j_aload_n (pc := 35) dX9_layAnew_35 rfl (q := 0) rfl ?_
    refine j_getr (pc := 36) jv1_1 jm_01 kf_RX9_18 0 kg1_1_4 rfl dX9_layAnew_36 ?_
    refine j_iload_n (pc := 39) dX9_layAnew_39 rfl (q := 1) rfl ?_
    refine j_iconst (pc := 40) dX9_layAnew_40 ?_
    refine j_bast (pc := 41) jv1_16 jm_01 rfl (by decide) wI1 ka1_16 (jm_inL (by decide) (by decide)) dX9_layAnew_41 (fun c8 c10 M9 => ?_)
    refine j_iinc (pc := 42) [(0, jm_vr wd1 X 1 0)] (q := 1) dX9_layAnew_42 rfl (by decide) (fun _ => rfl) (fun v11 h12 => ?_)
    refine j_goto (tgt := 12) (pc := 45) dX9_layAnew_45 (by decide) ?_
    refine j_sub (pc := 12) [(0, jm_vr wd1 X 1 0), (3, jm_i v11)] [1, 0] rfl ?_
    exact hk12 M9 v11 h12
theorem bX9_layAnew_12 (X : jm_X) (fu : Nat) : ∀ (n : Nat) (M : jm_M) (l3 : Int) (hl3 : jm_in l3), jm_J wd1 jm_qv cX9_layAnew 4 RX9 rmX9_layAnew X M [(0, jm_vr wd1 X 1 0), (3, jm_i l3)] [] 12 (fX9_layAnew_12 fu n M l3) := by
  intro n
  induction n with
  | zero => intro M l3 hl3; exact j_none
  | succ n ih => intro M l3 hl3; exact b0X9_layAnew_12 X fu (fX9_layAnew_12 fu n) ih M l3 hl3
set_option maxHeartbeats 4000000 in
set_option maxRecDepth 100000 in
theorem ct_X9_layAnew (fu : Nat) (M : jm_M) (l1 l2 : Int) (hl1 : jm_in l1) (hl2 : jm_in l2) : jm_Cv wd1 yX9_layAnew cX9_layAnew 4 none rmX9_layAnew M (fun G ad => [.ref (ad (jm_r wd1 1 0)), jm_i l1, jm_i l2]) (fX9_layAnew fu M l1 l2) := by
  refine jm_met_v (fun X => [(0, jm_vr wd1 X 1 0), (1, jm_i l1), (2, jm_i l2)]) (by decide) (fun _ _ => (Nat.le_of_ble_eq_true rfl)) (fun _ => rfl) (fun X => ?_)
  unfold fX9_layAnew
  refine j_aload_n (pc := 0) dX9_layAnew_0 rfl (q := 0) rfl ?_
  refine j_iload_n (pc := 1) dX9_layAnew_1 rfl (q := 1) rfl ?_
  refine j_put (pc := 2) jv1_1 jm_01 kf_RX9_49 wI1 kp_X9_0 kx1_1_0 hl1 rfl rfl dX9_layAnew_2 (fun M1 => ?_)
  refine j_aload_n (pc := 5) dX9_layAnew_5 rfl (q := 0) rfl ?_
  refine j_iload_n (pc := 6) dX9_layAnew_6 rfl (q := 2) rfl ?_
  refine j_put (pc := 7) jv1_1 jm_01 kf_RX9_53 wI1 kp_X9_1 kx1_1_1 hl2 rfl rfl dX9_layAnew_7 (fun M2 => ?_)
  refine j_iconst (pc := 10) dX9_layAnew_10 ?_
  refine j_istore_n (pc := 11) [(3, jm_i 0), (0, jm_vr wd1 X 1 0), (1, jm_i l1), (2, jm_i l2)] dX9_layAnew_11 rfl (by decide) rfl ?_
  refine j_sub (pc := 12) [(0, jm_vr wd1 X 1 0), (3, jm_i 0)] [1, 0] rfl ?_
  exact bX9_layAnew_12 X fu  fu M2 0 (jm_inL (by decide) (by decide))
abbrev rmX11_track : Room := { frames := 1, cells := 0, slots := 0, locals := 23 }
set_option maxHeartbeats 4000000 in
set_option maxRecDepth 100000 in
theorem ct_X11_track (fu : Nat) (M : jm_M) (l1 l2 : Int) (hl1 : jm_in l1) (hl2 : jm_in l2) : jm_Ci wd1 yX11_track cX11_track 3 (some .boolean) rmX11_track M (fun G ad => [.ref (ad (jm_r wd1 0 0)), jm_i l1, jm_i l2]) (fX11_track fu M l1 l2) := by
  refine jm_met_i (fun X => [(0, jm_vr wd1 X 0 0), (1, jm_i l1), (2, jm_i l2)]) (by decide) (fun _ _ => (Nat.le_of_ble_eq_true rfl)) (fun _ => rfl) (fun X => ?_)
  unfold fX11_track
  refine j_iload_n (pc := 0) dX11_track_0 rfl (q := 1) rfl ?_
  refine j_iconst (pc := 1) dX11_track_1 ?_
  refine j_icmp_lt (tgt := 21) (pc := 2) hl1 (jm_inL (by decide) (by decide)) dX11_track_2 (by decide) (fun c1 => ?_) (fun c1 => ?_)
  · skip
    refine j_iconst (pc := 21) dX11_track_21 ?_
    exact j_iret (pc := 22) (jm_inL (by decide) (by decide)) rfl dX11_track_22
  · skip
    refine j_iload_n (pc := 5) dX11_track_5 rfl (q := 1) rfl ?_
    refine j_iconst (pc := 6) dX11_track_6 ?_
    refine j_icmp_gt (tgt := 21) (pc := 7) hl1 (jm_inL (by decide) (by decide)) dX11_track_7 (by decide) (fun c2 => ?_) (fun c2 => ?_)
    · skip
      refine j_iconst (pc := 21) dX11_track_21 ?_
      exact j_iret (pc := 22) (jm_inL (by decide) (by decide)) rfl dX11_track_22
    · skip
      refine j_iload_n (pc := 10) dX11_track_10 rfl (q := 2) rfl ?_
      refine j_iconst (pc := 11) dX11_track_11 ?_
      refine j_icmp_lt (tgt := 21) (pc := 12) hl2 (jm_inL (by decide) (by decide)) dX11_track_12 (by decide) (fun c3 => ?_) (fun c3 => ?_)
      · skip
        refine j_iconst (pc := 21) dX11_track_21 ?_
        exact j_iret (pc := 22) (jm_inL (by decide) (by decide)) rfl dX11_track_22
      · skip
        refine j_iload_n (pc := 15) dX11_track_15 rfl (q := 2) rfl ?_
        refine j_bipush (pc := 16) 12 dX11_track_16 (by decide) ?_
        refine j_icmp_le (tgt := 23) (pc := 18) hl2 (jm_inL (by decide) (by decide)) dX11_track_18 (by decide) (fun c4 => ?_) (fun c4 => ?_)
        · skip
          refine j_aload_n (pc := 23) dX11_track_23 rfl (q := 0) rfl ?_
          refine j_getr (pc := 24) jv1_0 jm_01 kf_RX11_15 0 kg1_0_0 rfl dX11_track_24 ?_
          refine j_iload_n (pc := 27) dX11_track_27 rfl (q := 1) rfl ?_
          refine j_iload_n (pc := 28) dX11_track_28 rfl (q := 2) rfl ?_
          refine j_callVv2 (pc := 29) (ct_X9_layAnew fu M l1 l2 hl1 hl2) kg_552 km_X9_layAnew kv_X9_layAnew rfl rfl ⟨(Nat.le_of_ble_eq_true rfl), (Nat.le_of_ble_eq_true rfl)⟩ jv1_1 jm_01 ko1_1 rfl rfl (Nat.le_of_ble_eq_true rfl) dX11_track_29 (fun v5 M6 => ?_)
          refine j_aload_n (pc := 32) dX11_track_32 rfl (q := 0) rfl ?_
          refine j_getr (pc := 33) jv1_0 jm_01 kf_RX11_24 0 kg1_0_1 rfl dX11_track_33 ?_
          refine j_iconst (pc := 36) dX11_track_36 ?_
          refine j_put (pc := 37) jv1_2 jm_01 kf_RX11_80 wI1 kp_X2_5 kx1_2_5 (jm_inL (by decide) (by decide)) rfl rfl dX11_track_37 (fun M7 => ?_)
          refine j_aload_n (pc := 40) dX11_track_40 rfl (q := 0) rfl ?_
          refine j_getr (pc := 41) jv1_0 jm_01 kf_RX11_24 0 kg1_0_1 rfl dX11_track_41 ?_
          refine j_iconst (pc := 44) dX11_track_44 ?_
          refine j_put (pc := 45) jv1_2 jm_01 kf_RX11_84 wI1 kp_X2_7 kx1_2_7 (jm_inL (by decide) (by decide)) rfl rfl dX11_track_45 (fun M8 => ?_)
          refine j_aload_n (pc := 48) dX11_track_48 rfl (q := 0) rfl ?_
          refine j_getr (pc := 49) jv1_0 jm_01 kf_RX11_33 0 kg1_0_2 rfl dX11_track_49 ?_
          refine j_iconst (pc := 52) dX11_track_52 ?_
          refine j_put (pc := 53) jv1_3 jm_01 kf_RX11_88 wI1 kp_X0_3 kx1_3_3 (jm_inL (by decide) (by decide)) rfl rfl dX11_track_53 (fun M9 => ?_)
          refine j_aload_n (pc := 56) dX11_track_56 rfl (q := 0) rfl ?_
          refine j_getr (pc := 57) jv1_0 jm_01 kf_RX11_33 0 kg1_0_2 rfl dX11_track_57 ?_
          refine j_getr (pc := 60) jv1_3 jm_01 kf_RX11_91 32 kg1_3_4 rfl dX11_track_60 ?_
          refine j_iconst (pc := 63) dX11_track_63 ?_
          refine j_put (pc := 64) jv1_10 (by omega) kf_RX11_95 wI1 kp_X7_3 kx1_10_3 (jm_inL (by decide) (by decide)) rfl rfl dX11_track_64 (fun M10 => ?_)
          refine j_iconst (pc := 67) dX11_track_67 ?_
          exact j_iret (pc := 68) (jm_inL (by decide) (by decide)) rfl dX11_track_68
        · skip
          refine j_iconst (pc := 21) dX11_track_21 ?_
          exact j_iret (pc := 22) (jm_inL (by decide) (by decide)) rfl dX11_track_22
abbrev rmX11_isIndex : Room := { frames := 0, cells := 0, slots := 0, locals := 0 }
set_option maxHeartbeats 4000000 in
set_option maxRecDepth 100000 in
theorem ct_X11_isIndex (M : jm_M) (l0 l1 : Int) (hl0 : jm_in l0) (hl1 : jm_in l1) : jm_Ci wd1 yX11_isIndex cX11_isIndex 2 (some .boolean) rmX11_isIndex M (fun G ad => [jm_i l0, jm_i l1]) (fX11_isIndex M l0 l1) := by
  refine jm_met_i (fun X => [(0, jm_i l0), (1, jm_i l1)]) (by decide) (fun _ _ => (Nat.le_of_ble_eq_true rfl)) (fun _ => rfl) (fun X => ?_)
  unfold fX11_isIndex
  refine j_iload_n (pc := 0) dX11_isIndex_0 rfl (q := 0) rfl ?_
  refine j_if_lt (tgt := 13) (pc := 1) hl0 dX11_isIndex_1 (by decide) (fun c1 => ?_) (fun c1 => ?_)
  · skip
    refine j_iconst (pc := 13) dX11_isIndex_13 ?_
    exact j_iret (pc := 14) (jm_inL (by decide) (by decide)) rfl dX11_isIndex_14
  · skip
    refine j_iload_n (pc := 4) dX11_isIndex_4 rfl (q := 0) rfl ?_
    refine j_iload_n (pc := 5) dX11_isIndex_5 rfl (q := 1) rfl ?_
    refine j_icmp_ge (tgt := 13) (pc := 6) hl0 hl1 dX11_isIndex_6 (by decide) (fun c2 => ?_) (fun c2 => ?_)
    · skip
      refine j_iconst (pc := 13) dX11_isIndex_13 ?_
      exact j_iret (pc := 14) (jm_inL (by decide) (by decide)) rfl dX11_isIndex_14
    · skip
      refine j_iconst (pc := 9) dX11_isIndex_9 ?_
      refine j_goto (tgt := 14) (pc := 10) dX11_isIndex_10 (by decide) ?_
      exact j_iret (pc := 14) (jm_inL (by decide) (by decide)) rfl dX11_isIndex_14
abbrev rmX9_hasSector : Room := { frames := 1, cells := 0, slots := 0, locals := 21 }
set_option maxHeartbeats 4000000 in
set_option maxRecDepth 100000 in
theorem ct_X9_hasSector (M : jm_M) (l1 : Int) (hl1 : jm_in l1) : jm_Ci wd1 yX9_hasSector cX9_hasSector 2 (some .boolean) rmX9_hasSector M (fun G ad => [.ref (ad (jm_r wd1 1 0)), jm_i l1]) (fX9_hasSector M l1) := by
  refine jm_met_i (fun X => [(0, jm_vr wd1 X 1 0), (1, jm_i l1)]) (by decide) (fun _ _ => (Nat.le_of_ble_eq_true rfl)) (fun _ => rfl) (fun X => ?_)
  unfold fX9_hasSector
  refine j_iload_n (pc := 0) dX9_hasSector_0 rfl (q := 1) rfl ?_
  refine j_aload_n (pc := 1) dX9_hasSector_1 rfl (q := 0) rfl ?_
  refine j_geti (pc := 2) jv1_1 jm_01 kf_RX9_49 kg1_1_0 dX9_hasSector_2 (fun h1 => ?_)
  refine j_callNi2 (pc := 5) (ct_X11_isIndex M l1 (M 1 0 0) hl1 h1) (host := "RaceByLaps") (by decide) km_X11_isIndex kg_562 rfl rfl ⟨(Nat.le_of_ble_eq_true rfl), (Nat.le_of_ble_eq_true rfl)⟩ rfl rfl (Nat.le_of_ble_eq_true rfl) dX9_hasSector_5 (fun v2 M3 h4 => ?_)
  exact j_zret (pc := 8) h4 dX9_hasSector_8
abbrev rmX11_isWithin : Room := { frames := 0, cells := 0, slots := 0, locals := 0 }
set_option maxHeartbeats 4000000 in
set_option maxRecDepth 100000 in
theorem ct_X11_isWithin (M : jm_M) (l0 l1 l2 : Int) (hl0 : jm_in l0) (hl1 : jm_in l1) (hl2 : jm_in l2) : jm_Ci wd1 yX11_isWithin cX11_isWithin 3 (some .boolean) rmX11_isWithin M (fun G ad => [jm_i l0, jm_i l1, jm_i l2]) (fX11_isWithin M l0 l1 l2) := by
  refine jm_met_i (fun X => [(0, jm_i l0), (1, jm_i l1), (2, jm_i l2)]) (by decide) (fun _ _ => (Nat.le_of_ble_eq_true rfl)) (fun _ => rfl) (fun X => ?_)
  unfold fX11_isWithin
  refine j_iload_n (pc := 0) dX11_isWithin_0 rfl (q := 0) rfl ?_
  refine j_iload_n (pc := 1) dX11_isWithin_1 rfl (q := 1) rfl ?_
  refine j_icmp_lt (tgt := 14) (pc := 2) hl0 hl1 dX11_isWithin_2 (by decide) (fun c1 => ?_) (fun c1 => ?_)
  · skip
    refine j_iconst (pc := 14) dX11_isWithin_14 ?_
    exact j_iret (pc := 15) (jm_inL (by decide) (by decide)) rfl dX11_isWithin_15
  · skip
    refine j_iload_n (pc := 5) dX11_isWithin_5 rfl (q := 0) rfl ?_
    refine j_iload_n (pc := 6) dX11_isWithin_6 rfl (q := 2) rfl ?_
    refine j_icmp_gt (tgt := 14) (pc := 7) hl0 hl2 dX11_isWithin_7 (by decide) (fun c2 => ?_) (fun c2 => ?_)
    · skip
      refine j_iconst (pc := 14) dX11_isWithin_14 ?_
      exact j_iret (pc := 15) (jm_inL (by decide) (by decide)) rfl dX11_isWithin_15
    · skip
      refine j_iconst (pc := 10) dX11_isWithin_10 ?_
      refine j_goto (tgt := 15) (pc := 11) dX11_isWithin_11 (by decide) ?_
      exact j_iret (pc := 15) (jm_inL (by decide) (by decide)) rfl dX11_isWithin_15
abbrev rmX11_sector : Room := { frames := 2, cells := 0, slots := 0, locals := 42 }
set_option maxHeartbeats 4000000 in
set_option maxRecDepth 100000 in
theorem ct_X11_sector (M : jm_M) (l1 l2 l3 : Int) (hl1 : jm_in l1) (hl2 : jm_in l2) (hl3 : jm_in l3) : jm_Ci wd1 yX11_sector cX11_sector 4 (some .boolean) rmX11_sector M (fun G ad => [.ref (ad (jm_r wd1 0 0)), jm_i l1, jm_i l2, jm_i l3]) (fX11_sector M l1 l2 l3) := by
  refine jm_met_i (fun X => [(0, jm_vr wd1 X 0 0), (1, jm_i l1), (2, jm_i l2), (3, jm_i l3)]) (by decide) (fun _ _ => (Nat.le_of_ble_eq_true rfl)) (fun _ => rfl) (fun X => ?_)
  unfold fX11_sector
  refine j_aload_n (pc := 0) dX11_sector_0 rfl (q := 0) rfl ?_
  refine j_getr (pc := 1) jv1_0 jm_01 kf_RX11_15 0 kg1_0_0 rfl dX11_sector_1 ?_
  refine j_iload_n (pc := 4) dX11_sector_4 rfl (q := 1) rfl ?_
  refine j_callVi1 (pc := 5) (ct_X9_hasSector M l1 hl1) kg_557 km_X9_hasSector kv_X9_hasSector rfl rfl ⟨(Nat.le_of_ble_eq_true rfl), (Nat.le_of_ble_eq_true rfl)⟩ jv1_1 jm_01 ko1_1 rfl rfl (Nat.le_of_ble_eq_true rfl) dX11_sector_5 (fun v1 M2 h3 => ?_)
  refine j_if_eq (tgt := 34) (pc := 8) h3 dX11_sector_8 (by decide) (fun c4 => ?_) (fun c4 => ?_)
  · skip
    refine j_iconst (pc := 34) dX11_sector_34 ?_
    exact j_iret (pc := 35) (jm_inL (by decide) (by decide)) rfl dX11_sector_35
  · skip
    refine j_iload_n (pc := 11) dX11_sector_11 rfl (q := 2) rfl ?_
    refine j_sipush (pc := 12) 5000 dX11_sector_12 (by decide) ?_
    refine j_ldc (pc := 15) 60000 kg_564 (by decide) dX11_sector_15 ?_
    refine j_callSi3 (pc := 17) (ct_X11_isWithin M2 l2 5000 60000 hl2 (jm_inL (by decide) (by decide)) (jm_inL (by decide) (by decide))) kg_565 km_X11_isWithin kg_566 rfl rfl ⟨(Nat.le_of_ble_eq_true rfl), (Nat.le_of_ble_eq_true rfl)⟩ rfl rfl (Nat.le_of_ble_eq_true rfl) dX11_sector_17 (fun v5 M6 h7 => ?_)
    refine j_if_eq (tgt := 34) (pc := 20) h7 dX11_sector_20 (by decide) (fun c8 => ?_) (fun c8 => ?_)
    · skip
      refine j_iconst (pc := 34) dX11_sector_34 ?_
      exact j_iret (pc := 35) (jm_inL (by decide) (by decide)) rfl dX11_sector_35
    · skip
      refine j_iload_n (pc := 23) dX11_sector_23 rfl (q := 3) rfl ?_
      refine j_iconst (pc := 24) dX11_sector_24 ?_
      refine j_sipush (pc := 25) 5000 dX11_sector_25 (by decide) ?_
      refine j_callSi3 (pc := 28) (ct_X11_isWithin M6 l3 (-1) 5000 hl3 (jm_inL (by decide) (by decide)) (jm_inL (by decide) (by decide))) kg_565 km_X11_isWithin kg_566 rfl rfl ⟨(Nat.le_of_ble_eq_true rfl), (Nat.le_of_ble_eq_true rfl)⟩ rfl rfl (Nat.le_of_ble_eq_true rfl) dX11_sector_28 (fun v9 M10 h11 => ?_)
      refine j_if_ne (tgt := 36) (pc := 31) h11 dX11_sector_31 (by decide) (fun c12 => ?_) (fun c12 => ?_)
      · skip
        refine j_iconst (pc := 34) dX11_sector_34 ?_
        exact j_iret (pc := 35) (jm_inL (by decide) (by decide)) rfl dX11_sector_35
      · skip
        refine j_aload_n (pc := 36) dX11_sector_36 rfl (q := 0) rfl ?_
        refine j_getr (pc := 37) jv1_0 jm_01 kf_RX11_15 0 kg1_0_0 rfl dX11_sector_37 ?_
        refine j_getr (pc := 40) jv1_1 jm_01 kf_RX11_109 0 kg1_1_2 rfl dX11_sector_40 ?_
        refine j_iload_n (pc := 43) dX11_sector_43 rfl (q := 1) rfl ?_
        refine j_iload_n (pc := 44) dX11_sector_44 rfl (q := 2) rfl ?_
        refine j_iast (pc := 45) jv1_14 jm_01 rfl (by decide) wI1 ka1_14 hl2 dX11_sector_45 (fun c13 M14 => ?_)
        refine j_aload_n (pc := 46) dX11_sector_46 rfl (q := 0) rfl ?_
        refine j_getr (pc := 47) jv1_0 jm_01 kf_RX11_15 0 kg1_0_0 rfl dX11_sector_47 ?_
        refine j_getr (pc := 50) jv1_1 jm_01 kf_RX11_112 0 kg1_1_3 rfl dX11_sector_50 ?_
        refine j_iload_n (pc := 53) dX11_sector_53 rfl (q := 1) rfl ?_
        refine j_iload_n (pc := 54) dX11_sector_54 rfl (q := 3) rfl ?_
        refine j_iast (pc := 55) jv1_15 jm_01 rfl (by decide) wI1 ka1_15 hl3 dX11_sector_55 (fun c15 M16 => ?_)
        refine j_aload_n (pc := 56) dX11_sector_56 rfl (q := 0) rfl ?_
        refine j_getr (pc := 57) jv1_0 jm_01 kf_RX11_24 0 kg1_0_1 rfl dX11_sector_57 ?_
        refine j_iconst (pc := 60) dX11_sector_60 ?_
        refine j_put (pc := 61) jv1_2 jm_01 kf_RX11_84 wI1 kp_X2_7 kx1_2_7 (jm_inL (by decide) (by decide)) rfl rfl dX11_sector_61 (fun M17 => ?_)
        refine j_iconst (pc := 64) dX11_sector_64 ?_
        exact j_iret (pc := 65) (jm_inL (by decide) (by decide)) rfl dX11_sector_65
abbrev rmX9_tyreNumber : Room := { frames := 1, cells := 0, slots := 0, locals := 21 }
set_option maxHeartbeats 4000000 in
set_option maxRecDepth 100000 in
theorem ct_X9_tyreNumber (M : jm_M) (l1 l2 : Int) (hl1 : jm_in l1) (hl2 : jm_in l2) : jm_Ci wd1 yX9_tyreNumber cX9_tyreNumber 3 (some .int) rmX9_tyreNumber M (fun G ad => [.ref (ad (jm_r wd1 1 0)), jm_i l1, jm_i l2]) (fX9_tyreNumber M l1 l2) := by
  refine jm_met_i (fun X => [(0, jm_vr wd1 X 1 0), (1, jm_i l1), (2, jm_i l2)]) (by decide) (fun _ _ => (Nat.le_of_ble_eq_true rfl)) (fun _ => rfl) (fun X => ?_)
  unfold fX9_tyreNumber
  refine j_iload_n (pc := 0) dX9_tyreNumber_0 rfl (q := 1) rfl ?_
  refine j_iconst (pc := 1) dX9_tyreNumber_1 ?_
  refine j_callNi2 (pc := 2) (ct_X11_isIndex M l1 4 hl1 (jm_inL (by decide) (by decide))) (host := "RaceByLaps") (by decide) km_X11_isIndex kg_562 rfl rfl ⟨(Nat.le_of_ble_eq_true rfl), (Nat.le_of_ble_eq_true rfl)⟩ rfl rfl (Nat.le_of_ble_eq_true rfl) dX9_tyreNumber_2 (fun v1 M2 h3 => ?_)
  refine j_if_eq (tgt := 17) (pc := 5) h3 dX9_tyreNumber_5 (by decide) (fun c4 => ?_) (fun c4 => ?_)
  · skip
    refine j_iconst (pc := 17) dX9_tyreNumber_17 ?_
    exact j_iret (pc := 18) (jm_inL (by decide) (by decide)) rfl dX9_tyreNumber_18
  · skip
    refine j_iload_n (pc := 8) dX9_tyreNumber_8 rfl (q := 2) rfl ?_
    refine j_bipush (pc := 9) 6 dX9_tyreNumber_9 (by decide) ?_
    refine j_callNi2 (pc := 11) (ct_X11_isIndex M2 l2 6 hl2 (jm_inL (by decide) (by decide))) (host := "RaceByLaps") (by decide) km_X11_isIndex kg_562 rfl rfl ⟨(Nat.le_of_ble_eq_true rfl), (Nat.le_of_ble_eq_true rfl)⟩ rfl rfl (Nat.le_of_ble_eq_true rfl) dX9_tyreNumber_11 (fun v5 M6 h7 => ?_)
    refine j_if_ne (tgt := 19) (pc := 14) h7 dX9_tyreNumber_14 (by decide) (fun c8 => ?_) (fun c8 => ?_)
    · skip
      refine j_iconst (pc := 17) dX9_tyreNumber_17 ?_
      exact j_iret (pc := 18) (jm_inL (by decide) (by decide)) rfl dX9_tyreNumber_18
    · skip
      refine j_aload_n (pc := 19) dX9_tyreNumber_19 rfl (q := 0) rfl ?_
      refine j_getr (pc := 20) jv1_1 jm_01 kf_RX9_22 0 kg1_1_5 rfl dX9_tyreNumber_20 ?_
      refine j_iload_n (pc := 23) dX9_tyreNumber_23 rfl (q := 1) rfl ?_
      refine j_bipush (pc := 24) 6 dX9_tyreNumber_24 (by decide) ?_
      refine j_imul (pc := 26) dX9_tyreNumber_26 ?_
      refine j_iload_n (pc := 27) dX9_tyreNumber_27 rfl (q := 2) rfl ?_
      refine j_iadd (pc := 28) dX9_tyreNumber_28 ?_
      refine j_iald (pc := 29) jv1_17 jm_01 rfl (by decide) ka1_17 dX9_tyreNumber_29 (fun c9 h10 => ?_)
      exact j_iret (pc := 30) h10 rfl dX9_tyreNumber_30
abbrev rmX11_tyres : Room := { frames := 2, cells := 0, slots := 0, locals := 43 }
set_option maxHeartbeats 4000000 in
set_option maxRecDepth 100000 in
theorem ct_X11_tyres (M : jm_M) (l1 l2 l3 : Int) (hl1 : jm_in l1) (hl2 : jm_in l2) (hl3 : jm_in l3) : jm_Ci wd1 yX11_tyres cX11_tyres 5 (some .int) rmX11_tyres M (fun G ad => [.ref (ad (jm_r wd1 0 0)), jm_i l1, jm_i l2, jm_i l3]) (fX11_tyres M l1 l2 l3) := by
  refine jm_met_i (fun X => [(0, jm_vr wd1 X 0 0), (1, jm_i l1), (2, jm_i l2), (3, jm_i l3)]) (by decide) (fun _ _ => (Nat.le_of_ble_eq_true rfl)) (fun _ => rfl) (fun X => ?_)
  unfold fX11_tyres
  refine j_iload_n (pc := 0) dX11_tyres_0 rfl (q := 1) rfl ?_
  refine j_iconst (pc := 1) dX11_tyres_1 ?_
  refine j_callSi2 (pc := 2) (ct_X11_isIndex M l1 4 hl1 (jm_inL (by decide) (by decide))) kg_572 km_X11_isIndex kg_562 rfl rfl ⟨(Nat.le_of_ble_eq_true rfl), (Nat.le_of_ble_eq_true rfl)⟩ rfl rfl (Nat.le_of_ble_eq_true rfl) dX11_tyres_2 (fun v1 M2 h3 => ?_)
  refine j_if_eq (tgt := 30) (pc := 5) h3 dX11_tyres_5 (by decide) (fun c4 => ?_) (fun c4 => ?_)
  · skip
    refine j_iconst (pc := 30) dX11_tyres_30 ?_
    exact j_iret (pc := 31) (jm_inL (by decide) (by decide)) rfl dX11_tyres_31
  · skip
    refine j_iload_n (pc := 8) dX11_tyres_8 rfl (q := 2) rfl ?_
    refine j_bipush (pc := 9) 6 dX11_tyres_9 (by decide) ?_
    refine j_callSi2 (pc := 11) (ct_X11_isIndex M2 l2 6 hl2 (jm_inL (by decide) (by decide))) kg_572 km_X11_isIndex kg_562 rfl rfl ⟨(Nat.le_of_ble_eq_true rfl), (Nat.le_of_ble_eq_true rfl)⟩ rfl rfl (Nat.le_of_ble_eq_true rfl) dX11_tyres_11 (fun v5 M6 h7 => ?_)
    refine j_if_eq (tgt := 30) (pc := 14) h7 dX11_tyres_14 (by decide) (fun c8 => ?_) (fun c8 => ?_)
    · skip
      refine j_iconst (pc := 30) dX11_tyres_30 ?_
      exact j_iret (pc := 31) (jm_inL (by decide) (by decide)) rfl dX11_tyres_31
    · skip
      refine j_iload_n (pc := 17) dX11_tyres_17 rfl (q := 3) rfl ?_
      refine j_iconst (pc := 18) dX11_tyres_18 ?_
      refine j_gsta (pc := 19) 4 (by decide) kg_573 dX11_tyres_19 ?_
      refine j_iload_n (pc := 22) dX11_tyres_22 rfl (q := 2) rfl ?_
      refine j_tald (pc := 23) (by decide) (by decide) (by decide) dX11_tyres_23 (fun c9 => ?_)
      refine j_callSi3 (pc := 24) (ct_X11_isWithin M6 l3 0 (jm_z 4 l2) hl3 (jm_inL (by decide) (by decide)) (jm_z_in _ _)) kg_565 km_X11_isWithin kg_566 rfl rfl ⟨(Nat.le_of_ble_eq_true rfl), (Nat.le_of_ble_eq_true rfl)⟩ rfl rfl (Nat.le_of_ble_eq_true rfl) dX11_tyres_24 (fun v10 M11 h12 => ?_)
      refine j_if_ne (tgt := 32) (pc := 27) h12 dX11_tyres_27 (by decide) (fun c13 => ?_) (fun c13 => ?_)
      · skip
        refine j_iconst (pc := 30) dX11_tyres_30 ?_
        exact j_iret (pc := 31) (jm_inL (by decide) (by decide)) rfl dX11_tyres_31
      · skip
        refine j_aload_n (pc := 32) dX11_tyres_32 rfl (q := 0) rfl ?_
        refine j_getr (pc := 33) jv1_0 jm_01 kf_RX11_15 0 kg1_0_0 rfl dX11_tyres_33 ?_
        refine j_iload_n (pc := 36) dX11_tyres_36 rfl (q := 1) rfl ?_
        refine j_iload_n (pc := 37) dX11_tyres_37 rfl (q := 2) rfl ?_
        refine j_callVi2 (pc := 38) (ct_X9_tyreNumber M11 l1 l2 hl1 hl2) kg_575 km_X9_tyreNumber kv_X9_tyreNumber rfl rfl ⟨(Nat.le_of_ble_eq_true rfl), (Nat.le_of_ble_eq_true rfl)⟩ jv1_1 jm_01 ko1_1 rfl rfl (Nat.le_of_ble_eq_true rfl) dX11_tyres_38 (fun v14 M15 h16 => ?_)
        refine j_istore (pc := 41) [(4, jm_i v14), (0, jm_vr wd1 X 0 0), (1, jm_i l1), (2, jm_i l2), (3, jm_i l3)] dX11_tyres_41 (by decide) rfl ?_
        refine j_aload_n (pc := 43) dX11_tyres_43 rfl (q := 1) rfl ?_
        refine j_getr (pc := 44) jv1_0 jm_01 kf_RX11_15 0 kg1_0_0 rfl dX11_tyres_44 ?_
        refine j_getr (pc := 47) jv1_1 jm_01 kf_RX11_126 0 kg1_1_5 rfl dX11_tyres_47 ?_
        refine j_iload_n (pc := 50) dX11_tyres_50 rfl (q := 2) rfl ?_
        refine j_bipush (pc := 51) 6 dX11_tyres_51 (by decide) ?_
        refine j_imul (pc := 53) dX11_tyres_53 ?_
        refine j_iload_n (pc := 54) dX11_tyres_54 rfl (q := 3) rfl ?_
        refine j_iadd (pc := 55) dX11_tyres_55 ?_
        refine j_iload_n (pc := 56) dX11_tyres_56 rfl (q := 4) rfl ?_
        refine j_iast (pc := 57) jv1_17 jm_01 rfl (by decide) wI1 ka1_17 hl3 dX11_tyres_57 (fun c17 M18 => ?_)
        refine j_aload_n (pc := 58) dX11_tyres_58 rfl (q := 1) rfl ?_
        refine j_getr (pc := 59) jv1_0 jm_01 kf_RX11_24 0 kg1_0_1 rfl dX11_tyres_59 ?_
        refine j_iconst (pc := 62) dX11_tyres_62 ?_
        refine j_put (pc := 63) jv1_2 jm_01 kf_RX11_84 wI1 kp_X2_7 kx1_2_7 (jm_inL (by decide) (by decide)) rfl rfl dX11_tyres_63 (fun M19 => ?_)
        refine j_iload (pc := 66) dX11_tyres_66 (q := 0) rfl ?_
        exact j_iret (pc := 68) h16 rfl dX11_tyres_68
abbrev rmX11_set : Room := { frames := 1, cells := 0, slots := 0, locals := 22 }
set_option maxHeartbeats 4000000 in
set_option maxRecDepth 100000 in
theorem ct_X11_set (M : jm_M) (l1 l2 : Int) (hl1 : jm_in l1) (hl2 : jm_in l2) : jm_Ci wd1 yX11_set cX11_set 4 (some .int) rmX11_set M (fun G ad => [.ref (ad (jm_r wd1 0 0)), jm_i l1, jm_i l2]) (fX11_set M l1 l2) := by
  refine jm_met_i (fun X => [(0, jm_vr wd1 X 0 0), (1, jm_i l1), (2, jm_i l2)]) (by decide) (fun _ _ => (Nat.le_of_ble_eq_true rfl)) (fun _ => rfl) (fun X => ?_)
  unfold fX11_set
  refine j_iload_n (pc := 0) dX11_set_0 rfl (q := 1) rfl ?_
  refine j_bipush (pc := 1) 8 dX11_set_1 (by decide) ?_
  refine j_callSi2 (pc := 3) (ct_X11_isIndex M l1 8 hl1 (jm_inL (by decide) (by decide))) kg_572 km_X11_isIndex kg_562 rfl rfl ⟨(Nat.le_of_ble_eq_true rfl), (Nat.le_of_ble_eq_true rfl)⟩ rfl rfl (Nat.le_of_ble_eq_true rfl) dX11_set_3 (fun v1 M2 h3 => ?_)
  refine j_if_eq (tgt := 26) (pc := 6) h3 dX11_set_6 (by decide) (fun c4 => ?_) (fun c4 => ?_)
  · skip
    refine j_iconst (pc := 26) dX11_set_26 ?_
    exact j_iret (pc := 27) (jm_inL (by decide) (by decide)) rfl dX11_set_27
  · skip
    refine j_iload_n (pc := 9) dX11_set_9 rfl (q := 2) rfl ?_
    refine j_gsta (pc := 10) 1 (by decide) kg_583 dX11_set_10 ?_
    refine j_iload_n (pc := 13) dX11_set_13 rfl (q := 1) rfl ?_
    refine j_tald (pc := 14) (by decide) (by decide) (by decide) dX11_set_14 (fun c5 => ?_)
    refine j_gsta (pc := 15) 2 (by decide) kg_585 dX11_set_15 ?_
    refine j_iload_n (pc := 18) dX11_set_18 rfl (q := 1) rfl ?_
    refine j_tald (pc := 19) (by decide) (by decide) (by decide) dX11_set_19 (fun c6 => ?_)
    refine j_callSi3 (pc := 20) (ct_X11_isWithin M2 l2 (jm_z 1 l1) (jm_z 2 l1) hl2 (jm_z_in _ _) (jm_z_in _ _)) kg_565 km_X11_isWithin kg_566 rfl rfl ⟨(Nat.le_of_ble_eq_true rfl), (Nat.le_of_ble_eq_true rfl)⟩ rfl rfl (Nat.le_of_ble_eq_true rfl) dX11_set_20 (fun v7 M8 h9 => ?_)
    refine j_if_ne (tgt := 28) (pc := 23) h9 dX11_set_23 (by decide) (fun c10 => ?_) (fun c10 => ?_)
    · skip
      refine j_iconst (pc := 26) dX11_set_26 ?_
      exact j_iret (pc := 27) (jm_inL (by decide) (by decide)) rfl dX11_set_27
    · skip
      refine j_aload_n (pc := 28) dX11_set_28 rfl (q := 0) rfl ?_
      refine j_getr (pc := 29) jv1_0 jm_01 kf_RX11_15 0 kg1_0_0 rfl dX11_set_29 ?_
      refine j_getr (pc := 32) jv1_1 jm_01 kf_RX11_135 0 kg1_1_6 rfl dX11_set_32 ?_
      refine j_iload_n (pc := 35) dX11_set_35 rfl (q := 1) rfl ?_
      refine j_iald (pc := 36) jv1_18 jm_01 rfl (by decide) ka1_18 dX11_set_36 (fun c11 h12 => ?_)
      refine j_nm (pc := 37) h12 (fun v13 h14 => ?_)
      refine j_istore_n (pc := 37) [(3, jm_i v13), (0, jm_vr wd1 X 0 0), (1, jm_i l1), (2, jm_i l2)] dX11_set_37 rfl (by decide) rfl ?_
      refine j_aload_n (pc := 38) dX11_set_38 rfl (q := 1) rfl ?_
      refine j_getr (pc := 39) jv1_0 jm_01 kf_RX11_15 0 kg1_0_0 rfl dX11_set_39 ?_
      refine j_getr (pc := 42) jv1_1 jm_01 kf_RX11_135 0 kg1_1_6 rfl dX11_set_42 ?_
      refine j_iload_n (pc := 45) dX11_set_45 rfl (q := 2) rfl ?_
      refine j_iload_n (pc := 46) dX11_set_46 rfl (q := 3) rfl ?_
      refine j_iast (pc := 47) jv1_18 jm_01 rfl (by decide) wI1 ka1_18 hl2 dX11_set_47 (fun c15 M16 => ?_)
      refine j_aload_n (pc := 48) dX11_set_48 rfl (q := 1) rfl ?_
      refine j_getr (pc := 49) jv1_0 jm_01 kf_RX11_24 0 kg1_0_1 rfl dX11_set_49 ?_
      refine j_iconst (pc := 52) dX11_set_52 ?_
      refine j_put (pc := 53) jv1_2 jm_01 kf_RX11_84 wI1 kp_X2_7 kx1_2_7 (jm_inL (by decide) (by decide)) rfl rfl dX11_set_53 (fun M17 => ?_)
      refine j_iload_n (pc := 56) dX11_set_56 rfl (q := 0) rfl ?_
      exact j_iret (pc := 57) h14 rfl dX11_set_57
abbrev rmX7_isFull : Room := { frames := 0, cells := 0, slots := 0, locals := 0 }
set_option maxHeartbeats 4000000 in
set_option maxRecDepth 100000 in
theorem ct_X7_isFull (M : jm_M) (r0 : Int) (gr0 : 0 ≤ r0 ∧ r0 < 33) : jm_Ci wd1 yX7_isFull cX7_isFull 1 (some .boolean) rmX7_isFull M (fun G ad => [.ref (ad (jm_r wd1 10 r0))]) (fX7_isFull M r0) := by
  refine jm_met_i (fun X => [(0, jm_vr wd1 X 10 r0)]) (by decide) (fun _ _ => (Nat.le_of_ble_eq_true rfl)) (fun _ => rfl) (fun X => ?_)
  unfold fX7_isFull
  refine j_aload_n (pc := 0) dX7_isFull_0 rfl (q := 0) rfl ?_
  refine j_geti (pc := 1) jv1_10 gr0 kf_RX7_28 kg1_10_3 dX7_isFull_1 (fun h1 => ?_)
  refine j_aload_n (pc := 4) dX7_isFull_4 rfl (q := 0) rfl ?_
  refine j_geti (pc := 5) jv1_10 gr0 kf_RX7_9 kg1_10_0 dX7_isFull_5 (fun h2 => ?_)
  refine j_icmp_lt (tgt := 15) (pc := 8) h1 h2 dX7_isFull_8 (by decide) (fun c3 => ?_) (fun c3 => ?_)
  · skip
    refine j_iconst (pc := 15) dX7_isFull_15 ?_
    exact j_iret (pc := 16) (jm_inL (by decide) (by decide)) rfl dX7_isFull_16
  · skip
    refine j_iconst (pc := 11) dX7_isFull_11 ?_
    refine j_goto (tgt := 16) (pc := 12) dX7_isFull_12 (by decide) ?_
    exact j_iret (pc := 16) (jm_inL (by decide) (by decide)) rfl dX7_isFull_16
abbrev rmX7_put : Room := { frames := 0, cells := 0, slots := 0, locals := 0 }
set_option maxHeartbeats 4000000 in
set_option maxRecDepth 100000 in
theorem ct_X7_put (M : jm_M) (r0 l1 l2 l3 : Int) (gr0 : 0 ≤ r0 ∧ r0 < 33) (hl1 : jm_in l1) (hl2 : jm_in l2) (hl3 : jm_in l3) : jm_Cv wd1 yX7_put cX7_put 4 none rmX7_put M (fun G ad => [.ref (ad (jm_r wd1 10 r0)), jm_i l1, jm_i l2, jm_i l3]) (fX7_put M r0 l1 l2 l3) := by
  refine jm_met_v (fun X => [(0, jm_vr wd1 X 10 r0), (1, jm_i l1), (2, jm_i l2), (3, jm_i l3)]) (by decide) (fun _ _ => (Nat.le_of_ble_eq_true rfl)) (fun _ => rfl) (fun X => ?_)
  unfold fX7_put
  refine j_iload_n (pc := 0) dX7_put_0 rfl (q := 1) rfl ?_
  refine j_if_lt (tgt := 38) (pc := 1) hl1 dX7_put_1 (by decide) (fun c1 => ?_) (fun c1 => ?_)
  · skip
    exact j_vret (pc := 38) dX7_put_38
  · skip
    refine j_iload_n (pc := 4) dX7_put_4 rfl (q := 1) rfl ?_
    refine j_aload_n (pc := 5) dX7_put_5 rfl (q := 0) rfl ?_
    refine j_geti (pc := 6) jv1_10 gr0 kf_RX7_28 kg1_10_3 dX7_put_6 (fun h2 => ?_)
    refine j_icmp_ge (tgt := 38) (pc := 9) hl1 h2 dX7_put_9 (by decide) (fun c3 => ?_) (fun c3 => ?_)
    · skip
      exact j_vret (pc := 38) dX7_put_38
    · skip
      refine j_iload_n (pc := 12) dX7_put_12 rfl (q := 2) rfl ?_
      refine j_if_lt (tgt := 38) (pc := 13) hl2 dX7_put_13 (by decide) (fun c4 => ?_) (fun c4 => ?_)
      · skip
        exact j_vret (pc := 38) dX7_put_38
      · skip
        refine j_iload_n (pc := 16) dX7_put_16 rfl (q := 2) rfl ?_
        refine j_aload_n (pc := 17) dX7_put_17 rfl (q := 0) rfl ?_
        refine j_geti (pc := 18) jv1_10 gr0 kf_RX7_15 kg1_10_1 dX7_put_18 (fun h5 => ?_)
        refine j_icmp_ge (tgt := 38) (pc := 21) hl2 h5 dX7_put_21 (by decide) (fun c6 => ?_) (fun c6 => ?_)
        · skip
          exact j_vret (pc := 38) dX7_put_38
        · skip
          refine j_aload_n (pc := 24) dX7_put_24 rfl (q := 0) rfl ?_
          refine j_getr (pc := 25) jv1_10 gr0 kf_RX7_24 r0 kg1_10_2 rfl dX7_put_25 ?_
          refine j_iload_n (pc := 28) dX7_put_28 rfl (q := 1) rfl ?_
          refine j_aload_n (pc := 29) dX7_put_29 rfl (q := 0) rfl ?_
          refine j_geti (pc := 30) jv1_10 gr0 kf_RX7_15 kg1_10_1 dX7_put_30 (fun h7 => ?_)
          refine j_imul (pc := 33) dX7_put_33 ?_
          refine j_iload_n (pc := 34) dX7_put_34 rfl (q := 2) rfl ?_
          refine j_iadd (pc := 35) dX7_put_35 ?_
          refine j_iload_n (pc := 36) dX7_put_36 rfl (q := 3) rfl ?_
          refine j_iast (pc := 37) jv1_19 (by omega) rfl (jm_lenC _) wI1 ka1_19 hl3 dX7_put_37 (fun c8 M9 => ?_)
          exact j_vret (pc := 38) dX7_put_38
abbrev rmX7_push : Room := { frames := 1, cells := 0, slots := 0, locals := 23 }
set_option maxHeartbeats 4000000 in
set_option maxRecDepth 100000 in
theorem ct_X7_push (M : jm_M) (r0 l1 l2 l3 l4 : Int) (gr0 : 0 ≤ r0 ∧ r0 < 33) (hl1 : jm_in l1) (hl2 : jm_in l2) (hl3 : jm_in l3) (hl4 : jm_in l4) : jm_Ci wd1 yX7_push cX7_push 5 (some .int) rmX7_push M (fun G ad => [.ref (ad (jm_r wd1 10 r0)), jm_i l1, jm_i l2, jm_i l3, jm_i l4]) (fX7_push M r0 l1 l2 l3 l4) := by
  refine jm_met_i (fun X => [(0, jm_vr wd1 X 10 r0), (1, jm_i l1), (2, jm_i l2), (3, jm_i l3), (4, jm_i l4)]) (by decide) (fun _ _ => (Nat.le_of_ble_eq_true rfl)) (fun _ => rfl) (fun X => ?_)
  unfold fX7_push
  refine j_aload_n (pc := 0) dX7_push_0 rfl (q := 0) rfl ?_
  refine j_callVi0 (pc := 1) (ct_X7_isFull M r0 gr0) kg_595 km_X7_isFull kv_X7_isFull rfl rfl ⟨(Nat.le_of_ble_eq_true rfl), (Nat.le_of_ble_eq_true rfl)⟩ jv1_10 gr0 ko1_10 rfl rfl (Nat.le_of_ble_eq_true rfl) dX7_push_1 (fun v1 M2 h3 => ?_)
  refine j_if_eq (tgt := 9) (pc := 4) h3 dX7_push_4 (by decide) (fun c4 => ?_) (fun c4 => ?_)
  · skip
    refine j_aload_n (pc := 9) dX7_push_9 rfl (q := 0) rfl ?_
    refine j_dup (pc := 10) dX7_push_10 rfl ?_
    refine j_geti (pc := 11) jv1_10 gr0 kf_RX7_28 kg1_10_3 dX7_push_11 (fun h5 => ?_)
    refine j_iconst (pc := 14) dX7_push_14 ?_
    refine j_iadd (pc := 15) dX7_push_15 ?_
    refine j_put (pc := 16) jv1_10 gr0 kf_RX7_28 wI1 kp_X7_3 kx1_10_3 (jm_w_in _) rfl rfl dX7_push_16 (fun M6 => ?_)
    refine j_aload_n (pc := 19) dX7_push_19 rfl (q := 0) rfl ?_
    refine j_aload_n (pc := 20) dX7_push_20 rfl (q := 0) rfl ?_
    refine j_geti (pc := 21) jv1_10 gr0 kf_RX7_28 kg1_10_3 dX7_push_21 (fun h7 => ?_)
    refine j_iconst (pc := 24) dX7_push_24 ?_
    refine j_isub (pc := 25) dX7_push_25 ?_
    refine j_iconst (pc := 26) dX7_push_26 ?_
    refine j_iload_n (pc := 27) dX7_push_27 rfl (q := 1) rfl ?_
    refine j_callVv3 (pc := 28) (ct_X7_put M6 r0 (jm_w ((M6 10 r0 3) - 1)) 0 l1 gr0 (jm_w_in _) (jm_inL (by decide) (by decide)) hl1) kg_599 km_X7_put kv_X7_put rfl rfl ⟨(Nat.le_of_ble_eq_true rfl), (Nat.le_of_ble_eq_true rfl)⟩ jv1_10 gr0 ko1_10 rfl rfl (Nat.le_of_ble_eq_true rfl) dX7_push_28 (fun v8 M9 => ?_)
    refine j_aload_n (pc := 31) dX7_push_31 rfl (q := 0) rfl ?_
    refine j_aload_n (pc := 32) dX7_push_32 rfl (q := 0) rfl ?_
    refine j_geti (pc := 33) jv1_10 gr0 kf_RX7_28 kg1_10_3 dX7_push_33 (fun h10 => ?_)
    refine j_iconst (pc := 36) dX7_push_36 ?_
    refine j_isub (pc := 37) dX7_push_37 ?_
    refine j_iconst (pc := 38) dX7_push_38 ?_
    refine j_iload_n (pc := 39) dX7_push_39 rfl (q := 2) rfl ?_
    refine j_callVv3 (pc := 40) (ct_X7_put M9 r0 (jm_w ((M9 10 r0 3) - 1)) 1 l2 gr0 (jm_w_in _) (jm_inL (by decide) (by decide)) hl2) kg_599 km_X7_put kv_X7_put rfl rfl ⟨(Nat.le_of_ble_eq_true rfl), (Nat.le_of_ble_eq_true rfl)⟩ jv1_10 gr0 ko1_10 rfl rfl (Nat.le_of_ble_eq_true rfl) dX7_push_40 (fun v11 M12 => ?_)
    refine j_aload_n (pc := 43) dX7_push_43 rfl (q := 0) rfl ?_
    refine j_aload_n (pc := 44) dX7_push_44 rfl (q := 0) rfl ?_
    refine j_geti (pc := 45) jv1_10 gr0 kf_RX7_28 kg1_10_3 dX7_push_45 (fun h13 => ?_)
    refine j_iconst (pc := 48) dX7_push_48 ?_
    refine j_isub (pc := 49) dX7_push_49 ?_
    refine j_iconst (pc := 50) dX7_push_50 ?_
    refine j_iload_n (pc := 51) dX7_push_51 rfl (q := 3) rfl ?_
    refine j_callVv3 (pc := 52) (ct_X7_put M12 r0 (jm_w ((M12 10 r0 3) - 1)) 2 l3 gr0 (jm_w_in _) (jm_inL (by decide) (by decide)) hl3) kg_599 km_X7_put kv_X7_put rfl rfl ⟨(Nat.le_of_ble_eq_true rfl), (Nat.le_of_ble_eq_true rfl)⟩ jv1_10 gr0 ko1_10 rfl rfl (Nat.le_of_ble_eq_true rfl) dX7_push_52 (fun v14 M15 => ?_)
    refine j_aload_n (pc := 55) dX7_push_55 rfl (q := 0) rfl ?_
    refine j_aload_n (pc := 56) dX7_push_56 rfl (q := 0) rfl ?_
    refine j_geti (pc := 57) jv1_10 gr0 kf_RX7_28 kg1_10_3 dX7_push_57 (fun h16 => ?_)
    refine j_iconst (pc := 60) dX7_push_60 ?_
    refine j_isub (pc := 61) dX7_push_61 ?_
    refine j_iconst (pc := 62) dX7_push_62 ?_
    refine j_iload (pc := 63) dX7_push_63 (q := 4) rfl ?_
    refine j_callVv3 (pc := 65) (ct_X7_put M15 r0 (jm_w ((M15 10 r0 3) - 1)) 3 l4 gr0 (jm_w_in _) (jm_inL (by decide) (by decide)) hl4) kg_599 km_X7_put kv_X7_put rfl rfl ⟨(Nat.le_of_ble_eq_true rfl), (Nat.le_of_ble_eq_true rfl)⟩ jv1_10 gr0 ko1_10 rfl rfl (Nat.le_of_ble_eq_true rfl) dX7_push_65 (fun v17 M18 => ?_)
    refine j_aload_n (pc := 68) dX7_push_68 rfl (q := 0) rfl ?_
    refine j_geti (pc := 69) jv1_10 gr0 kf_RX7_28 kg1_10_3 dX7_push_69 (fun h19 => ?_)
    exact j_iret (pc := 72) h19 rfl dX7_push_72
  · skip
    refine j_iconst (pc := 7) dX7_push_7 ?_
    exact j_iret (pc := 8) (jm_inL (by decide) (by decide)) rfl dX7_push_8
abbrev rmX11_rain : Room := { frames := 2, cells := 0, slots := 0, locals := 47 }
set_option maxHeartbeats 4000000 in
set_option maxRecDepth 100000 in
theorem ct_X11_rain (M : jm_M) (l1 l2 l3 : Int) (hl1 : jm_in l1) (hl2 : jm_in l2) (hl3 : jm_in l3) : jm_Ci wd1 yX11_rain cX11_rain 4 (some .int) rmX11_rain M (fun G ad => [.ref (ad (jm_r wd1 0 0)), jm_i l1, jm_i l2, jm_i l3]) (fX11_rain M l1 l2 l3) := by
  refine jm_met_i (fun X => [(0, jm_vr wd1 X 0 0), (1, jm_i l1), (2, jm_i l2), (3, jm_i l3)]) (by decide) (fun _ _ => (Nat.le_of_ble_eq_true rfl)) (fun _ => rfl) (fun X => ?_)
  unfold fX11_rain
  refine j_aload_n (pc := 0) dX11_rain_0 rfl (q := 0) rfl ?_
  refine j_getr (pc := 1) jv1_0 jm_01 kf_RX11_15 0 kg1_0_0 rfl dX11_rain_1 ?_
  refine j_iload_n (pc := 4) dX11_rain_4 rfl (q := 1) rfl ?_
  refine j_callVi1 (pc := 5) (ct_X9_hasSector M l1 hl1) kg_557 km_X9_hasSector kv_X9_hasSector rfl rfl ⟨(Nat.le_of_ble_eq_true rfl), (Nat.le_of_ble_eq_true rfl)⟩ jv1_1 jm_01 ko1_1 rfl rfl (Nat.le_of_ble_eq_true rfl) dX11_rain_5 (fun v1 M2 h3 => ?_)
  refine j_if_eq (tgt := 25) (pc := 8) h3 dX11_rain_8 (by decide) (fun c4 => ?_) (fun c4 => ?_)
  · skip
    refine j_iconst (pc := 25) dX11_rain_25 ?_
    exact j_iret (pc := 26) (jm_inL (by decide) (by decide)) rfl dX11_rain_26
  · skip
    refine j_iload_n (pc := 11) dX11_rain_11 rfl (q := 2) rfl ?_
    refine j_if_lt (tgt := 25) (pc := 12) hl2 dX11_rain_12 (by decide) (fun c5 => ?_) (fun c5 => ?_)
    · skip
      refine j_iconst (pc := 25) dX11_rain_25 ?_
      exact j_iret (pc := 26) (jm_inL (by decide) (by decide)) rfl dX11_rain_26
    · skip
      refine j_iload_n (pc := 15) dX11_rain_15 rfl (q := 3) rfl ?_
      refine j_iconst (pc := 16) dX11_rain_16 ?_
      refine j_bipush (pc := 17) 100 dX11_rain_17 (by decide) ?_
      refine j_callSi3 (pc := 19) (ct_X11_isWithin M2 l3 0 100 hl3 (jm_inL (by decide) (by decide)) (jm_inL (by decide) (by decide))) kg_565 km_X11_isWithin kg_566 rfl rfl ⟨(Nat.le_of_ble_eq_true rfl), (Nat.le_of_ble_eq_true rfl)⟩ rfl rfl (Nat.le_of_ble_eq_true rfl) dX11_rain_19 (fun v6 M7 h8 => ?_)
      refine j_if_ne (tgt := 27) (pc := 22) h8 dX11_rain_22 (by decide) (fun c9 => ?_) (fun c9 => ?_)
      · skip
        refine j_iconst (pc := 25) dX11_rain_25 ?_
        exact j_iret (pc := 26) (jm_inL (by decide) (by decide)) rfl dX11_rain_26
      · skip
        refine j_aload_n (pc := 27) dX11_rain_27 rfl (q := 0) rfl ?_
        refine j_getr (pc := 28) jv1_0 jm_01 kf_RX11_24 0 kg1_0_1 rfl dX11_rain_28 ?_
        refine j_iconst (pc := 31) dX11_rain_31 ?_
        refine j_put (pc := 32) jv1_2 jm_01 kf_RX11_84 wI1 kp_X2_7 kx1_2_7 (jm_inL (by decide) (by decide)) rfl rfl dX11_rain_32 (fun M10 => ?_)
        refine j_aload_n (pc := 35) dX11_rain_35 rfl (q := 0) rfl ?_
        refine j_getr (pc := 36) jv1_0 jm_01 kf_RX11_15 0 kg1_0_0 rfl dX11_rain_36 ?_
        refine j_getr (pc := 39) jv1_1 jm_01 kf_RX11_138 30 kg1_1_7 rfl dX11_rain_39 ?_
        refine j_iload_n (pc := 42) dX11_rain_42 rfl (q := 1) rfl ?_
        refine j_iload_n (pc := 43) dX11_rain_43 rfl (q := 2) rfl ?_
        refine j_iload_n (pc := 44) dX11_rain_44 rfl (q := 3) rfl ?_
        refine j_iconst (pc := 45) dX11_rain_45 ?_
        refine j_callVi4 (pc := 46) (ct_X7_push M10 30 l1 l2 l3 0 (by omega) hl1 hl2 hl3 (jm_inL (by decide) (by decide))) kg_591 km_X7_push kv_X7_push rfl rfl ⟨(Nat.le_of_ble_eq_true rfl), (Nat.le_of_ble_eq_true rfl)⟩ jv1_10 (by omega) ko1_10 rfl rfl (Nat.le_of_ble_eq_true rfl) dX11_rain_46 (fun v11 M12 h13 => ?_)
        exact j_iret (pc := 49) h13 rfl dX11_rain_49
abbrev rmX11_flag : Room := { frames := 2, cells := 0, slots := 0, locals := 47 }
set_option maxHeartbeats 4000000 in
set_option maxRecDepth 100000 in
theorem bX11_flag_18 (X : jm_X) (fu : Nat) : ∀ (M : jm_M) (l1 l2 l3 l4 : Int) (hl1 : jm_in l1) (hl2 : jm_in l2) (hl3 : jm_in l3) (hl4 : jm_in l4), jm_J wd1 (jm_qi .int) cX11_flag 5 RX11 rmX11_flag X M [(0, jm_vr wd1 X 0 0), (1, jm_i l1), (2, jm_i l2), (3, jm_i l3), (4, jm_i l4)] [] 18 (gX11_flag_18 fu M l1 l2 l3 l4) := by
  intro M l1 l2 l3 l4 hl1 hl2 hl3 hl4
  unfold gX11_flag_18
  refine j_iload_n (pc := 18) dX11_flag_18 rfl (q := 2) rfl ?_
  refine j_if_lt (tgt := 37) (pc := 19) hl2 dX11_flag_19 (by decide) (fun c1 => ?_) (fun c1 => ?_)
  · skip
    refine j_iconst (pc := 37) dX11_flag_37 ?_
    exact j_iret (pc := 38) (jm_inL (by decide) (by decide)) rfl dX11_flag_38
  · skip
    refine j_iload_n (pc := 22) dX11_flag_22 rfl (q := 3) rfl ?_
    refine j_iload_n (pc := 23) dX11_flag_23 rfl (q := 2) rfl ?_
    refine j_icmp_lt (tgt := 37) (pc := 24) hl3 hl2 dX11_flag_24 (by decide) (fun c2 => ?_) (fun c2 => ?_)
    · skip
      refine j_iconst (pc := 37) dX11_flag_37 ?_
      exact j_iret (pc := 38) (jm_inL (by decide) (by decide)) rfl dX11_flag_38
    · skip
      refine j_iload (pc := 27) dX11_flag_27 (q := 4) rfl ?_
      refine j_iconst (pc := 29) dX11_flag_29 ?_
      refine j_iconst (pc := 30) dX11_flag_30 ?_
      refine j_callSi3 (pc := 31) (ct_X11_isWithin M l4 0 1 hl4 (jm_inL (by decide) (by decide)) (jm_inL (by decide) (by decide))) kg_565 km_X11_isWithin kg_566 rfl rfl ⟨(Nat.le_of_ble_eq_true rfl), (Nat.le_of_ble_eq_true rfl)⟩ rfl rfl (Nat.le_of_ble_eq_true rfl) dX11_flag_31 (fun v3 M4 h5 => ?_)
      refine j_if_ne (tgt := 39) (pc := 34) h5 dX11_flag_34 (by decide) (fun c6 => ?_) (fun c6 => ?_)
      · skip
        refine j_iconst (pc := 37) dX11_flag_37 ?_
        exact j_iret (pc := 38) (jm_inL (by decide) (by decide)) rfl dX11_flag_38
      · skip
        refine j_aload_n (pc := 39) dX11_flag_39 rfl (q := 0) rfl ?_
        refine j_getr (pc := 40) jv1_0 jm_01 kf_RX11_24 0 kg1_0_1 rfl dX11_flag_40 ?_
        refine j_iconst (pc := 43) dX11_flag_43 ?_
        refine j_put (pc := 44) jv1_2 jm_01 kf_RX11_84 wI1 kp_X2_7 kx1_2_7 (jm_inL (by decide) (by decide)) rfl rfl dX11_flag_44 (fun M7 => ?_)
        refine j_aload_n (pc := 47) dX11_flag_47 rfl (q := 0) rfl ?_
        refine j_getr (pc := 48) jv1_0 jm_01 kf_RX11_15 0 kg1_0_0 rfl dX11_flag_48 ?_
        refine j_getr (pc := 51) jv1_1 jm_01 kf_RX11_145 31 kg1_1_8 rfl dX11_flag_51 ?_
        refine j_iload_n (pc := 54) dX11_flag_54 rfl (q := 1) rfl ?_
        refine j_iload_n (pc := 55) dX11_flag_55 rfl (q := 2) rfl ?_
        refine j_iload_n (pc := 56) dX11_flag_56 rfl (q := 3) rfl ?_
        refine j_iload (pc := 57) dX11_flag_57 (q := 4) rfl ?_
        refine j_callVi4 (pc := 59) (ct_X7_push M7 31 l1 l2 l3 l4 (by omega) hl1 hl2 hl3 hl4) kg_591 km_X7_push kv_X7_push rfl rfl ⟨(Nat.le_of_ble_eq_true rfl), (Nat.le_of_ble_eq_true rfl)⟩ jv1_10 (by omega) ko1_10 rfl rfl (Nat.le_of_ble_eq_true rfl) dX11_flag_59 (fun v8 M9 h10 => ?_)
        exact j_iret (pc := 62) h10 rfl dX11_flag_62
set_option maxHeartbeats 4000000 in
set_option maxRecDepth 100000 in
theorem ct_X11_flag (fu : Nat) (M : jm_M) (l1 l2 l3 l4 : Int) (hl1 : jm_in l1) (hl2 : jm_in l2) (hl3 : jm_in l3) (hl4 : jm_in l4) : jm_Ci wd1 yX11_flag cX11_flag 5 (some .int) rmX11_flag M (fun G ad => [.ref (ad (jm_r wd1 0 0)), jm_i l1, jm_i l2, jm_i l3, jm_i l4]) (fX11_flag fu M l1 l2 l3 l4) := by
  refine jm_met_i (fun X => [(0, jm_vr wd1 X 0 0), (1, jm_i l1), (2, jm_i l2), (3, jm_i l3), (4, jm_i l4)]) (by decide) (fun _ _ => (Nat.le_of_ble_eq_true rfl)) (fun _ => rfl) (fun X => ?_)
  unfold fX11_flag
  refine j_iload_n (pc := 0) dX11_flag_0 rfl (q := 1) rfl ?_
  refine j_iconst (pc := 1) dX11_flag_1 ?_
  refine j_icmp_eq (tgt := 18) (pc := 2) hl1 (jm_inL (by decide) (by decide)) dX11_flag_2 (by decide) (fun c1 => ?_) (fun c1 => ?_)
  · skip
    refine j_sub (pc := 18) [(0, jm_vr wd1 X 0 0), (1, jm_i l1), (2, jm_i l2), (3, jm_i l3), (4, jm_i l4)] [0, 1, 2, 3, 4] rfl ?_
    exact bX11_flag_18 X fu  M l1 l2 l3 l4 hl1 hl2 hl3 hl4
  · skip
    refine j_aload_n (pc := 5) dX11_flag_5 rfl (q := 0) rfl ?_
    refine j_getr (pc := 6) jv1_0 jm_01 kf_RX11_15 0 kg1_0_0 rfl dX11_flag_6 ?_
    refine j_iload_n (pc := 9) dX11_flag_9 rfl (q := 1) rfl ?_
    refine j_callVi1 (pc := 10) (ct_X9_hasSector M l1 hl1) kg_557 km_X9_hasSector kv_X9_hasSector rfl rfl ⟨(Nat.le_of_ble_eq_true rfl), (Nat.le_of_ble_eq_true rfl)⟩ jv1_1 jm_01 ko1_1 rfl rfl (Nat.le_of_ble_eq_true rfl) dX11_flag_10 (fun v2 M3 h4 => ?_)
    refine j_if_ne (tgt := 18) (pc := 13) h4 dX11_flag_13 (by decide) (fun c5 => ?_) (fun c5 => ?_)
    · skip
      refine j_iconst (pc := 16) dX11_flag_16 ?_
      exact j_iret (pc := 17) (jm_inL (by decide) (by decide)) rfl dX11_flag_17
    · skip
      refine j_sub (pc := 18) [(0, jm_vr wd1 X 0 0), (1, jm_i l1), (2, jm_i l2), (3, jm_i l3), (4, jm_i l4)] [0, 1, 2, 3, 4] rfl ?_
      exact bX11_flag_18 X fu  M3 l1 l2 l3 l4 hl1 hl2 hl3 hl4
abbrev rmX1_forget : Room := { frames := 0, cells := 0, slots := 0, locals := 0 }
set_option maxHeartbeats 4000000 in
set_option maxRecDepth 100000 in
theorem ct_X1_forget (M : jm_M) (r0 : Int) (gr0 : 0 ≤ r0 ∧ r0 < 6) : jm_Cv wd1 yX1_forget cX1_forget 1 none rmX1_forget M (fun G ad => [.ref (ad (jm_r wd1 8 r0))]) (fX1_forget M r0) := by
  refine jm_met_v (fun X => [(0, jm_vr wd1 X 8 r0)]) (by decide) (fun _ _ => (Nat.le_of_ble_eq_true rfl)) (fun _ => rfl) (fun X => ?_)
  unfold fX1_forget
  refine j_aload_n (pc := 0) dX1_forget_0 rfl (q := 0) rfl ?_
  refine j_getr (pc := 1) jv1_8 gr0 kf_RX1_14 r0 kg1_8_6 rfl dX1_forget_1 ?_
  refine j_iconst (pc := 4) dX1_forget_4 ?_
  refine j_put (pc := 5) jv1_10 (by omega) kf_RX1_39 wI1 kp_X7_3 kx1_10_3 (jm_inL (by decide) (by decide)) rfl rfl dX1_forget_5 (fun M1 => ?_)
  refine j_aload_n (pc := 8) dX1_forget_8 rfl (q := 0) rfl ?_
  refine j_getr (pc := 9) jv1_8 gr0 kf_RX1_20 (r0 + 6) kg1_8_7 rfl dX1_forget_9 ?_
  refine j_iconst (pc := 12) dX1_forget_12 ?_
  refine j_put (pc := 13) jv1_10 (by omega) kf_RX1_39 wI1 kp_X7_3 kx1_10_3 (jm_inL (by decide) (by decide)) rfl rfl dX1_forget_13 (fun M2 => ?_)
  refine j_aload_n (pc := 16) dX1_forget_16 rfl (q := 0) rfl ?_
  refine j_getr (pc := 17) jv1_8 gr0 kf_RX1_23 (r0 + 12) kg1_8_8 rfl dX1_forget_17 ?_
  refine j_iconst (pc := 20) dX1_forget_20 ?_
  refine j_put (pc := 21) jv1_10 (by omega) kf_RX1_39 wI1 kp_X7_3 kx1_10_3 (jm_inL (by decide) (by decide)) rfl rfl dX1_forget_21 (fun M3 => ?_)
  refine j_aload_n (pc := 24) dX1_forget_24 rfl (q := 0) rfl ?_
  refine j_getr (pc := 25) jv1_8 gr0 kf_RX1_26 (r0 + 18) kg1_8_9 rfl dX1_forget_25 ?_
  refine j_iconst (pc := 28) dX1_forget_28 ?_
  refine j_put (pc := 29) jv1_10 (by omega) kf_RX1_39 wI1 kp_X7_3 kx1_10_3 (jm_inL (by decide) (by decide)) rfl rfl dX1_forget_29 (fun M4 => ?_)
  refine j_aload_n (pc := 32) dX1_forget_32 rfl (q := 0) rfl ?_
  refine j_iconst (pc := 33) dX1_forget_33 ?_
  refine j_put (pc := 34) jv1_8 gr0 kf_RX1_43 wI1 kp_X1_12 kx1_8_12 (jm_inL (by decide) (by decide)) rfl rfl dX1_forget_34 (fun M5 => ?_)
  refine j_aload_n (pc := 37) dX1_forget_37 rfl (q := 0) rfl ?_
  refine j_iconst (pc := 38) dX1_forget_38 ?_
  refine j_put (pc := 39) jv1_8 gr0 kf_RX1_47 wI1 kp_X1_13 kx1_8_13 (jm_inL (by decide) (by decide)) rfl rfl dX1_forget_39 (fun M6 => ?_)
  exact j_vret (pc := 42) dX1_forget_42
abbrev rmX11_car : Room := { frames := 1, cells := 0, slots := 0, locals := 22 }
set_option maxHeartbeats 4000000 in
set_option maxRecDepth 100000 in
theorem ct_X11_car (M : jm_M) (l1 l2 l3 l4 l5 l6 : Int) (hl1 : jm_in l1) (hl2 : jm_in l2) (hl3 : jm_in l3) (hl4 : jm_in l4) (hl5 : jm_in l5) (hl6 : jm_in l6) : jm_Ci wd1 yX11_car cX11_car 8 (some .int) rmX11_car M (fun G ad => [.ref (ad (jm_r wd1 0 0)), jm_i l1, jm_i l2, jm_i l3, jm_i l4, jm_i l5, jm_i l6]) (fX11_car M l1 l2 l3 l4 l5 l6) := by
  refine jm_met_i (fun X => [(0, jm_vr wd1 X 0 0), (1, jm_i l1), (2, jm_i l2), (3, jm_i l3), (4, jm_i l4), (5, jm_i l5), (6, jm_i l6)]) (by decide) (fun _ _ => (Nat.le_of_ble_eq_true rfl)) (fun _ => rfl) (fun X => ?_)
  unfold fX11_car
  refine j_iload_n (pc := 0) dX11_car_0 rfl (q := 1) rfl ?_
  refine j_sipush (pc := 1) (-2000) dX11_car_1 (by decide) ?_
  refine j_sipush (pc := 4) 2000 dX11_car_4 (by decide) ?_
  refine j_callSi3 (pc := 7) (ct_X11_isWithin M l1 (-2000) 2000 hl1 (jm_inL (by decide) (by decide)) (jm_inL (by decide) (by decide))) kg_565 km_X11_isWithin kg_566 rfl rfl ⟨(Nat.le_of_ble_eq_true rfl), (Nat.le_of_ble_eq_true rfl)⟩ rfl rfl (Nat.le_of_ble_eq_true rfl) dX11_car_7 (fun v1 M2 h3 => ?_)
  refine j_if_eq (tgt := 34) (pc := 10) h3 dX11_car_10 (by decide) (fun c4 => ?_) (fun c4 => ?_)
  · skip
    refine j_iconst (pc := 34) dX11_car_34 ?_
    exact j_iret (pc := 35) (jm_inL (by decide) (by decide)) rfl dX11_car_35
  · skip
    refine j_iload_n (pc := 13) dX11_car_13 rfl (q := 2) rfl ?_
    refine j_iconst (pc := 14) dX11_car_14 ?_
    refine j_sipush (pc := 15) 200 dX11_car_15 (by decide) ?_
    refine j_callSi3 (pc := 18) (ct_X11_isWithin M2 l2 1 200 hl2 (jm_inL (by decide) (by decide)) (jm_inL (by decide) (by decide))) kg_565 km_X11_isWithin kg_566 rfl rfl ⟨(Nat.le_of_ble_eq_true rfl), (Nat.le_of_ble_eq_true rfl)⟩ rfl rfl (Nat.le_of_ble_eq_true rfl) dX11_car_18 (fun v5 M6 h7 => ?_)
    refine j_if_eq (tgt := 34) (pc := 21) h7 dX11_car_21 (by decide) (fun c8 => ?_) (fun c8 => ?_)
    · skip
      refine j_iconst (pc := 34) dX11_car_34 ?_
      exact j_iret (pc := 35) (jm_inL (by decide) (by decide)) rfl dX11_car_35
    · skip
      refine j_iload_n (pc := 24) dX11_car_24 rfl (q := 3) rfl ?_
      refine j_iconst (pc := 25) dX11_car_25 ?_
      refine j_bipush (pc := 26) 9 dX11_car_26 (by decide) ?_
      refine j_callSi3 (pc := 28) (ct_X11_isWithin M6 l3 1 9 hl3 (jm_inL (by decide) (by decide)) (jm_inL (by decide) (by decide))) kg_565 km_X11_isWithin kg_566 rfl rfl ⟨(Nat.le_of_ble_eq_true rfl), (Nat.le_of_ble_eq_true rfl)⟩ rfl rfl (Nat.le_of_ble_eq_true rfl) dX11_car_28 (fun v9 M10 h11 => ?_)
      refine j_if_ne (tgt := 36) (pc := 31) h11 dX11_car_31 (by decide) (fun c12 => ?_) (fun c12 => ?_)
      · skip
        refine j_iconst (pc := 34) dX11_car_34 ?_
        exact j_iret (pc := 35) (jm_inL (by decide) (by decide)) rfl dX11_car_35
      · skip
        refine j_iload (pc := 36) dX11_car_36 (q := 4) rfl ?_
        refine j_iconst (pc := 38) dX11_car_38 ?_
        refine j_callSi2 (pc := 39) (ct_X11_isIndex M10 l4 4 hl4 (jm_inL (by decide) (by decide))) kg_572 km_X11_isIndex kg_562 rfl rfl ⟨(Nat.le_of_ble_eq_true rfl), (Nat.le_of_ble_eq_true rfl)⟩ rfl rfl (Nat.le_of_ble_eq_true rfl) dX11_car_39 (fun v13 M14 h15 => ?_)
        refine j_if_eq (tgt := 64) (pc := 42) h15 dX11_car_42 (by decide) (fun c16 => ?_) (fun c16 => ?_)
        · skip
          refine j_iconst (pc := 64) dX11_car_64 ?_
          exact j_iret (pc := 65) (jm_inL (by decide) (by decide)) rfl dX11_car_65
        · skip
          refine j_iload (pc := 45) dX11_car_45 (q := 5) rfl ?_
          refine j_iconst (pc := 47) dX11_car_47 ?_
          refine j_callSi2 (pc := 48) (ct_X11_isIndex M14 l5 2 hl5 (jm_inL (by decide) (by decide))) kg_572 km_X11_isIndex kg_562 rfl rfl ⟨(Nat.le_of_ble_eq_true rfl), (Nat.le_of_ble_eq_true rfl)⟩ rfl rfl (Nat.le_of_ble_eq_true rfl) dX11_car_48 (fun v17 M18 h19 => ?_)
          refine j_if_eq (tgt := 64) (pc := 51) h19 dX11_car_51 (by decide) (fun c20 => ?_) (fun c20 => ?_)
          · skip
            refine j_iconst (pc := 64) dX11_car_64 ?_
            exact j_iret (pc := 65) (jm_inL (by decide) (by decide)) rfl dX11_car_65
          · skip
            refine j_iload (pc := 54) dX11_car_54 (q := 6) rfl ?_
            refine j_iconst (pc := 56) dX11_car_56 ?_
            refine j_iload_n (pc := 57) dX11_car_57 rfl (q := 2) rfl ?_
            refine j_callSi3 (pc := 58) (ct_X11_isWithin M18 l6 0 l2 hl6 (jm_inL (by decide) (by decide)) hl2) kg_565 km_X11_isWithin kg_566 rfl rfl ⟨(Nat.le_of_ble_eq_true rfl), (Nat.le_of_ble_eq_true rfl)⟩ rfl rfl (Nat.le_of_ble_eq_true rfl) dX11_car_58 (fun v21 M22 h23 => ?_)
            refine j_if_ne (tgt := 66) (pc := 61) h23 dX11_car_61 (by decide) (fun c24 => ?_) (fun c24 => ?_)
            · skip
              refine j_iconst (pc := 64) dX11_car_64 ?_
              exact j_iret (pc := 65) (jm_inL (by decide) (by decide)) rfl dX11_car_65
            · skip
              refine j_aload_n (pc := 66) dX11_car_66 rfl (q := 0) rfl ?_
              refine j_getr (pc := 67) jv1_0 jm_01 kf_RX11_24 0 kg1_0_1 rfl dX11_car_67 ?_
              refine j_geti (pc := 70) jv1_2 jm_01 kf_RX11_80 kg1_2_5 dX11_car_70 (fun h25 => ?_)
              refine j_bipush (pc := 73) 6 dX11_car_73 (by decide) ?_
              refine j_callSi2 (pc := 75) (ct_X11_isIndex M22 (M22 2 0 5) 6 h25 (jm_inL (by decide) (by decide))) kg_572 km_X11_isIndex kg_562 rfl rfl ⟨(Nat.le_of_ble_eq_true rfl), (Nat.le_of_ble_eq_true rfl)⟩ rfl rfl (Nat.le_of_ble_eq_true rfl) dX11_car_75 (fun v26 M27 h28 => ?_)
              refine j_if_ne (tgt := 83) (pc := 78) h28 dX11_car_78 (by decide) (fun c29 => ?_) (fun c29 => ?_)
              · skip
                refine j_iconst (pc := 81) dX11_car_81 ?_
                exact j_iret (pc := 82) (jm_inL (by decide) (by decide)) rfl dX11_car_82
              · skip
                refine j_aload_n (pc := 83) dX11_car_83 rfl (q := 0) rfl ?_
                refine j_getr (pc := 84) jv1_0 jm_01 kf_RX11_24 0 kg1_0_1 rfl dX11_car_84 ?_
                refine j_getr (pc := 87) jv1_2 jm_01 kf_RX11_148 0 kg1_2_2 rfl dX11_car_87 ?_
                refine j_aload_n (pc := 90) dX11_car_90 rfl (q := 0) rfl ?_
                refine j_getr (pc := 91) jv1_0 jm_01 kf_RX11_24 0 kg1_0_1 rfl dX11_car_91 ?_
                refine j_geti (pc := 94) jv1_2 jm_01 kf_RX11_80 kg1_2_5 dX11_car_94 (fun h30 => ?_)
                refine j_aald (pc := 97) jv1_46 jm_01 (by decide) kr1_46 dX11_car_97 (fun c31 => ?_)
                refine j_astore (pc := 98) [(7, jm_vr wd1 X 8 (M27 2 0 5)), (0, jm_vr wd1 X 0 0), (1, jm_i l1), (2, jm_i l2), (3, jm_i l3), (4, jm_i l4), (5, jm_i l5), (6, jm_i l6)] dX11_car_98 (by decide) rfl ?_
                refine j_aload (pc := 100) dX11_car_100 (q := 0) rfl ?_
                refine j_callVv0 (pc := 102) (ct_X1_forget M27 (M27 2 0 5) (by omega)) kg_611 km_X1_forget kv_X1_forget rfl rfl ⟨(Nat.le_of_ble_eq_true rfl), (Nat.le_of_ble_eq_true rfl)⟩ jv1_8 (by omega) ko1_8 rfl rfl (Nat.le_of_ble_eq_true rfl) dX11_car_102 (fun v32 M33 => ?_)
                refine j_aload (pc := 105) dX11_car_105 (q := 0) rfl ?_
                refine j_iload_n (pc := 107) dX11_car_107 rfl (q := 2) rfl ?_
                refine j_put (pc := 108) jv1_8 (by omega) kf_RX11_157 wI1 kp_X1_0 kx1_8_0 hl1 rfl rfl dX11_car_108 (fun M34 => ?_)
                refine j_aload (pc := 111) dX11_car_111 (q := 0) rfl ?_
                refine j_iload_n (pc := 113) dX11_car_113 rfl (q := 3) rfl ?_
                refine j_put (pc := 114) jv1_8 (by omega) kf_RX11_160 wI1 kp_X1_1 kx1_8_1 hl2 rfl rfl dX11_car_114 (fun M35 => ?_)
                refine j_aload (pc := 117) dX11_car_117 (q := 0) rfl ?_
                refine j_iload_n (pc := 119) dX11_car_119 rfl (q := 4) rfl ?_
                refine j_put (pc := 120) jv1_8 (by omega) kf_RX11_163 wI1 kp_X1_2 kx1_8_2 hl3 rfl rfl dX11_car_120 (fun M36 => ?_)
                refine j_aload (pc := 123) dX11_car_123 (q := 0) rfl ?_
                refine j_iload (pc := 125) dX11_car_125 (q := 5) rfl ?_
                refine j_put (pc := 127) jv1_8 (by omega) kf_RX11_166 wI1 kp_X1_3 kx1_8_3 hl4 rfl rfl dX11_car_127 (fun M37 => ?_)
                refine j_aload (pc := 130) dX11_car_130 (q := 0) rfl ?_
                refine j_iload (pc := 132) dX11_car_132 (q := 6) rfl ?_
                refine j_put (pc := 134) jv1_8 (by omega) kf_RX11_169 wI1 kp_X1_4 kx1_8_4 hl5 rfl rfl dX11_car_134 (fun M38 => ?_)
                refine j_aload (pc := 137) dX11_car_137 (q := 0) rfl ?_
                refine j_iload (pc := 139) dX11_car_139 (q := 7) rfl ?_
                refine j_put (pc := 141) jv1_8 (by omega) kf_RX11_172 wI1 kp_X1_5 kx1_8_5 hl6 rfl rfl dX11_car_141 (fun M39 => ?_)
                refine j_aload_n (pc := 144) dX11_car_144 rfl (q := 1) rfl ?_
                refine j_getr (pc := 145) jv1_0 jm_01 kf_RX11_24 0 kg1_0_1 rfl dX11_car_145 ?_
                refine j_dup (pc := 148) dX11_car_148 rfl ?_
                refine j_geti (pc := 149) jv1_2 jm_01 kf_RX11_80 kg1_2_5 dX11_car_149 (fun h40 => ?_)
                refine j_iconst (pc := 152) dX11_car_152 ?_
                refine j_iadd (pc := 153) dX11_car_153 ?_
                refine j_put (pc := 154) jv1_2 jm_01 kf_RX11_80 wI1 kp_X2_5 kx1_2_5 (jm_w_in _) rfl rfl dX11_car_154 (fun M41 => ?_)
                refine j_aload_n (pc := 157) dX11_car_157 rfl (q := 1) rfl ?_
                refine j_getr (pc := 158) jv1_0 jm_01 kf_RX11_24 0 kg1_0_1 rfl dX11_car_158 ?_
                refine j_iconst (pc := 161) dX11_car_161 ?_
                refine j_put (pc := 162) jv1_2 jm_01 kf_RX11_84 wI1 kp_X2_7 kx1_2_7 (jm_inL (by decide) (by decide)) rfl rfl dX11_car_162 (fun M42 => ?_)
                refine j_aload_n (pc := 165) dX11_car_165 rfl (q := 1) rfl ?_
                refine j_getr (pc := 166) jv1_0 jm_01 kf_RX11_24 0 kg1_0_1 rfl dX11_car_166 ?_
                refine j_geti (pc := 169) jv1_2 jm_01 kf_RX11_80 kg1_2_5 dX11_car_169 (fun h43 => ?_)
                refine j_iconst (pc := 172) dX11_car_172 ?_
                refine j_isub (pc := 173) dX11_car_173 ?_
                exact j_iret (pc := 174) (jm_w_in _) rfl dX11_car_174
abbrev rmX2_has : Room := { frames := 1, cells := 0, slots := 0, locals := 21 }
set_option maxHeartbeats 4000000 in
set_option maxRecDepth 100000 in
theorem ct_X2_has (M : jm_M) (l1 : Int) (hl1 : jm_in l1) : jm_Ci wd1 yX2_has cX2_has 2 (some .boolean) rmX2_has M (fun G ad => [.ref (ad (jm_r wd1 2 0)), jm_i l1]) (fX2_has M l1) := by
  refine jm_met_i (fun X => [(0, jm_vr wd1 X 2 0), (1, jm_i l1)]) (by decide) (fun _ _ => (Nat.le_of_ble_eq_true rfl)) (fun _ => rfl) (fun X => ?_)
  unfold fX2_has
  refine j_iload_n (pc := 0) dX2_has_0 rfl (q := 1) rfl ?_
  refine j_aload_n (pc := 1) dX2_has_1 rfl (q := 0) rfl ?_
  refine j_geti (pc := 2) jv1_2 jm_01 kf_RX2_37 kg1_2_5 dX2_has_2 (fun h1 => ?_)
  refine j_callNi2 (pc := 5) (ct_X11_isIndex M l1 (M 2 0 5) hl1 h1) (host := "RaceByLaps") (by decide) km_X11_isIndex kg_562 rfl rfl ⟨(Nat.le_of_ble_eq_true rfl), (Nat.le_of_ble_eq_true rfl)⟩ rfl rfl (Nat.le_of_ble_eq_true rfl) dX2_has_5 (fun v2 M3 h4 => ?_)
  refine j_if_eq (tgt := 21) (pc := 8) h4 dX2_has_8 (by decide) (fun c5 => ?_) (fun c5 => ?_)
  · skip
    refine j_iconst (pc := 21) dX2_has_21 ?_
    exact j_iret (pc := 22) (jm_inL (by decide) (by decide)) rfl dX2_has_22
  · skip
    refine j_iload_n (pc := 11) dX2_has_11 rfl (q := 1) rfl ?_
    refine j_bipush (pc := 12) 6 dX2_has_12 (by decide) ?_
    refine j_icmp_ge (tgt := 21) (pc := 14) hl1 (jm_inL (by decide) (by decide)) dX2_has_14 (by decide) (fun c6 => ?_) (fun c6 => ?_)
    · skip
      refine j_iconst (pc := 21) dX2_has_21 ?_
      exact j_iret (pc := 22) (jm_inL (by decide) (by decide)) rfl dX2_has_22
    · skip
      refine j_iconst (pc := 17) dX2_has_17 ?_
      refine j_goto (tgt := 22) (pc := 18) dX2_has_18 (by decide) ?_
      exact j_iret (pc := 22) (jm_inL (by decide) (by decide)) rfl dX2_has_22
abbrev rmX11_tyre : Room := { frames := 2, cells := 0, slots := 0, locals := 47 }
set_option maxHeartbeats 4000000 in
set_option maxRecDepth 100000 in
theorem ct_X11_tyre (M : jm_M) (l1 l2 l3 : Int) (hl1 : jm_in l1) (hl2 : jm_in l2) (hl3 : jm_in l3) : jm_Ci wd1 yX11_tyre cX11_tyre 5 (some .int) rmX11_tyre M (fun G ad => [.ref (ad (jm_r wd1 0 0)), jm_i l1, jm_i l2, jm_i l3]) (fX11_tyre M l1 l2 l3) := by
  refine jm_met_i (fun X => [(0, jm_vr wd1 X 0 0), (1, jm_i l1), (2, jm_i l2), (3, jm_i l3)]) (by decide) (fun _ _ => (Nat.le_of_ble_eq_true rfl)) (fun _ => rfl) (fun X => ?_)
  unfold fX11_tyre
  refine j_aload_n (pc := 0) dX11_tyre_0 rfl (q := 0) rfl ?_
  refine j_getr (pc := 1) jv1_0 jm_01 kf_RX11_24 0 kg1_0_1 rfl dX11_tyre_1 ?_
  refine j_iload_n (pc := 4) dX11_tyre_4 rfl (q := 1) rfl ?_
  refine j_callVi1 (pc := 5) (ct_X2_has M l1 hl1) kg_619 km_X2_has kv_X2_has rfl rfl ⟨(Nat.le_of_ble_eq_true rfl), (Nat.le_of_ble_eq_true rfl)⟩ jv1_2 jm_01 ko1_2 rfl rfl (Nat.le_of_ble_eq_true rfl) dX11_tyre_5 (fun v1 M2 h3 => ?_)
  refine j_if_eq (tgt := 29) (pc := 8) h3 dX11_tyre_8 (by decide) (fun c4 => ?_) (fun c4 => ?_)
  · skip
    refine j_iconst (pc := 29) dX11_tyre_29 ?_
    exact j_iret (pc := 30) (jm_inL (by decide) (by decide)) rfl dX11_tyre_30
  · skip
    refine j_iload_n (pc := 11) dX11_tyre_11 rfl (q := 2) rfl ?_
    refine j_iconst (pc := 12) dX11_tyre_12 ?_
    refine j_callSi2 (pc := 13) (ct_X11_isIndex M2 l2 4 hl2 (jm_inL (by decide) (by decide))) kg_572 km_X11_isIndex kg_562 rfl rfl ⟨(Nat.le_of_ble_eq_true rfl), (Nat.le_of_ble_eq_true rfl)⟩ rfl rfl (Nat.le_of_ble_eq_true rfl) dX11_tyre_13 (fun v5 M6 h7 => ?_)
    refine j_if_eq (tgt := 29) (pc := 16) h7 dX11_tyre_16 (by decide) (fun c8 => ?_) (fun c8 => ?_)
    · skip
      refine j_iconst (pc := 29) dX11_tyre_29 ?_
      exact j_iret (pc := 30) (jm_inL (by decide) (by decide)) rfl dX11_tyre_30
    · skip
      refine j_iload_n (pc := 19) dX11_tyre_19 rfl (q := 3) rfl ?_
      refine j_iconst (pc := 20) dX11_tyre_20 ?_
      refine j_bipush (pc := 21) 100 dX11_tyre_21 (by decide) ?_
      refine j_callSi3 (pc := 23) (ct_X11_isWithin M6 l3 0 100 hl3 (jm_inL (by decide) (by decide)) (jm_inL (by decide) (by decide))) kg_565 km_X11_isWithin kg_566 rfl rfl ⟨(Nat.le_of_ble_eq_true rfl), (Nat.le_of_ble_eq_true rfl)⟩ rfl rfl (Nat.le_of_ble_eq_true rfl) dX11_tyre_23 (fun v9 M10 h11 => ?_)
      refine j_if_ne (tgt := 31) (pc := 26) h11 dX11_tyre_26 (by decide) (fun c12 => ?_) (fun c12 => ?_)
      · skip
        refine j_iconst (pc := 29) dX11_tyre_29 ?_
        exact j_iret (pc := 30) (jm_inL (by decide) (by decide)) rfl dX11_tyre_30
      · skip
        refine j_aload_n (pc := 31) dX11_tyre_31 rfl (q := 0) rfl ?_
        refine j_getr (pc := 32) jv1_0 jm_01 kf_RX11_24 0 kg1_0_1 rfl dX11_tyre_32 ?_
        refine j_getr (pc := 35) jv1_2 jm_01 kf_RX11_148 0 kg1_2_2 rfl dX11_tyre_35 ?_
        refine j_iload_n (pc := 38) dX11_tyre_38 rfl (q := 1) rfl ?_
        refine j_aald (pc := 39) jv1_46 jm_01 (by decide) kr1_46 dX11_tyre_39 (fun c13 => ?_)
        refine j_getr (pc := 40) jv1_8 (by omega) kf_RX11_178 l1 kg1_8_6 rfl dX11_tyre_40 ?_
        refine j_astore (pc := 43) [(4, jm_vr wd1 X 10 l1), (0, jm_vr wd1 X 0 0), (1, jm_i l1), (2, jm_i l2), (3, jm_i l3)] dX11_tyre_43 (by decide) rfl ?_
        refine j_aload (pc := 45) dX11_tyre_45 (q := 0) rfl ?_
        refine j_callVi0 (pc := 47) (ct_X7_isFull M10 l1 (by omega)) kg_624 km_X7_isFull kv_X7_isFull rfl rfl ⟨(Nat.le_of_ble_eq_true rfl), (Nat.le_of_ble_eq_true rfl)⟩ jv1_10 (by omega) ko1_10 rfl rfl (Nat.le_of_ble_eq_true rfl) dX11_tyre_47 (fun v14 M15 h16 => ?_)
        refine j_if_eq (tgt := 55) (pc := 50) h16 dX11_tyre_50 (by decide) (fun c17 => ?_) (fun c17 => ?_)
        · skip
          refine j_aload_n (pc := 55) dX11_tyre_55 rfl (q := 1) rfl ?_
          refine j_getr (pc := 56) jv1_0 jm_01 kf_RX11_24 0 kg1_0_1 rfl dX11_tyre_56 ?_
          refine j_iconst (pc := 59) dX11_tyre_59 ?_
          refine j_put (pc := 60) jv1_2 jm_01 kf_RX11_84 wI1 kp_X2_7 kx1_2_7 (jm_inL (by decide) (by decide)) rfl rfl dX11_tyre_60 (fun M18 => ?_)
          refine j_aload (pc := 63) dX11_tyre_63 (q := 0) rfl ?_
          refine j_iload_n (pc := 65) dX11_tyre_65 rfl (q := 3) rfl ?_
          refine j_iload_n (pc := 66) dX11_tyre_66 rfl (q := 4) rfl ?_
          refine j_iconst (pc := 67) dX11_tyre_67 ?_
          refine j_iconst (pc := 68) dX11_tyre_68 ?_
          refine j_callVi4 (pc := 69) (ct_X7_push M18 l1 l2 l3 0 0 (by omega) hl2 hl3 (jm_inL (by decide) (by decide)) (jm_inL (by decide) (by decide))) kg_591 km_X7_push kv_X7_push rfl rfl ⟨(Nat.le_of_ble_eq_true rfl), (Nat.le_of_ble_eq_true rfl)⟩ jv1_10 (by omega) ko1_10 rfl rfl (Nat.le_of_ble_eq_true rfl) dX11_tyre_69 (fun v19 M20 h21 => ?_)
          refine j_iconst (pc := 72) dX11_tyre_72 ?_
          refine j_isub (pc := 73) dX11_tyre_73 ?_
          exact j_iret (pc := 74) (jm_w_in _) rfl dX11_tyre_74
        · skip
          refine j_iconst (pc := 53) dX11_tyre_53 ?_
          exact j_iret (pc := 54) (jm_inL (by decide) (by decide)) rfl dX11_tyre_54
abbrev rmX11_order : Room := { frames := 2, cells := 0, slots := 0, locals := 47 }
set_option maxHeartbeats 4000000 in
set_option maxRecDepth 100000 in
theorem bX11_order_47 (X : jm_X) (fu : Nat) : ∀ (M : jm_M) (l1 l2 l3 l4 s0 s1 : Int) (hl1 : jm_in l1) (hl2 : jm_in l2) (hl3 : jm_in l3) (hl4 : jm_in l4) (hs0 : jm_in s0) (hs1 : jm_in s1), jm_J wd1 (jm_qi .int) cX11_order 5 RX11 rmX11_order X M [(0, jm_vr wd1 X 0 0), (1, jm_i l1), (2, jm_i l2), (3, jm_i l3), (4, jm_i l4)] [jm_i s0, jm_i s1] 47 (gX11_order_47 fu M l1 l2 l3 l4 s0 s1) := by
  intro M l1 l2 l3 l4 s0 s1 hl1 hl2 hl3 hl4 hs0 hs1
  unfold gX11_order_47
  refine j_iconst (pc := 47) dX11_order_47 ?_
  refine j_callSi3 (pc := 48) (ct_X11_isWithin M s1 s0 1 hs1 hs0 (jm_inL (by decide) (by decide))) kg_565 km_X11_isWithin kg_566 rfl rfl ⟨(Nat.le_of_ble_eq_true rfl), (Nat.le_of_ble_eq_true rfl)⟩ rfl rfl (Nat.le_of_ble_eq_true rfl) dX11_order_48 (fun v1 M2 h3 => ?_)
  refine j_if_ne (tgt := 56) (pc := 51) h3 dX11_order_51 (by decide) (fun c4 => ?_) (fun c4 => ?_)
  · skip
    refine j_iconst (pc := 54) dX11_order_54 ?_
    exact j_iret (pc := 55) (jm_inL (by decide) (by decide)) rfl dX11_order_55
  · skip
    refine j_aload_n (pc := 56) dX11_order_56 rfl (q := 0) rfl ?_
    refine j_getr (pc := 57) jv1_0 jm_01 kf_RX11_24 0 kg1_0_1 rfl dX11_order_57 ?_
    refine j_iconst (pc := 60) dX11_order_60 ?_
    refine j_put (pc := 61) jv1_2 jm_01 kf_RX11_84 wI1 kp_X2_7 kx1_2_7 (jm_inL (by decide) (by decide)) rfl rfl dX11_order_61 (fun M5 => ?_)
    refine j_aload_n (pc := 64) dX11_order_64 rfl (q := 0) rfl ?_
    refine j_getr (pc := 65) jv1_0 jm_01 kf_RX11_24 0 kg1_0_1 rfl dX11_order_65 ?_
    refine j_getr (pc := 68) jv1_2 jm_01 kf_RX11_148 0 kg1_2_2 rfl dX11_order_68 ?_
    refine j_iload_n (pc := 71) dX11_order_71 rfl (q := 1) rfl ?_
    refine j_aald (pc := 72) jv1_46 jm_01 (by decide) kr1_46 dX11_order_72 (fun c6 => ?_)
    refine j_getr (pc := 73) jv1_8 (by omega) kf_RX11_188 (l1 + 6) kg1_8_7 rfl dX11_order_73 ?_
    refine j_iload_n (pc := 76) dX11_order_76 rfl (q := 2) rfl ?_
    refine j_iload_n (pc := 77) dX11_order_77 rfl (q := 3) rfl ?_
    refine j_iload (pc := 78) dX11_order_78 (q := 4) rfl ?_
    refine j_iconst (pc := 80) dX11_order_80 ?_
    refine j_callVi4 (pc := 81) (ct_X7_push M5 (l1 + 6) l2 l3 l4 0 (by omega) hl2 hl3 hl4 (jm_inL (by decide) (by decide))) kg_591 km_X7_push kv_X7_push rfl rfl ⟨(Nat.le_of_ble_eq_true rfl), (Nat.le_of_ble_eq_true rfl)⟩ jv1_10 (by omega) ko1_10 rfl rfl (Nat.le_of_ble_eq_true rfl) dX11_order_81 (fun v7 M8 h9 => ?_)
    exact j_iret (pc := 84) h9 rfl dX11_order_84
set_option maxHeartbeats 4000000 in
set_option maxRecDepth 100000 in
theorem ct_X11_order (fu : Nat) (M : jm_M) (l1 l2 l3 l4 : Int) (hl1 : jm_in l1) (hl2 : jm_in l2) (hl3 : jm_in l3) (hl4 : jm_in l4) : jm_Ci wd1 yX11_order cX11_order 5 (some .int) rmX11_order M (fun G ad => [.ref (ad (jm_r wd1 0 0)), jm_i l1, jm_i l2, jm_i l3, jm_i l4]) (fX11_order fu M l1 l2 l3 l4) := by
  refine jm_met_i (fun X => [(0, jm_vr wd1 X 0 0), (1, jm_i l1), (2, jm_i l2), (3, jm_i l3), (4, jm_i l4)]) (by decide) (fun _ _ => (Nat.le_of_ble_eq_true rfl)) (fun _ => rfl) (fun X => ?_)
  unfold fX11_order
  refine j_aload_n (pc := 0) dX11_order_0 rfl (q := 0) rfl ?_
  refine j_getr (pc := 1) jv1_0 jm_01 kf_RX11_24 0 kg1_0_1 rfl dX11_order_1 ?_
  refine j_iload_n (pc := 4) dX11_order_4 rfl (q := 1) rfl ?_
  refine j_callVi1 (pc := 5) (ct_X2_has M l1 hl1) kg_619 km_X2_has kv_X2_has rfl rfl ⟨(Nat.le_of_ble_eq_true rfl), (Nat.le_of_ble_eq_true rfl)⟩ jv1_2 jm_01 ko1_2 rfl rfl (Nat.le_of_ble_eq_true rfl) dX11_order_5 (fun v1 M2 h3 => ?_)
  refine j_if_eq (tgt := 34) (pc := 8) h3 dX11_order_8 (by decide) (fun c4 => ?_) (fun c4 => ?_)
  · skip
    refine j_iconst (pc := 34) dX11_order_34 ?_
    exact j_iret (pc := 35) (jm_inL (by decide) (by decide)) rfl dX11_order_35
  · skip
    refine j_iload_n (pc := 11) dX11_order_11 rfl (q := 2) rfl ?_
    refine j_aload_n (pc := 12) dX11_order_12 rfl (q := 0) rfl ?_
    refine j_getr (pc := 13) jv1_0 jm_01 kf_RX11_15 0 kg1_0_0 rfl dX11_order_13 ?_
    refine j_geti (pc := 16) jv1_1 jm_01 kf_RX11_185 kg1_1_1 dX11_order_16 (fun h5 => ?_)
    refine j_callSi2 (pc := 19) (ct_X11_isIndex M2 l2 (M2 1 0 1) hl2 h5) kg_572 km_X11_isIndex kg_562 rfl rfl ⟨(Nat.le_of_ble_eq_true rfl), (Nat.le_of_ble_eq_true rfl)⟩ rfl rfl (Nat.le_of_ble_eq_true rfl) dX11_order_19 (fun v6 M7 h8 => ?_)
    refine j_if_eq (tgt := 34) (pc := 22) h8 dX11_order_22 (by decide) (fun c9 => ?_) (fun c9 => ?_)
    · skip
      refine j_iconst (pc := 34) dX11_order_34 ?_
      exact j_iret (pc := 35) (jm_inL (by decide) (by decide)) rfl dX11_order_35
    · skip
      refine j_iload_n (pc := 25) dX11_order_25 rfl (q := 3) rfl ?_
      refine j_iconst (pc := 26) dX11_order_26 ?_
      refine j_iconst (pc := 27) dX11_order_27 ?_
      refine j_callSi3 (pc := 28) (ct_X11_isWithin M7 l3 0 1 hl3 (jm_inL (by decide) (by decide)) (jm_inL (by decide) (by decide))) kg_565 km_X11_isWithin kg_566 rfl rfl ⟨(Nat.le_of_ble_eq_true rfl), (Nat.le_of_ble_eq_true rfl)⟩ rfl rfl (Nat.le_of_ble_eq_true rfl) dX11_order_28 (fun v10 M11 h12 => ?_)
      refine j_if_ne (tgt := 36) (pc := 31) h12 dX11_order_31 (by decide) (fun c13 => ?_) (fun c13 => ?_)
      · skip
        refine j_iconst (pc := 34) dX11_order_34 ?_
        exact j_iret (pc := 35) (jm_inL (by decide) (by decide)) rfl dX11_order_35
      · skip
        refine j_iload (pc := 36) dX11_order_36 (q := 4) rfl ?_
        refine j_iload_n (pc := 38) dX11_order_38 rfl (q := 3) rfl ?_
        refine j_if_ne (tgt := 46) (pc := 39) hl3 dX11_order_39 (by decide) (fun c14 => ?_) (fun c14 => ?_)
        · skip
          refine j_iconst (pc := 42) dX11_order_42 ?_
          refine j_goto (tgt := 47) (pc := 43) dX11_order_43 (by decide) ?_
          refine j_sub (pc := 47) [(0, jm_vr wd1 X 0 0), (1, jm_i l1), (2, jm_i l2), (3, jm_i l3), (4, jm_i l4)] [0, 1, 2, 3, 4] rfl ?_
          exact bX11_order_47 X fu  M11 l1 l2 l3 l4 (-1) l4 hl1 hl2 hl3 hl4 (jm_inL (by decide) (by decide)) hl4
        · skip
          refine j_iconst (pc := 46) dX11_order_46 ?_
          refine j_sub (pc := 47) [(0, jm_vr wd1 X 0 0), (1, jm_i l1), (2, jm_i l2), (3, jm_i l3), (4, jm_i l4)] [0, 1, 2, 3, 4] rfl ?_
          exact bX11_order_47 X fu  M11 l1 l2 l3 l4 0 l4 hl1 hl2 hl3 hl4 (jm_inL (by decide) (by decide)) hl4
abbrev rmX11_stop : Room := { frames := 2, cells := 0, slots := 0, locals := 47 }
set_option maxHeartbeats 4000000 in
set_option maxRecDepth 100000 in
theorem ct_X11_stop (M : jm_M) (l1 l2 l3 l4 : Int) (hl1 : jm_in l1) (hl2 : jm_in l2) (hl3 : jm_in l3) (hl4 : jm_in l4) : jm_Ci wd1 yX11_stop cX11_stop 5 (some .int) rmX11_stop M (fun G ad => [.ref (ad (jm_r wd1 0 0)), jm_i l1, jm_i l2, jm_i l3, jm_i l4]) (fX11_stop M l1 l2 l3 l4) := by
  refine jm_met_i (fun X => [(0, jm_vr wd1 X 0 0), (1, jm_i l1), (2, jm_i l2), (3, jm_i l3), (4, jm_i l4)]) (by decide) (fun _ _ => (Nat.le_of_ble_eq_true rfl)) (fun _ => rfl) (fun X => ?_)
  unfold fX11_stop
  refine j_aload_n (pc := 0) dX11_stop_0 rfl (q := 0) rfl ?_
  refine j_getr (pc := 1) jv1_0 jm_01 kf_RX11_24 0 kg1_0_1 rfl dX11_stop_1 ?_
  refine j_iload_n (pc := 4) dX11_stop_4 rfl (q := 1) rfl ?_
  refine j_callVi1 (pc := 5) (ct_X2_has M l1 hl1) kg_619 km_X2_has kv_X2_has rfl rfl ⟨(Nat.le_of_ble_eq_true rfl), (Nat.le_of_ble_eq_true rfl)⟩ jv1_2 jm_01 ko1_2 rfl rfl (Nat.le_of_ble_eq_true rfl) dX11_stop_5 (fun v1 M2 h3 => ?_)
  refine j_if_eq (tgt := 28) (pc := 8) h3 dX11_stop_8 (by decide) (fun c4 => ?_) (fun c4 => ?_)
  · skip
    refine j_iconst (pc := 28) dX11_stop_28 ?_
    exact j_iret (pc := 29) (jm_inL (by decide) (by decide)) rfl dX11_stop_29
  · skip
    refine j_iload_n (pc := 11) dX11_stop_11 rfl (q := 2) rfl ?_
    refine j_iconst (pc := 12) dX11_stop_12 ?_
    refine j_aload_n (pc := 13) dX11_stop_13 rfl (q := 0) rfl ?_
    refine j_getr (pc := 14) jv1_0 jm_01 kf_RX11_15 0 kg1_0_0 rfl dX11_stop_14 ?_
    refine j_geti (pc := 17) jv1_1 jm_01 kf_RX11_185 kg1_1_1 dX11_stop_17 (fun h5 => ?_)
    refine j_iconst (pc := 20) dX11_stop_20 ?_
    refine j_isub (pc := 21) dX11_stop_21 ?_
    refine j_callSi3 (pc := 22) (ct_X11_isWithin M2 l2 0 (jm_w ((M2 1 0 1) - 2)) hl2 (jm_inL (by decide) (by decide)) (jm_w_in _)) kg_565 km_X11_isWithin kg_566 rfl rfl ⟨(Nat.le_of_ble_eq_true rfl), (Nat.le_of_ble_eq_true rfl)⟩ rfl rfl (Nat.le_of_ble_eq_true rfl) dX11_stop_22 (fun v6 M7 h8 => ?_)
    refine j_if_ne (tgt := 30) (pc := 25) h8 dX11_stop_25 (by decide) (fun c9 => ?_) (fun c9 => ?_)
    · skip
      refine j_iconst (pc := 28) dX11_stop_28 ?_
      exact j_iret (pc := 29) (jm_inL (by decide) (by decide)) rfl dX11_stop_29
    · skip
      refine j_iload_n (pc := 30) dX11_stop_30 rfl (q := 3) rfl ?_
      refine j_iconst (pc := 31) dX11_stop_31 ?_
      refine j_iconst (pc := 32) dX11_stop_32 ?_
      refine j_callSi3 (pc := 33) (ct_X11_isWithin M7 l3 (-1) 3 hl3 (jm_inL (by decide) (by decide)) (jm_inL (by decide) (by decide))) kg_565 km_X11_isWithin kg_566 rfl rfl ⟨(Nat.le_of_ble_eq_true rfl), (Nat.le_of_ble_eq_true rfl)⟩ rfl rfl (Nat.le_of_ble_eq_true rfl) dX11_stop_33 (fun v10 M11 h12 => ?_)
      refine j_if_eq (tgt := 51) (pc := 36) h12 dX11_stop_36 (by decide) (fun c13 => ?_) (fun c13 => ?_)
      · skip
        refine j_iconst (pc := 51) dX11_stop_51 ?_
        exact j_iret (pc := 52) (jm_inL (by decide) (by decide)) rfl dX11_stop_52
      · skip
        refine j_iload (pc := 39) dX11_stop_39 (q := 4) rfl ?_
        refine j_iconst (pc := 41) dX11_stop_41 ?_
        refine j_sipush (pc := 42) 200 dX11_stop_42 (by decide) ?_
        refine j_callSi3 (pc := 45) (ct_X11_isWithin M11 l4 0 200 hl4 (jm_inL (by decide) (by decide)) (jm_inL (by decide) (by decide))) kg_565 km_X11_isWithin kg_566 rfl rfl ⟨(Nat.le_of_ble_eq_true rfl), (Nat.le_of_ble_eq_true rfl)⟩ rfl rfl (Nat.le_of_ble_eq_true rfl) dX11_stop_45 (fun v14 M15 h16 => ?_)
        refine j_if_ne (tgt := 53) (pc := 48) h16 dX11_stop_48 (by decide) (fun c17 => ?_) (fun c17 => ?_)
        · skip
          refine j_iconst (pc := 51) dX11_stop_51 ?_
          exact j_iret (pc := 52) (jm_inL (by decide) (by decide)) rfl dX11_stop_52
        · skip
          refine j_aload_n (pc := 53) dX11_stop_53 rfl (q := 0) rfl ?_
          refine j_getr (pc := 54) jv1_0 jm_01 kf_RX11_24 0 kg1_0_1 rfl dX11_stop_54 ?_
          refine j_iconst (pc := 57) dX11_stop_57 ?_
          refine j_put (pc := 58) jv1_2 jm_01 kf_RX11_84 wI1 kp_X2_7 kx1_2_7 (jm_inL (by decide) (by decide)) rfl rfl dX11_stop_58 (fun M18 => ?_)
          refine j_aload_n (pc := 61) dX11_stop_61 rfl (q := 0) rfl ?_
          refine j_getr (pc := 62) jv1_0 jm_01 kf_RX11_24 0 kg1_0_1 rfl dX11_stop_62 ?_
          refine j_getr (pc := 65) jv1_2 jm_01 kf_RX11_148 0 kg1_2_2 rfl dX11_stop_65 ?_
          refine j_iload_n (pc := 68) dX11_stop_68 rfl (q := 1) rfl ?_
          refine j_aald (pc := 69) jv1_46 jm_01 (by decide) kr1_46 dX11_stop_69 (fun c19 => ?_)
          refine j_getr (pc := 70) jv1_8 (by omega) kf_RX11_191 (l1 + 12) kg1_8_8 rfl dX11_stop_70 ?_
          refine j_iload_n (pc := 73) dX11_stop_73 rfl (q := 2) rfl ?_
          refine j_iload_n (pc := 74) dX11_stop_74 rfl (q := 3) rfl ?_
          refine j_iload (pc := 75) dX11_stop_75 (q := 4) rfl ?_
          refine j_iconst (pc := 77) dX11_stop_77 ?_
          refine j_callVi4 (pc := 78) (ct_X7_push M18 (l1 + 12) l2 l3 l4 0 (by omega) hl2 hl3 hl4 (jm_inL (by decide) (by decide))) kg_591 km_X7_push kv_X7_push rfl rfl ⟨(Nat.le_of_ble_eq_true rfl), (Nat.le_of_ble_eq_true rfl)⟩ jv1_10 (by omega) ko1_10 rfl rfl (Nat.le_of_ble_eq_true rfl) dX11_stop_78 (fun v20 M21 h22 => ?_)
          exact j_iret (pc := 81) h22 rfl dX11_stop_81
abbrev rmX7_cell : Room := { frames := 0, cells := 0, slots := 0, locals := 0 }
set_option maxHeartbeats 4000000 in
set_option maxRecDepth 100000 in
theorem ct_X7_cell (M : jm_M) (r0 l1 l2 : Int) (gr0 : 0 ≤ r0 ∧ r0 < 33) (hl1 : jm_in l1) (hl2 : jm_in l2) : jm_Ci wd1 yX7_cell cX7_cell 3 (some .int) rmX7_cell M (fun G ad => [.ref (ad (jm_r wd1 10 r0)), jm_i l1, jm_i l2]) (fX7_cell M r0 l1 l2) := by
  refine jm_met_i (fun X => [(0, jm_vr wd1 X 10 r0), (1, jm_i l1), (2, jm_i l2)]) (by decide) (fun _ _ => (Nat.le_of_ble_eq_true rfl)) (fun _ => rfl) (fun X => ?_)
  unfold fX7_cell
  refine j_iload_n (pc := 0) dX7_cell_0 rfl (q := 1) rfl ?_
  refine j_if_lt (tgt := 24) (pc := 1) hl1 dX7_cell_1 (by decide) (fun c1 => ?_) (fun c1 => ?_)
  · skip
    refine j_iconst (pc := 24) dX7_cell_24 ?_
    exact j_iret (pc := 25) (jm_inL (by decide) (by decide)) rfl dX7_cell_25
  · skip
    refine j_iload_n (pc := 4) dX7_cell_4 rfl (q := 1) rfl ?_
    refine j_aload_n (pc := 5) dX7_cell_5 rfl (q := 0) rfl ?_
    refine j_geti (pc := 6) jv1_10 gr0 kf_RX7_28 kg1_10_3 dX7_cell_6 (fun h2 => ?_)
    refine j_icmp_ge (tgt := 24) (pc := 9) hl1 h2 dX7_cell_9 (by decide) (fun c3 => ?_) (fun c3 => ?_)
    · skip
      refine j_iconst (pc := 24) dX7_cell_24 ?_
      exact j_iret (pc := 25) (jm_inL (by decide) (by decide)) rfl dX7_cell_25
    · skip
      refine j_iload_n (pc := 12) dX7_cell_12 rfl (q := 2) rfl ?_
      refine j_if_lt (tgt := 24) (pc := 13) hl2 dX7_cell_13 (by decide) (fun c4 => ?_) (fun c4 => ?_)
      · skip
        refine j_iconst (pc := 24) dX7_cell_24 ?_
        exact j_iret (pc := 25) (jm_inL (by decide) (by decide)) rfl dX7_cell_25
      · skip
        refine j_iload_n (pc := 16) dX7_cell_16 rfl (q := 2) rfl ?_
        refine j_aload_n (pc := 17) dX7_cell_17 rfl (q := 0) rfl ?_
        refine j_geti (pc := 18) jv1_10 gr0 kf_RX7_15 kg1_10_1 dX7_cell_18 (fun h5 => ?_)
        refine j_icmp_lt (tgt := 26) (pc := 21) hl2 h5 dX7_cell_21 (by decide) (fun c6 => ?_) (fun c6 => ?_)
        · skip
          refine j_aload_n (pc := 26) dX7_cell_26 rfl (q := 0) rfl ?_
          refine j_getr (pc := 27) jv1_10 gr0 kf_RX7_24 r0 kg1_10_2 rfl dX7_cell_27 ?_
          refine j_iload_n (pc := 30) dX7_cell_30 rfl (q := 1) rfl ?_
          refine j_aload_n (pc := 31) dX7_cell_31 rfl (q := 0) rfl ?_
          refine j_geti (pc := 32) jv1_10 gr0 kf_RX7_15 kg1_10_1 dX7_cell_32 (fun h7 => ?_)
          refine j_imul (pc := 35) dX7_cell_35 ?_
          refine j_iload_n (pc := 36) dX7_cell_36 rfl (q := 2) rfl ?_
          refine j_iadd (pc := 37) dX7_cell_37 ?_
          refine j_iald (pc := 38) jv1_19 (by omega) rfl (jm_lenC _) ka1_19 dX7_cell_38 (fun c8 h9 => ?_)
          exact j_iret (pc := 39) h9 rfl dX7_cell_39
        · skip
          refine j_iconst (pc := 24) dX7_cell_24 ?_
          exact j_iret (pc := 25) (jm_inL (by decide) (by decide)) rfl dX7_cell_25
abbrev rmX7_removeAt : Room := { frames := 1, cells := 0, slots := 0, locals := 23 }
set_option maxHeartbeats 4000000 in
set_option maxRecDepth 100000 in
theorem b0X7_removeAt_14 (X : jm_X) (fu : Nat) (k2 : jm_M → Int → Int → jm_R) (k14 : jm_M → Int → Int → Int → jm_R) (hk2 : ∀ (M : jm_M) (r0 l2 : Int) (gr0 : 0 ≤ r0 ∧ r0 < 33) (hl2 : jm_in l2), jm_J wd1 (jm_qi .int) cX7_removeAt 4 RX7 rmX7_removeAt X M [(0, jm_vr wd1 X 10 r0), (2, jm_i l2)] [] 2 (k2 M r0 l2)) (hk14 : ∀ (M : jm_M) (r0 l2 l3 : Int) (gr0 : 0 ≤ r0 ∧ r0 < 33) (hl2 : jm_in l2) (hl3 : jm_in l3), jm_J wd1 (jm_qi .int) cX7_removeAt 4 RX7 rmX7_removeAt X M [(0, jm_vr wd1 X 10 r0), (2, jm_i l2), (3, jm_i l3)] [] 14 (k14 M r0 l2 l3)) : ∀ (M : jm_M) (r0 l2 l3 : Int) (gr0 : 0 ≤ r0 ∧ r0 < 33) (hl2 : jm_in l2) (hl3 : jm_in l3), jm_J wd1 (jm_qi .int) cX7_removeAt 4 RX7 rmX7_removeAt X M [(0, jm_vr wd1 X 10 r0), (2, jm_i l2), (3, jm_i l3)] [] 14 (gX7_removeAt_14 fu k2 k14 M r0 l2 l3) := by
  intro M r0 l2 l3 gr0 hl2 hl3
  unfold gX7_removeAt_14
  refine j_iload_n (pc := 14) dX7_removeAt_14 rfl (q := 2) rfl ?_
  refine j_aload_n (pc := 15) dX7_removeAt_15 rfl (q := 0) rfl ?_
  refine j_geti (pc := 16) jv1_10 gr0 kf_RX7_15 kg1_10_1 dX7_removeAt_16 (fun h1 => ?_)
  refine j_icmp_ge (tgt := 42) (pc := 19) hl3 h1 dX7_removeAt_19 (by decide) (fun c2 => ?_) (fun c2 => ?_)
  · skip
    refine j_iinc (pc := 42) [(0, jm_vr wd1 X 10 r0), (3, jm_i l3)] (q := 1) dX7_removeAt_42 rfl (by decide) (fun _ => rfl) (fun v3 h4 => ?_)
    refine j_goto (tgt := 2) (pc := 45) dX7_removeAt_45 (by decide) ?_
    refine j_sub (pc := 2) [(0, jm_vr wd1 X 10 r0), (2, jm_i v3)] [1, 0] rfl ?_
    exact hk2 M r0 v3 gr0 h4
  · skip
    refine j_aload_n (pc := 22) dX7_removeAt_22 rfl (q := 0) rfl ?_
    refine j_iload_n (pc := 23) dX7_removeAt_23 rfl (q := 1) rfl ?_
    refine j_iload_n (pc := 24) dX7_removeAt_24 rfl (q := 2) rfl ?_
    refine j_aload_n (pc := 25) dX7_removeAt_25 rfl (q := 0) rfl ?_
    refine j_iload_n (pc := 26) dX7_removeAt_26 rfl (q := 1) rfl ?_
    refine j_iconst (pc := 27) dX7_removeAt_27 ?_
    refine j_iadd (pc := 28) dX7_removeAt_28 ?_
    refine j_iload_n (pc := 29) dX7_removeAt_29 rfl (q := 2) rfl ?_
    refine j_callVi2 (pc := 30) (ct_X7_cell M r0 (jm_w (l2 + 1)) l3 gr0 (jm_w_in _) hl3) kg_641 km_X7_cell kv_X7_cell rfl rfl ⟨(Nat.le_of_ble_eq_true rfl), (Nat.le_of_ble_eq_true rfl)⟩ jv1_10 gr0 ko1_10 rfl rfl (Nat.le_of_ble_eq_true rfl) dX7_removeAt_30 (fun v5 M6 h7 => ?_)
    refine j_callVv3 (pc := 33) (ct_X7_put M6 r0 l2 l3 v5 gr0 hl2 hl3 h7) kg_599 km_X7_put kv_X7_put rfl rfl ⟨(Nat.le_of_ble_eq_true rfl), (Nat.le_of_ble_eq_true rfl)⟩ jv1_10 gr0 ko1_10 rfl rfl (Nat.le_of_ble_eq_true rfl) dX7_removeAt_33 (fun v8 M9 => ?_)
    refine j_iinc (pc := 36) [(0, jm_vr wd1 X 10 r0), (2, jm_i l2)] (q := 2) dX7_removeAt_36 rfl (by decide) (fun _ => rfl) (fun v10 h11 => ?_)
    refine j_goto (tgt := 14) (pc := 39) dX7_removeAt_39 (by decide) ?_
    refine j_sub (pc := 14) [(0, jm_vr wd1 X 10 r0), (2, jm_i l2), (3, jm_i v10)] [1, 2, 0] rfl ?_
    exact hk14 M9 r0 l2 v10 gr0 hl2 h11
theorem bX7_removeAt_14 (X : jm_X) (fu : Nat) (k2 : jm_M → Int → Int → jm_R) (hk2 : ∀ (M : jm_M) (r0 l2 : Int) (gr0 : 0 ≤ r0 ∧ r0 < 33) (hl2 : jm_in l2), jm_J wd1 (jm_qi .int) cX7_removeAt 4 RX7 rmX7_removeAt X M [(0, jm_vr wd1 X 10 r0), (2, jm_i l2)] [] 2 (k2 M r0 l2)) : ∀ (n : Nat) (M : jm_M) (r0 l2 l3 : Int) (gr0 : 0 ≤ r0 ∧ r0 < 33) (hl2 : jm_in l2) (hl3 : jm_in l3), jm_J wd1 (jm_qi .int) cX7_removeAt 4 RX7 rmX7_removeAt X M [(0, jm_vr wd1 X 10 r0), (2, jm_i l2), (3, jm_i l3)] [] 14 (fX7_removeAt_14 fu k2 n M r0 l2 l3) := by
  intro n
  induction n with
  | zero => intro M r0 l2 l3 gr0 hl2 hl3; exact j_none
  | succ n ih => intro M r0 l2 l3 gr0 hl2 hl3; exact b0X7_removeAt_14 X fu k2 (fX7_removeAt_14 fu k2 n) hk2 ih M r0 l2 l3 gr0 hl2 hl3
set_option maxHeartbeats 4000000 in
set_option maxRecDepth 100000 in
theorem b0X7_removeAt_2 (X : jm_X) (fu : Nat) (k2 : jm_M → Int → Int → jm_R) (hk2 : ∀ (M : jm_M) (r0 l2 : Int) (gr0 : 0 ≤ r0 ∧ r0 < 33) (hl2 : jm_in l2), jm_J wd1 (jm_qi .int) cX7_removeAt 4 RX7 rmX7_removeAt X M [(0, jm_vr wd1 X 10 r0), (2, jm_i l2)] [] 2 (k2 M r0 l2)) : ∀ (M : jm_M) (r0 l2 : Int) (gr0 : 0 ≤ r0 ∧ r0 < 33) (hl2 : jm_in l2), jm_J wd1 (jm_qi .int) cX7_removeAt 4 RX7 rmX7_removeAt X M [(0, jm_vr wd1 X 10 r0), (2, jm_i l2)] [] 2 (gX7_removeAt_2 fu k2 M r0 l2) := by
  intro M r0 l2 gr0 hl2
  unfold gX7_removeAt_2
  refine j_iload_n (pc := 2) dX7_removeAt_2 rfl (q := 1) rfl ?_
  refine j_aload_n (pc := 3) dX7_removeAt_3 rfl (q := 0) rfl ?_
  refine j_geti (pc := 4) jv1_10 gr0 kf_RX7_28 kg1_10_3 dX7_removeAt_4 (fun h1 => ?_)
  refine j_iconst (pc := 7) dX7_removeAt_7 ?_
  refine j_isub (pc := 8) dX7_removeAt_8 ?_
  refine j_icmp_ge (tgt := 48) (pc := 9) hl2 (jm_w_in _) dX7_removeAt_9 (by decide) (fun c2 => ?_) (fun c2 => ?_)
  · skip
    refine j_aload_n (pc := 48) dX7_removeAt_48 rfl (q := 0) rfl ?_
    refine j_dup (pc := 49) dX7_removeAt_49 rfl ?_
    refine j_geti (pc := 50) jv1_10 gr0 kf_RX7_28 kg1_10_3 dX7_removeAt_50 (fun h3 => ?_)
    refine j_iconst (pc := 53) dX7_removeAt_53 ?_
    refine j_isub (pc := 54) dX7_removeAt_54 ?_
    refine j_put (pc := 55) jv1_10 gr0 kf_RX7_28 wI1 kp_X7_3 kx1_10_3 (jm_w_in _) rfl rfl dX7_removeAt_55 (fun M4 => ?_)
    refine j_aload_n (pc := 58) dX7_removeAt_58 rfl (q := 0) rfl ?_
    refine j_geti (pc := 59) jv1_10 gr0 kf_RX7_28 kg1_10_3 dX7_removeAt_59 (fun h5 => ?_)
    exact j_iret (pc := 62) h5 rfl dX7_removeAt_62
  · skip
    refine j_iconst (pc := 12) dX7_removeAt_12 ?_
    refine j_istore_n (pc := 13) [(3, jm_i 0), (0, jm_vr wd1 X 10 r0), (2, jm_i l2)] dX7_removeAt_13 rfl (by decide) rfl ?_
    refine j_sub (pc := 14) [(0, jm_vr wd1 X 10 r0), (2, jm_i l2), (3, jm_i 0)] [1, 2, 0] rfl ?_
    exact bX7_removeAt_14 X fu k2 hk2 fu M r0 l2 0 gr0 hl2 (jm_inL (by decide) (by decide))
theorem bX7_removeAt_2 (X : jm_X) (fu : Nat) : ∀ (n : Nat) (M : jm_M) (r0 l2 : Int) (gr0 : 0 ≤ r0 ∧ r0 < 33) (hl2 : jm_in l2), jm_J wd1 (jm_qi .int) cX7_removeAt 4 RX7 rmX7_removeAt X M [(0, jm_vr wd1 X 10 r0), (2, jm_i l2)] [] 2 (fX7_removeAt_2 fu n M r0 l2) := by
  intro n
  induction n with
  | zero => intro M r0 l2 gr0 hl2; exact j_none
  | succ n ih => intro M r0 l2 gr0 hl2; exact b0X7_removeAt_2 X fu (fX7_removeAt_2 fu n) ih M r0 l2 gr0 hl2
set_option maxHeartbeats 4000000 in
set_option maxRecDepth 100000 in
theorem ct_X7_removeAt (fu : Nat) (M : jm_M) (r0 l1 : Int) (gr0 : 0 ≤ r0 ∧ r0 < 33) (hl1 : jm_in l1) : jm_Ci wd1 yX7_removeAt cX7_removeAt 4 (some .int) rmX7_removeAt M (fun G ad => [.ref (ad (jm_r wd1 10 r0)), jm_i l1]) (fX7_removeAt fu M r0 l1) := by
  refine jm_met_i (fun X => [(0, jm_vr wd1 X 10 r0), (1, jm_i l1)]) (by decide) (fun _ _ => (Nat.le_of_ble_eq_true rfl)) (fun _ => rfl) (fun X => ?_)
  unfold fX7_removeAt
  refine j_iload_n (pc := 0) dX7_removeAt_0 rfl (q := 1) rfl ?_
  refine j_istore_n (pc := 1) [(2, jm_i l1), (0, jm_vr wd1 X 10 r0), (1, jm_i l1)] dX7_removeAt_1 rfl (by decide) rfl ?_
  refine j_sub (pc := 2) [(0, jm_vr wd1 X 10 r0), (2, jm_i l1)] [1, 0] rfl ?_
  exact bX7_removeAt_2 X fu  fu M r0 l1 gr0 hl1
abbrev rmX11_drop : Room := { frames := 2, cells := 0, slots := 0, locals := 46 }
set_option maxHeartbeats 4000000 in
set_option maxRecDepth 100000 in
theorem ct_X11_drop (fu : Nat) (M : jm_M) (l1 l2 : Int) (hl1 : jm_in l1) (hl2 : jm_in l2) : jm_Ci wd1 yX11_drop cX11_drop 3 (some .int) rmX11_drop M (fun G ad => [.ref (ad (jm_r wd1 0 0)), jm_i l1, jm_i l2]) (fX11_drop fu M l1 l2) := by
  refine jm_met_i (fun X => [(0, jm_vr wd1 X 0 0), (1, jm_i l1), (2, jm_i l2)]) (by decide) (fun _ _ => (Nat.le_of_ble_eq_true rfl)) (fun _ => rfl) (fun X => ?_)
  unfold fX11_drop
  refine j_aload_n (pc := 0) dX11_drop_0 rfl (q := 0) rfl ?_
  refine j_getr (pc := 1) jv1_0 jm_01 kf_RX11_24 0 kg1_0_1 rfl dX11_drop_1 ?_
  refine j_iload_n (pc := 4) dX11_drop_4 rfl (q := 1) rfl ?_
  refine j_callVi1 (pc := 5) (ct_X2_has M l1 hl1) kg_619 km_X2_has kv_X2_has rfl rfl ⟨(Nat.le_of_ble_eq_true rfl), (Nat.le_of_ble_eq_true rfl)⟩ jv1_2 jm_01 ko1_2 rfl rfl (Nat.le_of_ble_eq_true rfl) dX11_drop_5 (fun v1 M2 h3 => ?_)
  refine j_if_eq (tgt := 33) (pc := 8) h3 dX11_drop_8 (by decide) (fun c4 => ?_) (fun c4 => ?_)
  · skip
    refine j_iconst (pc := 33) dX11_drop_33 ?_
    exact j_iret (pc := 34) (jm_inL (by decide) (by decide)) rfl dX11_drop_34
  · skip
    refine j_iload_n (pc := 11) dX11_drop_11 rfl (q := 2) rfl ?_
    refine j_aload_n (pc := 12) dX11_drop_12 rfl (q := 0) rfl ?_
    refine j_getr (pc := 13) jv1_0 jm_01 kf_RX11_24 0 kg1_0_1 rfl dX11_drop_13 ?_
    refine j_getr (pc := 16) jv1_2 jm_01 kf_RX11_148 0 kg1_2_2 rfl dX11_drop_16 ?_
    refine j_iload_n (pc := 19) dX11_drop_19 rfl (q := 1) rfl ?_
    refine j_aald (pc := 20) jv1_46 jm_01 (by decide) kr1_46 dX11_drop_20 (fun c5 => ?_)
    refine j_getr (pc := 21) jv1_8 (by omega) kf_RX11_191 (l1 + 12) kg1_8_8 rfl dX11_drop_21 ?_
    refine j_geti (pc := 24) jv1_10 (by omega) kf_RX11_95 kg1_10_3 dX11_drop_24 (fun h6 => ?_)
    refine j_callSi2 (pc := 27) (ct_X11_isIndex M2 l2 (M2 10 (l1 + 12) 3) hl2 h6) kg_572 km_X11_isIndex kg_562 rfl rfl ⟨(Nat.le_of_ble_eq_true rfl), (Nat.le_of_ble_eq_true rfl)⟩ rfl rfl (Nat.le_of_ble_eq_true rfl) dX11_drop_27 (fun v7 M8 h9 => ?_)
    refine j_if_ne (tgt := 35) (pc := 30) h9 dX11_drop_30 (by decide) (fun c10 => ?_) (fun c10 => ?_)
    · skip
      refine j_iconst (pc := 33) dX11_drop_33 ?_
      exact j_iret (pc := 34) (jm_inL (by decide) (by decide)) rfl dX11_drop_34
    · skip
      refine j_aload_n (pc := 35) dX11_drop_35 rfl (q := 0) rfl ?_
      refine j_getr (pc := 36) jv1_0 jm_01 kf_RX11_24 0 kg1_0_1 rfl dX11_drop_36 ?_
      refine j_iconst (pc := 39) dX11_drop_39 ?_
      refine j_put (pc := 40) jv1_2 jm_01 kf_RX11_84 wI1 kp_X2_7 kx1_2_7 (jm_inL (by decide) (by decide)) rfl rfl dX11_drop_40 (fun M11 => ?_)
      refine j_aload_n (pc := 43) dX11_drop_43 rfl (q := 0) rfl ?_
      refine j_getr (pc := 44) jv1_0 jm_01 kf_RX11_24 0 kg1_0_1 rfl dX11_drop_44 ?_
      refine j_getr (pc := 47) jv1_2 jm_01 kf_RX11_148 0 kg1_2_2 rfl dX11_drop_47 ?_
      refine j_iload_n (pc := 50) dX11_drop_50 rfl (q := 1) rfl ?_
      refine j_aald (pc := 51) jv1_46 jm_01 (by decide) kr1_46 dX11_drop_51 (fun c12 => ?_)
      refine j_getr (pc := 52) jv1_8 (by omega) kf_RX11_191 (l1 + 12) kg1_8_8 rfl dX11_drop_52 ?_
      refine j_iload_n (pc := 55) dX11_drop_55 rfl (q := 2) rfl ?_
      refine j_callVi1 (pc := 56) (ct_X7_removeAt fu M11 (l1 + 12) l2 (by omega) hl2) kg_637 km_X7_removeAt kv_X7_removeAt rfl rfl ⟨(Nat.le_of_ble_eq_true rfl), (Nat.le_of_ble_eq_true rfl)⟩ jv1_10 (by omega) ko1_10 rfl rfl (Nat.le_of_ble_eq_true rfl) dX11_drop_56 (fun v13 M14 h15 => ?_)
      exact j_iret (pc := 59) h15 rfl dX11_drop_59
abbrev rmX11_takeTape : Room := { frames := 0, cells := 0, slots := 0, locals := 0 }
set_option maxHeartbeats 4000000 in
set_option maxRecDepth 100000 in
theorem ct_X11_takeTape (M : jm_M) : jm_Ci wd1 yX11_takeTape cX11_takeTape 2 (some .int) rmX11_takeTape M (fun G ad => [.ref (ad (jm_r wd1 0 0))]) (fX11_takeTape M ) := by
  refine jm_met_i (fun X => [(0, jm_vr wd1 X 0 0)]) (by decide) (fun _ _ => (Nat.le_of_ble_eq_true rfl)) (fun _ => rfl) (fun X => ?_)
  unfold fX11_takeTape
  refine j_aload_n (pc := 0) dX11_takeTape_0 rfl (q := 0) rfl ?_
  refine j_geti (pc := 1) jv1_0 jm_01 kf_RX11_218 kg1_0_7 dX11_takeTape_1 (fun h1 => ?_)
  refine j_nm (pc := 4) h1 (fun v2 h3 => ?_)
  refine j_istore_n (pc := 4) [(1, jm_i v2), (0, jm_vr wd1 X 0 0)] dX11_takeTape_4 rfl (by decide) rfl ?_
  refine j_aload_n (pc := 5) dX11_takeTape_5 rfl (q := 1) rfl ?_
  refine j_iconst (pc := 6) dX11_takeTape_6 ?_
  refine j_put (pc := 7) jv1_0 jm_01 kf_RX11_218 wI1 kp_X11_7 kx1_0_7 (jm_inL (by decide) (by decide)) rfl rfl dX11_takeTape_7 (fun M4 => ?_)
  refine j_iload_n (pc := 10) dX11_takeTape_10 rfl (q := 0) rfl ?_
  exact j_iret (pc := 11) h3 rfl dX11_takeTape_11
abbrev rmX8_empty : Room := { frames := 0, cells := 0, slots := 0, locals := 0 }
set_option maxHeartbeats 4000000 in
set_option maxRecDepth 100000 in
theorem ct_X8_empty (M : jm_M) (r0 : Int) (gr0 : 0 ≤ r0 ∧ r0 < 17) : jm_Cv wd1 yX8_empty cX8_empty 1 none rmX8_empty M (fun G ad => [.ref (ad (jm_r wd1 11 r0))]) (fX8_empty M r0) := by
  refine jm_met_v (fun X => [(0, jm_vr wd1 X 11 r0)]) (by decide) (fun _ _ => (Nat.le_of_ble_eq_true rfl)) (fun _ => rfl) (fun X => ?_)
  unfold fX8_empty
  refine j_aload_n (pc := 0) dX8_empty_0 rfl (q := 0) rfl ?_
  refine j_iconst (pc := 1) dX8_empty_1 ?_
  refine j_put (pc := 2) jv1_11 gr0 kf_RX8_27 wI1 kp_X8_1 kx1_11_1 (jm_inL (by decide) (by decide)) rfl rfl dX8_empty_2 (fun M1 => ?_)
  refine j_aload_n (pc := 5) dX8_empty_5 rfl (q := 0) rfl ?_
  refine j_iconst (pc := 6) dX8_empty_6 ?_
  refine j_put (pc := 7) jv1_11 gr0 kf_RX8_31 wI1 kp_X8_6 kx1_11_6 (jm_inL (by decide) (by decide)) rfl rfl dX8_empty_7 (fun M2 => ?_)
  refine j_aload_n (pc := 10) dX8_empty_10 rfl (q := 0) rfl ?_
  refine j_iconst (pc := 11) dX8_empty_11 ?_
  refine j_put (pc := 12) jv1_11 gr0 kf_RX8_34 wI1 kp_X8_7 kx1_11_7 (jm_inL (by decide) (by decide)) rfl rfl dX8_empty_12 (fun M3 => ?_)
  exact j_vret (pc := 15) dX8_empty_15
abbrev rmX3_beginLine : Room := { frames := 0, cells := 0, slots := 0, locals := 0 }
set_option maxHeartbeats 4000000 in
set_option maxRecDepth 100000 in
theorem ct_X3_beginLine (M : jm_M) : jm_Cv wd1 yX3_beginLine cX3_beginLine 1 none rmX3_beginLine M (fun G ad => [.ref (ad (jm_r wd1 6 0))]) (fX3_beginLine M ) := by
  refine jm_met_v (fun X => [(0, jm_vr wd1 X 6 0)]) (by decide) (fun _ _ => (Nat.le_of_ble_eq_true rfl)) (fun _ => rfl) (fun X => ?_)
  unfold fX3_beginLine
  refine j_aload_n (pc := 0) dX3_beginLine_0 rfl (q := 0) rfl ?_
  refine j_iconst (pc := 1) dX3_beginLine_1 ?_
  refine j_put (pc := 2) jv1_6 jm_01 kf_RX3_39 wI1 kp_X3_6 kx1_6_6 (jm_inL (by decide) (by decide)) rfl rfl dX3_beginLine_2 (fun M1 => ?_)
  refine j_aload_n (pc := 5) dX3_beginLine_5 rfl (q := 0) rfl ?_
  refine j_iconst (pc := 6) dX3_beginLine_6 ?_
  refine j_put (pc := 7) jv1_6 jm_01 kf_RX3_46 wI1 kp_X3_1 kx1_6_1 (jm_inL (by decide) (by decide)) rfl rfl dX3_beginLine_7 (fun M2 => ?_)
  refine j_aload_n (pc := 10) dX3_beginLine_10 rfl (q := 0) rfl ?_
  refine j_iconst (pc := 11) dX3_beginLine_11 ?_
  refine j_put (pc := 12) jv1_6 jm_01 kf_RX3_49 wI1 kp_X3_3 kx1_6_3 (jm_inL (by decide) (by decide)) rfl rfl dX3_beginLine_12 (fun M3 => ?_)
  refine j_aload_n (pc := 15) dX3_beginLine_15 rfl (q := 0) rfl ?_
  refine j_iconst (pc := 16) dX3_beginLine_16 ?_
  refine j_put (pc := 17) jv1_6 jm_01 kf_RX3_43 wI1 kp_X3_5 kx1_6_5 (jm_inL (by decide) (by decide)) rfl rfl dX3_beginLine_17 (fun M4 => ?_)
  refine j_aload_n (pc := 20) dX3_beginLine_20 rfl (q := 0) rfl ?_
  refine j_iconst (pc := 21) dX3_beginLine_21 ?_
  refine j_put (pc := 22) jv1_6 jm_01 kf_RX3_52 wI1 kp_X3_4 kx1_6_4 (jm_inL (by decide) (by decide)) rfl rfl dX3_beginLine_22 (fun M5 => ?_)
  exact j_vret (pc := 25) dX3_beginLine_25
abbrev rmX3_isDigit : Room := { frames := 0, cells := 0, slots := 0, locals := 0 }
set_option maxHeartbeats 4000000 in
set_option maxRecDepth 100000 in
theorem ct_X3_isDigit (M : jm_M) (l0 : Int) (hl0 : jm_in l0) : jm_Ci wd1 yX3_isDigit cX3_isDigit 1 (some .boolean) rmX3_isDigit M (fun G ad => [jm_i l0]) (fX3_isDigit M l0) := by
  refine jm_met_i (fun X => [(0, jm_i l0)]) (by decide) (fun _ _ => (Nat.le_of_ble_eq_true rfl)) (fun _ => rfl) (fun X => ?_)
  unfold fX3_isDigit
  refine j_iload_n (pc := 0) dX3_isDigit_0 rfl (q := 0) rfl ?_
  refine j_bipush (pc := 1) 48 dX3_isDigit_1 (by decide) ?_
  refine j_icmp_lt (tgt := 16) (pc := 3) hl0 (jm_inL (by decide) (by decide)) dX3_isDigit_3 (by decide) (fun c1 => ?_) (fun c1 => ?_)
  · skip
    refine j_iconst (pc := 16) dX3_isDigit_16 ?_
    exact j_iret (pc := 17) (jm_inL (by decide) (by decide)) rfl dX3_isDigit_17
  · skip
    refine j_iload_n (pc := 6) dX3_isDigit_6 rfl (q := 0) rfl ?_
    refine j_bipush (pc := 7) 57 dX3_isDigit_7 (by decide) ?_
    refine j_icmp_gt (tgt := 16) (pc := 9) hl0 (jm_inL (by decide) (by decide)) dX3_isDigit_9 (by decide) (fun c2 => ?_) (fun c2 => ?_)
    · skip
      refine j_iconst (pc := 16) dX3_isDigit_16 ?_
      exact j_iret (pc := 17) (jm_inL (by decide) (by decide)) rfl dX3_isDigit_17
    · skip
      refine j_iconst (pc := 12) dX3_isDigit_12 ?_
      refine j_goto (tgt := 17) (pc := 13) dX3_isDigit_13 (by decide) ?_
      exact j_iret (pc := 17) (jm_inL (by decide) (by decide)) rfl dX3_isDigit_17
abbrev rmX3_isLetter : Room := { frames := 9, cells := 0, slots := 0, locals := 421 }
set_option maxHeartbeats 4000000 in
set_option maxRecDepth 100000 in
theorem bX3_isLetter_14 (X : jm_X) (fu : Nat) : ∀ (M : jm_M) (l1 u0 : Int) (hl1 : jm_in l1) (gu0 : 0 ≤ u0 ∧ u0 < 11), jm_J wd1 (jm_qi .boolean) cX3_isLetter 3 RX3 rmX3_isLetter X M [(1, jm_i l1)] [jm_vs X u0] 14 (gX3_isLetter_14 fu M l1 u0) := by
  intro M l1 u0 hl1 gu0
  unfold gX3_isLetter_14
  refine j_astore_n (pc := 14) [(2, jm_vs X u0), (1, jm_i l1)] dX3_isLetter_14 rfl (by decide) rfl ?_
  refine j_iload_n (pc := 15) dX3_isLetter_15 rfl (q := 1) rfl ?_
  refine j_bipush (pc := 16) 97 dX3_isLetter_16 (by decide) ?_
  refine j_icmp_lt (tgt := 40) (pc := 18) hl1 (jm_inL (by decide) (by decide)) dX3_isLetter_18 (by decide) (fun c1 => ?_) (fun c1 => ?_)
  · skip
    refine j_iconst (pc := 40) dX3_isLetter_40 ?_
    exact j_iret (pc := 41) (jm_inL (by decide) (by decide)) rfl dX3_isLetter_41
  · skip
    refine j_iload_n (pc := 21) dX3_isLetter_21 rfl (q := 1) rfl ?_
    refine j_bipush (pc := 22) 122 dX3_isLetter_22 (by decide) ?_
    refine j_icmp_gt (tgt := 40) (pc := 24) hl1 (jm_inL (by decide) (by decide)) dX3_isLetter_24 (by decide) (fun c2 => ?_) (fun c2 => ?_)
    · skip
      refine j_iconst (pc := 40) dX3_isLetter_40 ?_
      exact j_iret (pc := 41) (jm_inL (by decide) (by decide)) rfl dX3_isLetter_41
    · skip
      refine j_aload_n (pc := 27) dX3_isLetter_27 rfl (q := 0) rfl ?_
      refine j_iload_n (pc := 28) dX3_isLetter_28 rfl (q := 1) rfl ?_
      refine j_i2c (pc := 29) dX3_isLetter_29 ?_
      refine j_callTi1 (pc := 30) (cS1_indexOf M u0 (jm_chr l1) ⟨by omega, by omega⟩ (jm_chr_in _)) kg_687 km_J0_indexOf_0f7a4 kv_J0_indexOf_0f7a4 rfl rfl ⟨(Nat.le_of_ble_eq_true rfl), (Nat.le_of_ble_eq_true rfl)⟩ rfl rfl (Nat.le_of_ble_eq_true rfl) dX3_isLetter_30 (fun v3 M4 h5 => ?_)
      refine j_if_lt (tgt := 40) (pc := 33) h5 dX3_isLetter_33 (by decide) (fun c6 => ?_) (fun c6 => ?_)
      · skip
        refine j_iconst (pc := 40) dX3_isLetter_40 ?_
        exact j_iret (pc := 41) (jm_inL (by decide) (by decide)) rfl dX3_isLetter_41
      · skip
        refine j_iconst (pc := 36) dX3_isLetter_36 ?_
        refine j_goto (tgt := 41) (pc := 37) dX3_isLetter_37 (by decide) ?_
        exact j_iret (pc := 41) (jm_inL (by decide) (by decide)) rfl dX3_isLetter_41
set_option maxHeartbeats 4000000 in
set_option maxRecDepth 100000 in
theorem ct_X3_isLetter (fu : Nat) (M : jm_M) (l1 : Int) (hl1 : jm_in l1) : jm_Ci wd1 yX3_isLetter cX3_isLetter 3 (some .boolean) rmX3_isLetter M (fun G ad => [.ref (ad (jm_r wd1 6 0)), jm_i l1]) (fX3_isLetter fu M l1) := by
  refine jm_met_i (fun X => [(0, jm_vr wd1 X 6 0), (1, jm_i l1)]) (by decide) (fun _ _ => (Nat.le_of_ble_eq_true rfl)) (fun _ => rfl) (fun X => ?_)
  unfold fX3_isLetter
  refine j_aload_n (pc := 0) dX3_isLetter_0 rfl (q := 0) rfl ?_
  refine j_geti (pc := 1) jv1_6 jm_01 kf_RX3_19 kg1_6_7 dX3_isLetter_1 (fun h1 => ?_)
  refine j_if_eq (tgt := 12) (pc := 4) h1 dX3_isLetter_4 (by decide) (fun c2 => ?_) (fun c2 => ?_)
  · skip
    refine j_ldcS (pc := 12) 1 (by decide) rfl rfl dX3_isLetter_12 ?_
    refine j_sub (pc := 14) [(1, jm_i l1)] [1] rfl ?_
    exact bX3_isLetter_14 X fu  M l1 1 hl1 (by omega)
  · skip
    refine j_ldcS (pc := 7) 0 (by decide) rfl rfl dX3_isLetter_7 ?_
    refine j_goto (tgt := 14) (pc := 9) dX3_isLetter_9 (by decide) ?_
    refine j_sub (pc := 14) [(1, jm_i l1)] [1] rfl ?_
    exact bX3_isLetter_14 X fu  M l1 0 hl1 (by omega)
abbrev rmX3_levelOf : Room := { frames := 0, cells := 0, slots := 0, locals := 0 }
set_option maxHeartbeats 4000000 in
set_option maxRecDepth 100000 in
theorem ct_X3_levelOf (M : jm_M) (l0 : Int) (hl0 : jm_in l0) : jm_Ci wd1 yX3_levelOf cX3_levelOf 1 (some .int) rmX3_levelOf M (fun G ad => [jm_i l0]) (fX3_levelOf M l0) := by
  refine jm_met_i (fun X => [(0, jm_i l0)]) (by decide) (fun _ _ => (Nat.le_of_ble_eq_true rfl)) (fun _ => rfl) (fun X => ?_)
  unfold fX3_levelOf
  refine j_iload_n (pc := 0) dX3_levelOf_0 rfl (q := 0) rfl ?_
  refine j_ite (pc := 1) (fun c1 => ?_) (fun c1 => ?_)
  · skip
    refine j_look (off := (101)) (tgt := 102) (pc := 1) hl0 dX3_levelOf_1 (by decide) (by rw [c1]; rfl) (by decide) ?_
    refine j_bipush (pc := 102) 6 dX3_levelOf_102 (by decide) ?_
    exact j_iret (pc := 104) (jm_inL (by decide) (by decide)) rfl dX3_levelOf_104
  · skip
    refine j_ite (pc := 1) (fun c2 => ?_) (fun c2 => ?_)
    · skip
      refine j_look (off := (93)) (tgt := 94) (pc := 1) hl0 dX3_levelOf_1 (by decide) (by rw [c2]; rfl) (by decide) ?_
      refine j_iconst (pc := 94) dX3_levelOf_94 ?_
      exact j_iret (pc := 95) (jm_inL (by decide) (by decide)) rfl dX3_levelOf_95
    · skip
      refine j_ite (pc := 1) (fun c3 => ?_) (fun c3 => ?_)
      · skip
        refine j_look (off := (99)) (tgt := 100) (pc := 1) hl0 dX3_levelOf_1 (by decide) (by rw [c3]; rfl) (by decide) ?_
        refine j_iconst (pc := 100) dX3_levelOf_100 ?_
        exact j_iret (pc := 101) (jm_inL (by decide) (by decide)) rfl dX3_levelOf_101
      · skip
        refine j_ite (pc := 1) (fun c4 => ?_) (fun c4 => ?_)
        · skip
          refine j_look (off := (97)) (tgt := 98) (pc := 1) hl0 dX3_levelOf_1 (by decide) (by rw [c4]; rfl) (by decide) ?_
          refine j_iconst (pc := 98) dX3_levelOf_98 ?_
          exact j_iret (pc := 99) (jm_inL (by decide) (by decide)) rfl dX3_levelOf_99
        · skip
          refine j_ite (pc := 1) (fun c5 => ?_) (fun c5 => ?_)
          · skip
            refine j_look (off := (97)) (tgt := 98) (pc := 1) hl0 dX3_levelOf_1 (by decide) (by rw [c5]; rfl) (by decide) ?_
            refine j_iconst (pc := 98) dX3_levelOf_98 ?_
            exact j_iret (pc := 99) (jm_inL (by decide) (by decide)) rfl dX3_levelOf_99
          · skip
            refine j_ite (pc := 1) (fun c6 => ?_) (fun c6 => ?_)
            · skip
              refine j_look (off := (95)) (tgt := 96) (pc := 1) hl0 dX3_levelOf_1 (by decide) (by rw [c6]; rfl) (by decide) ?_
              refine j_iconst (pc := 96) dX3_levelOf_96 ?_
              exact j_iret (pc := 97) (jm_inL (by decide) (by decide)) rfl dX3_levelOf_97
            · skip
              refine j_ite (pc := 1) (fun c7 => ?_) (fun c7 => ?_)
              · skip
                refine j_look (off := (95)) (tgt := 96) (pc := 1) hl0 dX3_levelOf_1 (by decide) (by rw [c7]; rfl) (by decide) ?_
                refine j_iconst (pc := 96) dX3_levelOf_96 ?_
                exact j_iret (pc := 97) (jm_inL (by decide) (by decide)) rfl dX3_levelOf_97
              · skip
                refine j_ite (pc := 1) (fun c8 => ?_) (fun c8 => ?_)
                · skip
                  refine j_look (off := (95)) (tgt := 96) (pc := 1) hl0 dX3_levelOf_1 (by decide) (by rw [c8]; rfl) (by decide) ?_
                  refine j_iconst (pc := 96) dX3_levelOf_96 ?_
                  exact j_iret (pc := 97) (jm_inL (by decide) (by decide)) rfl dX3_levelOf_97
                · skip
                  refine j_ite (pc := 1) (fun c9 => ?_) (fun c9 => ?_)
                  · skip
                    refine j_look (off := (91)) (tgt := 92) (pc := 1) hl0 dX3_levelOf_1 (by decide) (by rw [c9]; rfl) (by decide) ?_
                    refine j_iconst (pc := 92) dX3_levelOf_92 ?_
                    exact j_iret (pc := 93) (jm_inL (by decide) (by decide)) rfl dX3_levelOf_93
                  · skip
                    refine j_ite (pc := 1) (fun c10 => ?_) (fun c10 => ?_)
                    · skip
                      refine j_look (off := (101)) (tgt := 102) (pc := 1) hl0 dX3_levelOf_1 (by decide) (by rw [c10]; rfl) (by decide) ?_
                      refine j_bipush (pc := 102) 6 dX3_levelOf_102 (by decide) ?_
                      exact j_iret (pc := 104) (jm_inL (by decide) (by decide)) rfl dX3_levelOf_104
                    · skip
                      refine j_look (off := (104)) (tgt := 105) (pc := 1) hl0 dX3_levelOf_1 (by decide) (by show Op.lookupswitch.offset [(33, 101), (38, 93), (42, 99), (43, 97), (45, 97), (60, 95), (61, 95), (62, 95), (124, 91), (126, 101)] _ _ = _; rw [Op.lookupswitch.offset_cons, if_neg (fun q => c1 q.symm), Op.lookupswitch.offset_cons, if_neg (fun q => c2 q.symm), Op.lookupswitch.offset_cons, if_neg (fun q => c3 q.symm), Op.lookupswitch.offset_cons, if_neg (fun q => c4 q.symm), Op.lookupswitch.offset_cons, if_neg (fun q => c5 q.symm), Op.lookupswitch.offset_cons, if_neg (fun q => c6 q.symm), Op.lookupswitch.offset_cons, if_neg (fun q => c7 q.symm), Op.lookupswitch.offset_cons, if_neg (fun q => c8 q.symm), Op.lookupswitch.offset_cons, if_neg (fun q => c9 q.symm), Op.lookupswitch.offset_cons, if_neg (fun q => c10 q.symm), Op.lookupswitch.offset_nil]) (by decide) ?_
                      refine j_iconst (pc := 105) dX3_levelOf_105 ?_
                      exact j_iret (pc := 106) (jm_inL (by decide) (by decide)) rfl dX3_levelOf_106
abbrev rmX8_emit : Room := { frames := 1, cells := 0, slots := 0, locals := 21 }
set_option maxHeartbeats 4000000 in
set_option maxRecDepth 100000 in
theorem ct_X8_emit (M : jm_M) (r0 l1 : Int) (gr0 : 0 ≤ r0 ∧ r0 < 17) (hl1 : jm_in l1) : jm_Cv wd1 yX8_emit cX8_emit 2 none rmX8_emit M (fun G ad => [.ref (ad (jm_r wd1 11 r0)), jm_i l1]) (fX8_emit M r0 l1) := by
  refine jm_met_v (fun X => [(0, jm_vr wd1 X 11 r0), (1, jm_i l1)]) (by decide) (fun _ _ => (Nat.le_of_ble_eq_true rfl)) (fun _ => rfl) (fun X => ?_)
  unfold fX8_emit
  refine j_aload_n (pc := 0) dX8_emit_0 rfl (q := 0) rfl ?_
  refine j_geti (pc := 1) jv1_11 gr0 kf_RX8_27 kg1_11_1 dX8_emit_1 (fun h1 => ?_)
  refine j_bipush (pc := 4) 60 dX8_emit_4 (by decide) ?_
  refine j_callNi2 (pc := 6) (ct_X11_isIndex M (M 11 r0 1) 60 h1 (jm_inL (by decide) (by decide))) (host := "RaceByLaps") (by decide) km_X11_isIndex kg_562 rfl rfl ⟨(Nat.le_of_ble_eq_true rfl), (Nat.le_of_ble_eq_true rfl)⟩ rfl rfl (Nat.le_of_ble_eq_true rfl) dX8_emit_6 (fun v2 M3 h4 => ?_)
  refine j_if_eq (tgt := 32) (pc := 9) h4 dX8_emit_9 (by decide) (fun c5 => ?_) (fun c5 => ?_)
  · skip
    exact j_vret (pc := 32) dX8_emit_32
  · skip
    refine j_aload_n (pc := 12) dX8_emit_12 rfl (q := 0) rfl ?_
    refine j_getr (pc := 13) jv1_11 gr0 kf_RX8_9 r0 kg1_11_0 rfl dX8_emit_13 ?_
    refine j_aload_n (pc := 16) dX8_emit_16 rfl (q := 0) rfl ?_
    refine j_geti (pc := 17) jv1_11 gr0 kf_RX8_27 kg1_11_1 dX8_emit_17 (fun h6 => ?_)
    refine j_iload_n (pc := 20) dX8_emit_20 rfl (q := 1) rfl ?_
    refine j_iast (pc := 21) jv1_20 (by omega) rfl (by decide) wI1 ka1_20 hl1 dX8_emit_21 (fun c7 M8 => ?_)
    refine j_aload_n (pc := 22) dX8_emit_22 rfl (q := 0) rfl ?_
    refine j_dup (pc := 23) dX8_emit_23 rfl ?_
    refine j_geti (pc := 24) jv1_11 gr0 kf_RX8_27 kg1_11_1 dX8_emit_24 (fun h9 => ?_)
    refine j_iconst (pc := 27) dX8_emit_27 ?_
    refine j_iadd (pc := 28) dX8_emit_28 ?_
    refine j_put (pc := 29) jv1_11 gr0 kf_RX8_27 wI1 kp_X8_1 kx1_11_1 (jm_w_in _) rfl rfl dX8_emit_29 (fun M10 => ?_)
    exact j_vret (pc := 32) dX8_emit_32
abbrev rmX3_release : Room := { frames := 2, cells := 0, slots := 0, locals := 42 }
set_option maxHeartbeats 4000000 in
set_option maxRecDepth 100000 in
theorem b0X3_release_7 (X : jm_X) (fu : Nat) (k7 : jm_M → Int → Int → jm_R) (hk7 : ∀ (M : jm_M) (l1 l2 : Int) (hl1 : jm_in l1) (hl2 : jm_in l2), jm_J wd1 jm_qv cX3_release 3 RX3 rmX3_release X M [(0, jm_vr wd1 X 6 0), (1, jm_i l1), (2, jm_i l2)] [] 7 (k7 M l1 l2)) : ∀ (M : jm_M) (l1 l2 : Int) (hl1 : jm_in l1) (hl2 : jm_in l2), jm_J wd1 jm_qv cX3_release 3 RX3 rmX3_release X M [(0, jm_vr wd1 X 6 0), (1, jm_i l1), (2, jm_i l2)] [] 7 (gX3_release_7 fu k7 M l1 l2) := by
  intro M l1 l2 hl1 hl2
  unfold gX3_release_7
  refine j_iload_n (pc := 7) dX3_release_7 rfl (q := 2) rfl ?_
  refine j_if_lt (tgt := 52) (pc := 8) hl2 dX3_release_8 (by decide) (fun c1 => ?_) (fun c1 => ?_)
  · skip
    exact j_vret (pc := 52) dX3_release_52
  · skip
    refine j_aload_n (pc := 11) dX3_release_11 rfl (q := 0) rfl ?_
    refine j_getr (pc := 12) jv1_6 jm_01 kf_RX3_9 0 kg1_6_0 rfl dX3_release_12 ?_
    refine j_iload_n (pc := 15) dX3_release_15 rfl (q := 2) rfl ?_
    refine j_iald (pc := 16) jv1_25 jm_01 rfl (by decide) ka1_25 dX3_release_16 (fun c2 h3 => ?_)
    refine j_callSi1 (pc := 17) (ct_X3_levelOf M (M 25 0 l2) h3) kg_779 km_X3_levelOf kg_780 rfl rfl ⟨(Nat.le_of_ble_eq_true rfl), (Nat.le_of_ble_eq_true rfl)⟩ rfl rfl (Nat.le_of_ble_eq_true rfl) dX3_release_17 (fun v4 M5 h6 => ?_)
    refine j_iload_n (pc := 20) dX3_release_20 rfl (q := 1) rfl ?_
    refine j_icmp_lt (tgt := 52) (pc := 21) h6 hl1 dX3_release_21 (by decide) (fun c7 => ?_) (fun c7 => ?_)
    · skip
      exact j_vret (pc := 52) dX3_release_52
    · skip
      refine j_aload_n (pc := 24) dX3_release_24 rfl (q := 0) rfl ?_
      refine j_gett (pc := 25) jv1_6 jm_01 kf_RX3_23 kg1_6_8 dX3_release_25 (fun c8 => ?_)
      refine j_sipush (pc := 28) 2000 dX3_release_28 (by decide) ?_
      refine j_aload_n (pc := 31) dX3_release_31 rfl (q := 0) rfl ?_
      refine j_getr (pc := 32) jv1_6 jm_01 kf_RX3_9 0 kg1_6_0 rfl dX3_release_32 ?_
      refine j_iload_n (pc := 35) dX3_release_35 rfl (q := 2) rfl ?_
      refine j_iald (pc := 36) jv1_25 jm_01 rfl (by decide) ka1_25 dX3_release_36 (fun c9 h10 => ?_)
      refine j_iadd (pc := 37) dX3_release_37 ?_
      refine j_callVv1 (pc := 38) (ct_X8_emit M5 (M5 6 0 8) (jm_w (2000 + (M5 25 0 l2))) (by omega) (jm_w_in _)) kg_676 km_X8_emit kv_X8_emit rfl rfl ⟨(Nat.le_of_ble_eq_true rfl), (Nat.le_of_ble_eq_true rfl)⟩ jv1_11 (by omega) ko1_11 rfl rfl (Nat.le_of_ble_eq_true rfl) dX3_release_38 (fun v11 M12 => ?_)
      refine j_aload_n (pc := 41) dX3_release_41 rfl (q := 0) rfl ?_
      refine j_iload_n (pc := 42) dX3_release_42 rfl (q := 2) rfl ?_
      refine j_put (pc := 43) jv1_6 jm_01 kf_RX3_46 wI1 kp_X3_1 kx1_6_1 hl2 rfl rfl dX3_release_43 (fun M13 => ?_)
      refine j_iinc (pc := 46) [(0, jm_vr wd1 X 6 0), (1, jm_i l1)] (q := 2) dX3_release_46 rfl (by decide) (fun _ => rfl) (fun v14 h15 => ?_)
      refine j_goto (tgt := 7) (pc := 49) dX3_release_49 (by decide) ?_
      refine j_sub (pc := 7) [(0, jm_vr wd1 X 6 0), (1, jm_i l1), (2, jm_i v14)] [1, 2, 0] rfl ?_
      exact hk7 M13 l1 v14 hl1 h15
theorem bX3_release_7 (X : jm_X) (fu : Nat) : ∀ (n : Nat) (M : jm_M) (l1 l2 : Int) (hl1 : jm_in l1) (hl2 : jm_in l2), jm_J wd1 jm_qv cX3_release 3 RX3 rmX3_release X M [(0, jm_vr wd1 X 6 0), (1, jm_i l1), (2, jm_i l2)] [] 7 (fX3_release_7 fu n M l1 l2) := by
  intro n
  induction n with
  | zero => intro M l1 l2 hl1 hl2; exact j_none
  | succ n ih => intro M l1 l2 hl1 hl2; exact b0X3_release_7 X fu (fX3_release_7 fu n) ih M l1 l2 hl1 hl2
set_option maxHeartbeats 4000000 in
set_option maxRecDepth 100000 in
theorem ct_X3_release (fu : Nat) (M : jm_M) (l1 : Int) (hl1 : jm_in l1) : jm_Cv wd1 yX3_release cX3_release 3 none rmX3_release M (fun G ad => [.ref (ad (jm_r wd1 6 0)), jm_i l1]) (fX3_release fu M l1) := by
  refine jm_met_v (fun X => [(0, jm_vr wd1 X 6 0), (1, jm_i l1)]) (by decide) (fun _ _ => (Nat.le_of_ble_eq_true rfl)) (fun _ => rfl) (fun X => ?_)
  unfold fX3_release
  refine j_aload_n (pc := 0) dX3_release_0 rfl (q := 0) rfl ?_
  refine j_geti (pc := 1) jv1_6 jm_01 kf_RX3_46 kg1_6_1 dX3_release_1 (fun h1 => ?_)
  refine j_iconst (pc := 4) dX3_release_4 ?_
  refine j_isub (pc := 5) dX3_release_5 ?_
  refine j_nm (pc := 6) (jm_w_in _) (fun v2 h3 => ?_)
  refine j_istore_n (pc := 6) [(2, jm_i v2), (0, jm_vr wd1 X 6 0), (1, jm_i l1)] dX3_release_6 rfl (by decide) rfl ?_
  refine j_sub (pc := 7) [(0, jm_vr wd1 X 6 0), (1, jm_i l1), (2, jm_i v2)] [1, 2, 0] rfl ?_
  exact bX3_release_7 X fu  fu M l1 v2 hl1 h3
abbrev rmX8_endCondition : Room := { frames := 1, cells := 0, slots := 0, locals := 21 }
set_option maxHeartbeats 4000000 in
set_option maxRecDepth 100000 in
theorem ct_X8_endCondition (M : jm_M) (r0 : Int) (gr0 : 0 ≤ r0 ∧ r0 < 17) : jm_Cv wd1 yX8_endCondition cX8_endCondition 1 none rmX8_endCondition M (fun G ad => [.ref (ad (jm_r wd1 11 r0))]) (fX8_endCondition M r0) := by
  refine jm_met_v (fun X => [(0, jm_vr wd1 X 11 r0)]) (by decide) (fun _ _ => (Nat.le_of_ble_eq_true rfl)) (fun _ => rfl) (fun X => ?_)
  unfold fX8_endCondition
  refine j_aload_n (pc := 0) dX8_endCondition_0 rfl (q := 0) rfl ?_
  refine j_geti (pc := 1) jv1_11 gr0 kf_RX8_31 kg1_11_6 dX8_endCondition_1 (fun h1 => ?_)
  refine j_bipush (pc := 4) 21 dX8_endCondition_4 (by decide) ?_
  refine j_callNi2 (pc := 6) (ct_X11_isIndex M (M 11 r0 6) 21 h1 (jm_inL (by decide) (by decide))) (host := "RaceByLaps") (by decide) km_X11_isIndex kg_562 rfl rfl ⟨(Nat.le_of_ble_eq_true rfl), (Nat.le_of_ble_eq_true rfl)⟩ rfl rfl (Nat.le_of_ble_eq_true rfl) dX8_endCondition_6 (fun v2 M3 h4 => ?_)
  refine j_if_eq (tgt := 67) (pc := 9) h4 dX8_endCondition_9 (by decide) (fun c5 => ?_) (fun c5 => ?_)
  · skip
    exact j_vret (pc := 67) dX8_endCondition_67
  · skip
    refine j_aload_n (pc := 12) dX8_endCondition_12 rfl (q := 0) rfl ?_
    refine j_getr (pc := 13) jv1_11 gr0 kf_RX8_15 r0 kg1_11_2 rfl dX8_endCondition_13 ?_
    refine j_aload_n (pc := 16) dX8_endCondition_16 rfl (q := 0) rfl ?_
    refine j_geti (pc := 17) jv1_11 gr0 kf_RX8_31 kg1_11_6 dX8_endCondition_17 (fun h6 => ?_)
    refine j_aload_n (pc := 20) dX8_endCondition_20 rfl (q := 0) rfl ?_
    refine j_geti (pc := 21) jv1_11 gr0 kf_RX8_27 kg1_11_1 dX8_endCondition_21 (fun h7 => ?_)
    refine j_iast (pc := 24) jv1_21 (by omega) rfl (by decide) wI1 ka1_21 h7 dX8_endCondition_24 (fun c8 M9 => ?_)
    refine j_aload_n (pc := 25) dX8_endCondition_25 rfl (q := 0) rfl ?_
    refine j_getr (pc := 26) jv1_11 gr0 kf_RX8_18 r0 kg1_11_3 rfl dX8_endCondition_26 ?_
    refine j_aload_n (pc := 29) dX8_endCondition_29 rfl (q := 0) rfl ?_
    refine j_geti (pc := 30) jv1_11 gr0 kf_RX8_31 kg1_11_6 dX8_endCondition_30 (fun h10 => ?_)
    refine j_bipush (pc := 33) 9 dX8_endCondition_33 (by decide) ?_
    refine j_iast (pc := 35) jv1_22 (by omega) rfl (by decide) wI1 ka1_22 (jm_inL (by decide) (by decide)) dX8_endCondition_35 (fun c11 M12 => ?_)
    refine j_aload_n (pc := 36) dX8_endCondition_36 rfl (q := 0) rfl ?_
    refine j_getr (pc := 37) jv1_11 gr0 kf_RX8_21 r0 kg1_11_4 rfl dX8_endCondition_37 ?_
    refine j_aload_n (pc := 40) dX8_endCondition_40 rfl (q := 0) rfl ?_
    refine j_geti (pc := 41) jv1_11 gr0 kf_RX8_31 kg1_11_6 dX8_endCondition_41 (fun h13 => ?_)
    refine j_bipush (pc := 44) 9 dX8_endCondition_44 (by decide) ?_
    refine j_iast (pc := 46) jv1_23 (by omega) rfl (by decide) wI1 ka1_23 (jm_inL (by decide) (by decide)) dX8_endCondition_46 (fun c14 M15 => ?_)
    refine j_aload_n (pc := 47) dX8_endCondition_47 rfl (q := 0) rfl ?_
    refine j_getr (pc := 48) jv1_11 gr0 kf_RX8_24 r0 kg1_11_5 rfl dX8_endCondition_48 ?_
    refine j_aload_n (pc := 51) dX8_endCondition_51 rfl (q := 0) rfl ?_
    refine j_geti (pc := 52) jv1_11 gr0 kf_RX8_31 kg1_11_6 dX8_endCondition_52 (fun h16 => ?_)
    refine j_iconst (pc := 55) dX8_endCondition_55 ?_
    refine j_iast (pc := 56) jv1_24 (by omega) rfl (by decide) wI1 ka1_24 (jm_inL (by decide) (by decide)) dX8_endCondition_56 (fun c17 M18 => ?_)
    refine j_aload_n (pc := 57) dX8_endCondition_57 rfl (q := 0) rfl ?_
    refine j_dup (pc := 58) dX8_endCondition_58 rfl ?_
    refine j_geti (pc := 59) jv1_11 gr0 kf_RX8_31 kg1_11_6 dX8_endCondition_59 (fun h19 => ?_)
    refine j_iconst (pc := 62) dX8_endCondition_62 ?_
    refine j_iadd (pc := 63) dX8_endCondition_63 ?_
    refine j_put (pc := 64) jv1_11 gr0 kf_RX8_31 wI1 kp_X8_6 kx1_11_6 (jm_w_in _) rfl rfl dX8_endCondition_64 (fun M20 => ?_)
    exact j_vret (pc := 67) dX8_endCondition_67
abbrev rmX3_endsCondition : Room := { frames := 3, cells := 0, slots := 0, locals := 64 }
set_option maxHeartbeats 4000000 in
set_option maxRecDepth 100000 in
theorem ct_X3_endsCondition (fu : Nat) (M : jm_M) : jm_Ci wd1 yX3_endsCondition cX3_endsCondition 1 (some .boolean) rmX3_endsCondition M (fun G ad => [.ref (ad (jm_r wd1 6 0))]) (fX3_endsCondition fu M ) := by
  refine jm_met_i (fun X => [(0, jm_vr wd1 X 6 0)]) (by decide) (fun _ _ => (Nat.le_of_ble_eq_true rfl)) (fun _ => rfl) (fun X => ?_)
  unfold fX3_endsCondition
  refine j_aload_n (pc := 0) dX3_endsCondition_0 rfl (q := 0) rfl ?_
  refine j_iconst (pc := 1) dX3_endsCondition_1 ?_
  refine j_callVv1 (pc := 2) (ct_X3_release fu M 1 (jm_inL (by decide) (by decide))) kg_775 km_X3_release kv_X3_release rfl rfl ⟨(Nat.le_of_ble_eq_true rfl), (Nat.le_of_ble_eq_true rfl)⟩ jv1_6 jm_01 ko1_6 rfl rfl (Nat.le_of_ble_eq_true rfl) dX3_endsCondition_2 (fun v1 M2 => ?_)
  refine j_aload_n (pc := 5) dX3_endsCondition_5 rfl (q := 0) rfl ?_
  refine j_gett (pc := 6) jv1_6 jm_01 kf_RX3_23 kg1_6_8 dX3_endsCondition_6 (fun c3 => ?_)
  refine j_callVv0 (pc := 9) (ct_X8_endCondition M2 (M2 6 0 8) (by omega)) kg_782 km_X8_endCondition kv_X8_endCondition rfl rfl ⟨(Nat.le_of_ble_eq_true rfl), (Nat.le_of_ble_eq_true rfl)⟩ jv1_11 (by omega) ko1_11 rfl rfl (Nat.le_of_ble_eq_true rfl) dX3_endsCondition_9 (fun v4 M5 => ?_)
  refine j_aload_n (pc := 12) dX3_endsCondition_12 rfl (q := 0) rfl ?_
  refine j_aload_n (pc := 13) dX3_endsCondition_13 rfl (q := 0) rfl ?_
  refine j_geti (pc := 14) jv1_6 jm_01 kf_RX3_19 kg1_6_7 dX3_endsCondition_14 (fun h6 => ?_)
  refine j_if_eq (tgt := 25) (pc := 17) h6 dX3_endsCondition_17 (by decide) (fun c7 => ?_) (fun c7 => ?_)
  · skip
    refine j_iconst (pc := 25) dX3_endsCondition_25 ?_
    refine j_put (pc := 26) jv1_6 jm_01 kf_RX3_39 wI1 kp_X3_6 kx1_6_6 (jm_inL (by decide) (by decide)) rfl rfl dX3_endsCondition_26 (fun M8 => ?_)
    refine j_iconst (pc := 29) dX3_endsCondition_29 ?_
    exact j_iret (pc := 30) (jm_inL (by decide) (by decide)) rfl dX3_endsCondition_30
  · skip
    refine j_bipush (pc := 20) 6 dX3_endsCondition_20 (by decide) ?_
    refine j_goto (tgt := 26) (pc := 22) dX3_endsCondition_22 (by decide) ?_
    refine j_put (pc := 26) jv1_6 jm_01 kf_RX3_39 wI1 kp_X3_6 kx1_6_6 (jm_inL (by decide) (by decide)) rfl rfl dX3_endsCondition_26 (fun M9 => ?_)
    refine j_iconst (pc := 29) dX3_endsCondition_29 ?_
    exact j_iret (pc := 30) (jm_inL (by decide) (by decide)) rfl dX3_endsCondition_30
abbrev rmX3_hold : Room := { frames := 1, cells := 0, slots := 0, locals := 21 }
set_option maxHeartbeats 4000000 in
set_option maxRecDepth 100000 in
theorem ct_X3_hold (M : jm_M) (l1 : Int) (hl1 : jm_in l1) : jm_Cv wd1 yX3_hold cX3_hold 2 none rmX3_hold M (fun G ad => [.ref (ad (jm_r wd1 6 0)), jm_i l1]) (fX3_hold M l1) := by
  refine jm_met_v (fun X => [(0, jm_vr wd1 X 6 0), (1, jm_i l1)]) (by decide) (fun _ _ => (Nat.le_of_ble_eq_true rfl)) (fun _ => rfl) (fun X => ?_)
  unfold fX3_hold
  refine j_aload_n (pc := 0) dX3_hold_0 rfl (q := 0) rfl ?_
  refine j_geti (pc := 1) jv1_6 jm_01 kf_RX3_46 kg1_6_1 dX3_hold_1 (fun h1 => ?_)
  refine j_bipush (pc := 4) 60 dX3_hold_4 (by decide) ?_
  refine j_callNi2 (pc := 6) (ct_X11_isIndex M (M 6 0 1) 60 h1 (jm_inL (by decide) (by decide))) (host := "RaceByLaps") (by decide) km_X11_isIndex kg_562 rfl rfl ⟨(Nat.le_of_ble_eq_true rfl), (Nat.le_of_ble_eq_true rfl)⟩ rfl rfl (Nat.le_of_ble_eq_true rfl) dX3_hold_6 (fun v2 M3 h4 => ?_)
  refine j_if_eq (tgt := 32) (pc := 9) h4 dX3_hold_9 (by decide) (fun c5 => ?_) (fun c5 => ?_)
  · skip
    exact j_vret (pc := 32) dX3_hold_32
  · skip
    refine j_aload_n (pc := 12) dX3_hold_12 rfl (q := 0) rfl ?_
    refine j_getr (pc := 13) jv1_6 jm_01 kf_RX3_9 0 kg1_6_0 rfl dX3_hold_13 ?_
    refine j_aload_n (pc := 16) dX3_hold_16 rfl (q := 0) rfl ?_
    refine j_geti (pc := 17) jv1_6 jm_01 kf_RX3_46 kg1_6_1 dX3_hold_17 (fun h6 => ?_)
    refine j_iload_n (pc := 20) dX3_hold_20 rfl (q := 1) rfl ?_
    refine j_iast (pc := 21) jv1_25 jm_01 rfl (by decide) wI1 ka1_25 hl1 dX3_hold_21 (fun c7 M8 => ?_)
    refine j_aload_n (pc := 22) dX3_hold_22 rfl (q := 0) rfl ?_
    refine j_dup (pc := 23) dX3_hold_23 rfl ?_
    refine j_geti (pc := 24) jv1_6 jm_01 kf_RX3_46 kg1_6_1 dX3_hold_24 (fun h9 => ?_)
    refine j_iconst (pc := 27) dX3_hold_27 ?_
    refine j_iadd (pc := 28) dX3_hold_28 ?_
    refine j_put (pc := 29) jv1_6 jm_01 kf_RX3_46 wI1 kp_X3_1 kx1_6_1 (jm_w_in _) rfl rfl dX3_hold_29 (fun M10 => ?_)
    exact j_vret (pc := 32) dX3_hold_32
abbrev rmX3_opens : Room := { frames := 2, cells := 0, slots := 0, locals := 42 }
set_option maxHeartbeats 4000000 in
set_option maxRecDepth 100000 in
theorem ct_X3_opens (M : jm_M) : jm_Ci wd1 yX3_opens cX3_opens 1 (some .boolean) rmX3_opens M (fun G ad => [.ref (ad (jm_r wd1 6 0))]) (fX3_opens M ) := by
  refine jm_met_i (fun X => [(0, jm_vr wd1 X 6 0)]) (by decide) (fun _ _ => (Nat.le_of_ble_eq_true rfl)) (fun _ => rfl) (fun X => ?_)
  unfold fX3_opens
  refine j_aload_n (pc := 0) dX3_opens_0 rfl (q := 0) rfl ?_
  refine j_geti (pc := 1) jv1_6 jm_01 kf_RX3_49 kg1_6_3 dX3_opens_1 (fun h1 => ?_)
  refine j_bipush (pc := 4) 60 dX3_opens_4 (by decide) ?_
  refine j_callNi2 (pc := 6) (ct_X11_isIndex M (M 6 0 3) 60 h1 (jm_inL (by decide) (by decide))) (host := "RaceByLaps") (by decide) km_X11_isIndex kg_562 rfl rfl ⟨(Nat.le_of_ble_eq_true rfl), (Nat.le_of_ble_eq_true rfl)⟩ rfl rfl (Nat.le_of_ble_eq_true rfl) dX3_opens_6 (fun v2 M3 h4 => ?_)
  refine j_if_ne (tgt := 14) (pc := 9) h4 dX3_opens_9 (by decide) (fun c5 => ?_) (fun c5 => ?_)
  · skip
    refine j_iconst (pc := 12) dX3_opens_12 ?_
    exact j_iret (pc := 13) (jm_inL (by decide) (by decide)) rfl dX3_opens_13
  · skip
    refine j_aload_n (pc := 14) dX3_opens_14 rfl (q := 0) rfl ?_
    refine j_getr (pc := 15) jv1_6 jm_01 kf_RX3_15 0 kg1_6_2 rfl dX3_opens_15 ?_
    refine j_aload_n (pc := 18) dX3_opens_18 rfl (q := 0) rfl ?_
    refine j_geti (pc := 19) jv1_6 jm_01 kf_RX3_49 kg1_6_3 dX3_opens_19 (fun h6 => ?_)
    refine j_aload_n (pc := 22) dX3_opens_22 rfl (q := 0) rfl ?_
    refine j_geti (pc := 23) jv1_6 jm_01 kf_RX3_52 kg1_6_4 dX3_opens_23 (fun h7 => ?_)
    refine j_bast (pc := 26) jv1_26 jm_01 rfl (by decide) wI1 ka1_26 h7 dX3_opens_26 (fun c8 c10 M9 => ?_)
    refine j_aload_n (pc := 27) dX3_opens_27 rfl (q := 0) rfl ?_
    refine j_dup (pc := 28) dX3_opens_28 rfl ?_
    refine j_geti (pc := 29) jv1_6 jm_01 kf_RX3_49 kg1_6_3 dX3_opens_29 (fun h11 => ?_)
    refine j_iconst (pc := 32) dX3_opens_32 ?_
    refine j_iadd (pc := 33) dX3_opens_33 ?_
    refine j_put (pc := 34) jv1_6 jm_01 kf_RX3_49 wI1 kp_X3_3 kx1_6_3 (jm_w_in _) rfl rfl dX3_opens_34 (fun M12 => ?_)
    refine j_aload_n (pc := 37) dX3_opens_37 rfl (q := 0) rfl ?_
    refine j_iconst (pc := 38) dX3_opens_38 ?_
    refine j_put (pc := 39) jv1_6 jm_01 kf_RX3_52 wI1 kp_X3_4 kx1_6_4 (jm_inL (by decide) (by decide)) rfl rfl dX3_opens_39 (fun M13 => ?_)
    refine j_aload_n (pc := 42) dX3_opens_42 rfl (q := 0) rfl ?_
    refine j_bipush (pc := 43) 40 dX3_opens_43 (by decide) ?_
    refine j_callVv1 (pc := 45) (ct_X3_hold M13 40 (jm_inL (by decide) (by decide))) kg_791 km_X3_hold kv_X3_hold rfl rfl ⟨(Nat.le_of_ble_eq_true rfl), (Nat.le_of_ble_eq_true rfl)⟩ jv1_6 jm_01 ko1_6 rfl rfl (Nat.le_of_ble_eq_true rfl) dX3_opens_45 (fun v14 M15 => ?_)
    refine j_aload_n (pc := 48) dX3_opens_48 rfl (q := 0) rfl ?_
    refine j_iconst (pc := 49) dX3_opens_49 ?_
    refine j_put (pc := 50) jv1_6 jm_01 kf_RX3_39 wI1 kp_X3_6 kx1_6_6 (jm_inL (by decide) (by decide)) rfl rfl dX3_opens_50 (fun M16 => ?_)
    refine j_iconst (pc := 53) dX3_opens_53 ?_
    exact j_iret (pc := 54) (jm_inL (by decide) (by decide)) rfl dX3_opens_54
abbrev rmX3_takesOperand : Room := { frames := 10, cells := 0, slots := 0, locals := 443 }
set_option maxHeartbeats 4000000 in
set_option maxRecDepth 100000 in
theorem bX3_takesOperand_113 (X : jm_X) (fu : Nat) : ∀ (M : jm_M) (l1 : Int) (hl1 : jm_in l1), jm_J wd1 (jm_qi .boolean) cX3_takesOperand 2 RX3 rmX3_takesOperand X M [(0, jm_vr wd1 X 6 0), (1, jm_i l1)] [] 113 (gX3_takesOperand_113 fu M l1) := by
  intro M l1 hl1
  unfold gX3_takesOperand_113
  refine j_aload_n (pc := 113) dX3_takesOperand_113 rfl (q := 0) rfl ?_
  refine j_iload_n (pc := 114) dX3_takesOperand_114 rfl (q := 1) rfl ?_
  refine j_bipush (pc := 115) 45 dX3_takesOperand_115 (by decide) ?_
  refine j_icmp_ne (tgt := 125) (pc := 117) hl1 (jm_inL (by decide) (by decide)) dX3_takesOperand_117 (by decide) (fun c1 => ?_) (fun c1 => ?_)
  · skip
    refine j_bipush (pc := 120) 126 dX3_takesOperand_120 (by decide) ?_
    refine j_goto (tgt := 126) (pc := 122) dX3_takesOperand_122 (by decide) ?_
    refine j_callVv1 (pc := 126) (ct_X3_hold M 126 (jm_inL (by decide) (by decide))) kg_791 km_X3_hold kv_X3_hold rfl rfl ⟨(Nat.le_of_ble_eq_true rfl), (Nat.le_of_ble_eq_true rfl)⟩ jv1_6 jm_01 ko1_6 rfl rfl (Nat.le_of_ble_eq_true rfl) dX3_takesOperand_126 (fun v2 M3 => ?_)
    refine j_aload_n (pc := 129) dX3_takesOperand_129 rfl (q := 0) rfl ?_
    refine j_iconst (pc := 130) dX3_takesOperand_130 ?_
    refine j_put (pc := 131) jv1_6 jm_01 kf_RX3_39 wI1 kp_X3_6 kx1_6_6 (jm_inL (by decide) (by decide)) rfl rfl dX3_takesOperand_131 (fun M4 => ?_)
    refine j_iconst (pc := 134) dX3_takesOperand_134 ?_
    exact j_iret (pc := 135) (jm_inL (by decide) (by decide)) rfl dX3_takesOperand_135
  · skip
    refine j_iload_n (pc := 125) dX3_takesOperand_125 rfl (q := 1) rfl ?_
    refine j_callVv1 (pc := 126) (ct_X3_hold M l1 hl1) kg_791 km_X3_hold kv_X3_hold rfl rfl ⟨(Nat.le_of_ble_eq_true rfl), (Nat.le_of_ble_eq_true rfl)⟩ jv1_6 jm_01 ko1_6 rfl rfl (Nat.le_of_ble_eq_true rfl) dX3_takesOperand_126 (fun v5 M6 => ?_)
    refine j_aload_n (pc := 129) dX3_takesOperand_129 rfl (q := 0) rfl ?_
    refine j_iconst (pc := 130) dX3_takesOperand_130 ?_
    refine j_put (pc := 131) jv1_6 jm_01 kf_RX3_39 wI1 kp_X3_6 kx1_6_6 (jm_inL (by decide) (by decide)) rfl rfl dX3_takesOperand_131 (fun M7 => ?_)
    refine j_iconst (pc := 134) dX3_takesOperand_134 ?_
    exact j_iret (pc := 135) (jm_inL (by decide) (by decide)) rfl dX3_takesOperand_135
set_option maxHeartbeats 4000000 in
set_option maxRecDepth 100000 in
theorem bX3_takesOperand_90 (X : jm_X) (fu : Nat) : ∀ (M : jm_M) (l1 : Int) (hl1 : jm_in l1), jm_J wd1 (jm_qi .boolean) cX3_takesOperand 2 RX3 rmX3_takesOperand X M [(0, jm_vr wd1 X 6 0), (1, jm_i l1)] [] 90 (gX3_takesOperand_90 fu M l1) := by
  intro M l1 hl1
  unfold gX3_takesOperand_90
  refine j_iload_n (pc := 90) dX3_takesOperand_90 rfl (q := 1) rfl ?_
  refine j_bipush (pc := 91) 40 dX3_takesOperand_91 (by decide) ?_
  refine j_icmp_ne (tgt := 101) (pc := 93) hl1 (jm_inL (by decide) (by decide)) dX3_takesOperand_93 (by decide) (fun c1 => ?_) (fun c1 => ?_)
  · skip
    refine j_aload_n (pc := 96) dX3_takesOperand_96 rfl (q := 0) rfl ?_
    refine j_callVi0 (pc := 97) (ct_X3_opens M ) kg_786 km_X3_opens kv_X3_opens rfl rfl ⟨(Nat.le_of_ble_eq_true rfl), (Nat.le_of_ble_eq_true rfl)⟩ jv1_6 jm_01 ko1_6 rfl rfl (Nat.le_of_ble_eq_true rfl) dX3_takesOperand_97 (fun v2 M3 h4 => ?_)
    exact j_zret (pc := 100) h4 dX3_takesOperand_100
  · skip
    refine j_iload_n (pc := 101) dX3_takesOperand_101 rfl (q := 1) rfl ?_
    refine j_bipush (pc := 102) 33 dX3_takesOperand_102 (by decide) ?_
    refine j_icmp_eq (tgt := 113) (pc := 104) hl1 (jm_inL (by decide) (by decide)) dX3_takesOperand_104 (by decide) (fun c5 => ?_) (fun c5 => ?_)
    · skip
      refine j_sub (pc := 113) [(0, jm_vr wd1 X 6 0), (1, jm_i l1)] [0, 1] rfl ?_
      exact bX3_takesOperand_113 X fu  M l1 hl1
    · skip
      refine j_iload_n (pc := 107) dX3_takesOperand_107 rfl (q := 1) rfl ?_
      refine j_bipush (pc := 108) 45 dX3_takesOperand_108 (by decide) ?_
      refine j_icmp_ne (tgt := 136) (pc := 110) hl1 (jm_inL (by decide) (by decide)) dX3_takesOperand_110 (by decide) (fun c6 => ?_) (fun c6 => ?_)
      · skip
        refine j_sub (pc := 113) [(0, jm_vr wd1 X 6 0), (1, jm_i l1)] [0, 1] rfl ?_
        exact bX3_takesOperand_113 X fu  M l1 hl1
      · skip
        refine j_iconst (pc := 136) dX3_takesOperand_136 ?_
        exact j_iret (pc := 137) (jm_inL (by decide) (by decide)) rfl dX3_takesOperand_137
set_option maxHeartbeats 4000000 in
set_option maxRecDepth 100000 in
theorem ct_X3_takesOperand (fu : Nat) (M : jm_M) (l1 : Int) (hl1 : jm_in l1) : jm_Ci wd1 yX3_takesOperand cX3_takesOperand 2 (some .boolean) rmX3_takesOperand M (fun G ad => [.ref (ad (jm_r wd1 6 0)), jm_i l1]) (fX3_takesOperand fu M l1) := by
  refine jm_met_i (fun X => [(0, jm_vr wd1 X 6 0), (1, jm_i l1)]) (by decide) (fun _ _ => (Nat.le_of_ble_eq_true rfl)) (fun _ => rfl) (fun X => ?_)
  unfold fX3_takesOperand
  refine j_iload_n (pc := 0) dX3_takesOperand_0 rfl (q := 1) rfl ?_
  refine j_callSi1 (pc := 1) (ct_X3_isDigit M l1 hl1) kg_673 km_X3_isDigit kg_674 rfl rfl ⟨(Nat.le_of_ble_eq_true rfl), (Nat.le_of_ble_eq_true rfl)⟩ rfl rfl (Nat.le_of_ble_eq_true rfl) dX3_takesOperand_1 (fun v1 M2 h3 => ?_)
  refine j_if_eq (tgt := 30) (pc := 4) h3 dX3_takesOperand_4 (by decide) (fun c4 => ?_) (fun c4 => ?_)
  · skip
    refine j_aload_n (pc := 30) dX3_takesOperand_30 rfl (q := 0) rfl ?_
    refine j_iload_n (pc := 31) dX3_takesOperand_31 rfl (q := 1) rfl ?_
    refine j_callVi1 (pc := 32) (ct_X3_isLetter fu M2 l1 hl1) kg_681 km_X3_isLetter kv_X3_isLetter rfl rfl ⟨(Nat.le_of_ble_eq_true rfl), (Nat.le_of_ble_eq_true rfl)⟩ jv1_6 jm_01 ko1_6 rfl rfl (Nat.le_of_ble_eq_true rfl) dX3_takesOperand_32 (fun v5 M6 h7 => ?_)
    refine j_if_eq (tgt := 65) (pc := 35) h7 dX3_takesOperand_35 (by decide) (fun c8 => ?_) (fun c8 => ?_)
    · skip
      refine j_iload_n (pc := 65) dX3_takesOperand_65 rfl (q := 1) rfl ?_
      refine j_bipush (pc := 66) 58 dX3_takesOperand_66 (by decide) ?_
      refine j_icmp_ne (tgt := 90) (pc := 68) hl1 (jm_inL (by decide) (by decide)) dX3_takesOperand_68 (by decide) (fun c9 => ?_) (fun c9 => ?_)
      · skip
        refine j_aload_n (pc := 71) dX3_takesOperand_71 rfl (q := 0) rfl ?_
        refine j_geti (pc := 72) jv1_6 jm_01 kf_RX3_19 kg1_6_7 dX3_takesOperand_72 (fun h10 => ?_)
        refine j_if_eq (tgt := 90) (pc := 75) h10 dX3_takesOperand_75 (by decide) (fun c11 => ?_) (fun c11 => ?_)
        · skip
          refine j_sub (pc := 90) [(0, jm_vr wd1 X 6 0), (1, jm_i l1)] [0, 1] rfl ?_
          exact bX3_takesOperand_90 X fu  M6 l1 hl1
        · skip
          refine j_aload_n (pc := 78) dX3_takesOperand_78 rfl (q := 0) rfl ?_
          refine j_geti (pc := 79) jv1_6 jm_01 kf_RX3_39 kg1_6_6 dX3_takesOperand_79 (fun h12 => ?_)
          refine j_if_ne (tgt := 90) (pc := 82) h12 dX3_takesOperand_82 (by decide) (fun c13 => ?_) (fun c13 => ?_)
          · skip
            refine j_aload_n (pc := 85) dX3_takesOperand_85 rfl (q := 0) rfl ?_
            refine j_callVi0 (pc := 86) (ct_X3_endsCondition fu M6 ) kg_771 km_X3_endsCondition kv_X3_endsCondition rfl rfl ⟨(Nat.le_of_ble_eq_true rfl), (Nat.le_of_ble_eq_true rfl)⟩ jv1_6 jm_01 ko1_6 rfl rfl (Nat.le_of_ble_eq_true rfl) dX3_takesOperand_86 (fun v14 M15 h16 => ?_)
            exact j_zret (pc := 89) h16 dX3_takesOperand_89
          · skip
            refine j_sub (pc := 90) [(0, jm_vr wd1 X 6 0), (1, jm_i l1)] [0, 1] rfl ?_
            exact bX3_takesOperand_90 X fu  M6 l1 hl1
      · skip
        refine j_sub (pc := 90) [(0, jm_vr wd1 X 6 0), (1, jm_i l1)] [0, 1] rfl ?_
        exact bX3_takesOperand_90 X fu  M6 l1 hl1
    · skip
      refine j_aload_n (pc := 38) dX3_takesOperand_38 rfl (q := 0) rfl ?_
      refine j_gett (pc := 39) jv1_6 jm_01 kf_RX3_23 kg1_6_8 dX3_takesOperand_39 (fun c17 => ?_)
      refine j_sipush (pc := 42) 1000 dX3_takesOperand_42 (by decide) ?_
      refine j_iload_n (pc := 45) dX3_takesOperand_45 rfl (q := 1) rfl ?_
      refine j_iadd (pc := 46) dX3_takesOperand_46 ?_
      refine j_bipush (pc := 47) 97 dX3_takesOperand_47 (by decide) ?_
      refine j_isub (pc := 49) dX3_takesOperand_49 ?_
      refine j_callVv1 (pc := 50) (ct_X8_emit M6 (M6 6 0 8) (jm_w ((jm_w (1000 + l1)) - 97)) (by omega) (jm_w_in _)) kg_676 km_X8_emit kv_X8_emit rfl rfl ⟨(Nat.le_of_ble_eq_true rfl), (Nat.le_of_ble_eq_true rfl)⟩ jv1_11 (by omega) ko1_11 rfl rfl (Nat.le_of_ble_eq_true rfl) dX3_takesOperand_50 (fun v18 M19 => ?_)
      refine j_aload_n (pc := 53) dX3_takesOperand_53 rfl (q := 0) rfl ?_
      refine j_iconst (pc := 54) dX3_takesOperand_54 ?_
      refine j_put (pc := 55) jv1_6 jm_01 kf_RX3_43 wI1 kp_X3_5 kx1_6_5 (jm_inL (by decide) (by decide)) rfl rfl dX3_takesOperand_55 (fun M20 => ?_)
      refine j_aload_n (pc := 58) dX3_takesOperand_58 rfl (q := 0) rfl ?_
      refine j_iconst (pc := 59) dX3_takesOperand_59 ?_
      refine j_put (pc := 60) jv1_6 jm_01 kf_RX3_39 wI1 kp_X3_6 kx1_6_6 (jm_inL (by decide) (by decide)) rfl rfl dX3_takesOperand_60 (fun M21 => ?_)
      refine j_iconst (pc := 63) dX3_takesOperand_63 ?_
      exact j_iret (pc := 64) (jm_inL (by decide) (by decide)) rfl dX3_takesOperand_64
  · skip
    refine j_aload_n (pc := 7) dX3_takesOperand_7 rfl (q := 0) rfl ?_
    refine j_gett (pc := 8) jv1_6 jm_01 kf_RX3_23 kg1_6_8 dX3_takesOperand_8 (fun c22 => ?_)
    refine j_iload_n (pc := 11) dX3_takesOperand_11 rfl (q := 1) rfl ?_
    refine j_bipush (pc := 12) 48 dX3_takesOperand_12 (by decide) ?_
    refine j_isub (pc := 14) dX3_takesOperand_14 ?_
    refine j_callVv1 (pc := 15) (ct_X8_emit M2 (M2 6 0 8) (jm_w (l1 - 48)) (by omega) (jm_w_in _)) kg_676 km_X8_emit kv_X8_emit rfl rfl ⟨(Nat.le_of_ble_eq_true rfl), (Nat.le_of_ble_eq_true rfl)⟩ jv1_11 (by omega) ko1_11 rfl rfl (Nat.le_of_ble_eq_true rfl) dX3_takesOperand_15 (fun v23 M24 => ?_)
    refine j_aload_n (pc := 18) dX3_takesOperand_18 rfl (q := 0) rfl ?_
    refine j_iconst (pc := 19) dX3_takesOperand_19 ?_
    refine j_put (pc := 20) jv1_6 jm_01 kf_RX3_43 wI1 kp_X3_5 kx1_6_5 (jm_inL (by decide) (by decide)) rfl rfl dX3_takesOperand_20 (fun M25 => ?_)
    refine j_aload_n (pc := 23) dX3_takesOperand_23 rfl (q := 0) rfl ?_
    refine j_iconst (pc := 24) dX3_takesOperand_24 ?_
    refine j_put (pc := 25) jv1_6 jm_01 kf_RX3_39 wI1 kp_X3_6 kx1_6_6 (jm_inL (by decide) (by decide)) rfl rfl dX3_takesOperand_25 (fun M26 => ?_)
    refine j_iconst (pc := 28) dX3_takesOperand_28 ?_
    exact j_iret (pc := 29) (jm_inL (by decide) (by decide)) rfl dX3_takesOperand_29
abbrev rmX3_closes : Room := { frames := 3, cells := 0, slots := 0, locals := 64 }
set_option maxHeartbeats 4000000 in
set_option maxRecDepth 100000 in
theorem ct_X3_closes (fu : Nat) (M : jm_M) : jm_Ci wd1 yX3_closes cX3_closes 1 (some .boolean) rmX3_closes M (fun G ad => [.ref (ad (jm_r wd1 6 0))]) (fX3_closes fu M ) := by
  refine jm_met_i (fun X => [(0, jm_vr wd1 X 6 0)]) (by decide) (fun _ _ => (Nat.le_of_ble_eq_true rfl)) (fun _ => rfl) (fun X => ?_)
  unfold fX3_closes
  refine j_aload_n (pc := 0) dX3_closes_0 rfl (q := 0) rfl ?_
  refine j_geti (pc := 1) jv1_6 jm_01 kf_RX3_49 kg1_6_3 dX3_closes_1 (fun h1 => ?_)
  refine j_iconst (pc := 4) dX3_closes_4 ?_
  refine j_isub (pc := 5) dX3_closes_5 ?_
  refine j_bipush (pc := 6) 60 dX3_closes_6 (by decide) ?_
  refine j_callNi2 (pc := 8) (ct_X11_isIndex M (jm_w ((M 6 0 3) - 1)) 60 (jm_w_in _) (jm_inL (by decide) (by decide))) (host := "RaceByLaps") (by decide) km_X11_isIndex kg_562 rfl rfl ⟨(Nat.le_of_ble_eq_true rfl), (Nat.le_of_ble_eq_true rfl)⟩ rfl rfl (Nat.le_of_ble_eq_true rfl) dX3_closes_8 (fun v2 M3 h4 => ?_)
  refine j_if_ne (tgt := 16) (pc := 11) h4 dX3_closes_11 (by decide) (fun c5 => ?_) (fun c5 => ?_)
  · skip
    refine j_iconst (pc := 14) dX3_closes_14 ?_
    exact j_iret (pc := 15) (jm_inL (by decide) (by decide)) rfl dX3_closes_15
  · skip
    refine j_aload_n (pc := 16) dX3_closes_16 rfl (q := 0) rfl ?_
    refine j_iconst (pc := 17) dX3_closes_17 ?_
    refine j_callVv1 (pc := 18) (ct_X3_release fu M3 1 (jm_inL (by decide) (by decide))) kg_775 km_X3_release kv_X3_release rfl rfl ⟨(Nat.le_of_ble_eq_true rfl), (Nat.le_of_ble_eq_true rfl)⟩ jv1_6 jm_01 ko1_6 rfl rfl (Nat.le_of_ble_eq_true rfl) dX3_closes_18 (fun v6 M7 => ?_)
    refine j_aload_n (pc := 21) dX3_closes_21 rfl (q := 0) rfl ?_
    refine j_dup (pc := 22) dX3_closes_22 rfl ?_
    refine j_geti (pc := 23) jv1_6 jm_01 kf_RX3_46 kg1_6_1 dX3_closes_23 (fun h8 => ?_)
    refine j_iconst (pc := 26) dX3_closes_26 ?_
    refine j_isub (pc := 27) dX3_closes_27 ?_
    refine j_put (pc := 28) jv1_6 jm_01 kf_RX3_46 wI1 kp_X3_1 kx1_6_1 (jm_w_in _) rfl rfl dX3_closes_28 (fun M9 => ?_)
    refine j_aload_n (pc := 31) dX3_closes_31 rfl (q := 0) rfl ?_
    refine j_dup (pc := 32) dX3_closes_32 rfl ?_
    refine j_geti (pc := 33) jv1_6 jm_01 kf_RX3_49 kg1_6_3 dX3_closes_33 (fun h10 => ?_)
    refine j_iconst (pc := 36) dX3_closes_36 ?_
    refine j_isub (pc := 37) dX3_closes_37 ?_
    refine j_put (pc := 38) jv1_6 jm_01 kf_RX3_49 wI1 kp_X3_3 kx1_6_3 (jm_w_in _) rfl rfl dX3_closes_38 (fun M11 => ?_)
    refine j_aload_n (pc := 41) dX3_closes_41 rfl (q := 0) rfl ?_
    refine j_aload_n (pc := 42) dX3_closes_42 rfl (q := 0) rfl ?_
    refine j_getr (pc := 43) jv1_6 jm_01 kf_RX3_15 0 kg1_6_2 rfl dX3_closes_43 ?_
    refine j_aload_n (pc := 46) dX3_closes_46 rfl (q := 0) rfl ?_
    refine j_geti (pc := 47) jv1_6 jm_01 kf_RX3_49 kg1_6_3 dX3_closes_47 (fun h12 => ?_)
    refine j_bald (pc := 50) jv1_26 jm_01 rfl (by decide) ka1_26 dX3_closes_50 (fun c13 h14 => ?_)
    refine j_putz (pc := 51) jv1_6 jm_01 kf_RX3_52 wI1 kp_X3_4 rfl kx1_6_4 h14 dX3_closes_51 (fun c16 M15 => ?_)
    refine j_iconst (pc := 54) dX3_closes_54 ?_
    exact j_iret (pc := 55) (jm_inL (by decide) (by decide)) rfl dX3_closes_55
abbrev rmX3_joins : Room := { frames := 3, cells := 0, slots := 0, locals := 64 }
set_option maxHeartbeats 4000000 in
set_option maxRecDepth 100000 in
theorem bX3_joins_48 (X : jm_X) (fu : Nat) : ∀ (M : jm_M) (l1 l2 : Int) (hl1 : jm_in l1) (hl2 : jm_in l2), jm_J wd1 (jm_qi .boolean) cX3_joins 3 RX3 rmX3_joins X M [(0, jm_vr wd1 X 6 0), (1, jm_i l1), (2, jm_i l2)] [] 48 (gX3_joins_48 fu M l1 l2) := by
  intro M l1 l2 hl1 hl2
  unfold gX3_joins_48
  refine j_aload_n (pc := 48) dX3_joins_48 rfl (q := 0) rfl ?_
  refine j_iload_n (pc := 49) dX3_joins_49 rfl (q := 2) rfl ?_
  refine j_callVv1 (pc := 50) (ct_X3_release fu M l2 hl2) kg_775 km_X3_release kv_X3_release rfl rfl ⟨(Nat.le_of_ble_eq_true rfl), (Nat.le_of_ble_eq_true rfl)⟩ jv1_6 jm_01 ko1_6 rfl rfl (Nat.le_of_ble_eq_true rfl) dX3_joins_50 (fun v1 M2 => ?_)
  refine j_aload_n (pc := 53) dX3_joins_53 rfl (q := 0) rfl ?_
  refine j_iload_n (pc := 54) dX3_joins_54 rfl (q := 1) rfl ?_
  refine j_callVv1 (pc := 55) (ct_X3_hold M2 l1 hl1) kg_791 km_X3_hold kv_X3_hold rfl rfl ⟨(Nat.le_of_ble_eq_true rfl), (Nat.le_of_ble_eq_true rfl)⟩ jv1_6 jm_01 ko1_6 rfl rfl (Nat.le_of_ble_eq_true rfl) dX3_joins_55 (fun v3 M4 => ?_)
  refine j_aload_n (pc := 58) dX3_joins_58 rfl (q := 0) rfl ?_
  refine j_iconst (pc := 59) dX3_joins_59 ?_
  refine j_put (pc := 60) jv1_6 jm_01 kf_RX3_39 wI1 kp_X3_6 kx1_6_6 (jm_inL (by decide) (by decide)) rfl rfl dX3_joins_60 (fun M5 => ?_)
  refine j_iconst (pc := 63) dX3_joins_63 ?_
  exact j_iret (pc := 64) (jm_inL (by decide) (by decide)) rfl dX3_joins_64
set_option maxHeartbeats 4000000 in
set_option maxRecDepth 100000 in
theorem bX3_joins_29 (X : jm_X) (fu : Nat) : ∀ (M : jm_M) (l1 l2 : Int) (hl1 : jm_in l1) (hl2 : jm_in l2), jm_J wd1 (jm_qi .boolean) cX3_joins 3 RX3 rmX3_joins X M [(0, jm_vr wd1 X 6 0), (1, jm_i l1), (2, jm_i l2)] [] 29 (gX3_joins_29 fu M l1 l2) := by
  intro M l1 l2 hl1 hl2
  unfold gX3_joins_29
  refine j_iload_n (pc := 29) dX3_joins_29 rfl (q := 2) rfl ?_
  refine j_iconst (pc := 30) dX3_joins_30 ?_
  refine j_icmp_gt (tgt := 48) (pc := 31) hl2 (jm_inL (by decide) (by decide)) dX3_joins_31 (by decide) (fun c1 => ?_) (fun c1 => ?_)
  · skip
    refine j_sub (pc := 48) [(0, jm_vr wd1 X 6 0), (1, jm_i l1), (2, jm_i l2)] [0, 1, 2] rfl ?_
    exact bX3_joins_48 X fu  M l1 l2 hl1 hl2
  · skip
    refine j_aload_n (pc := 34) dX3_joins_34 rfl (q := 0) rfl ?_
    refine j_iload_n (pc := 35) dX3_joins_35 rfl (q := 2) rfl ?_
    refine j_iconst (pc := 36) dX3_joins_36 ?_
    refine j_icmp_ne (tgt := 44) (pc := 37) hl2 (jm_inL (by decide) (by decide)) dX3_joins_37 (by decide) (fun c2 => ?_) (fun c2 => ?_)
    · skip
      refine j_iconst (pc := 40) dX3_joins_40 ?_
      refine j_goto (tgt := 45) (pc := 41) dX3_joins_41 (by decide) ?_
      refine j_put (pc := 45) jv1_6 jm_01 kf_RX3_52 wI1 kp_X3_4 kx1_6_4 (jm_inL (by decide) (by decide)) rfl rfl dX3_joins_45 (fun M3 => ?_)
      refine j_sub (pc := 48) [(0, jm_vr wd1 X 6 0), (1, jm_i l1), (2, jm_i l2)] [0, 1, 2] rfl ?_
      exact bX3_joins_48 X fu  M3 l1 l2 hl1 hl2
    · skip
      refine j_iconst (pc := 44) dX3_joins_44 ?_
      refine j_put (pc := 45) jv1_6 jm_01 kf_RX3_52 wI1 kp_X3_4 kx1_6_4 (jm_inL (by decide) (by decide)) rfl rfl dX3_joins_45 (fun M4 => ?_)
      refine j_sub (pc := 48) [(0, jm_vr wd1 X 6 0), (1, jm_i l1), (2, jm_i l2)] [0, 1, 2] rfl ?_
      exact bX3_joins_48 X fu  M4 l1 l2 hl1 hl2
set_option maxHeartbeats 4000000 in
set_option maxRecDepth 100000 in
theorem ct_X3_joins (fu : Nat) (M : jm_M) (l1 : Int) (hl1 : jm_in l1) : jm_Ci wd1 yX3_joins cX3_joins 3 (some .boolean) rmX3_joins M (fun G ad => [.ref (ad (jm_r wd1 6 0)), jm_i l1]) (fX3_joins fu M l1) := by
  refine jm_met_i (fun X => [(0, jm_vr wd1 X 6 0), (1, jm_i l1)]) (by decide) (fun _ _ => (Nat.le_of_ble_eq_true rfl)) (fun _ => rfl) (fun X => ?_)
  unfold fX3_joins
  refine j_iload_n (pc := 0) dX3_joins_0 rfl (q := 1) rfl ?_
  refine j_callSi1 (pc := 1) (ct_X3_levelOf M l1 hl1) kg_779 km_X3_levelOf kg_780 rfl rfl ⟨(Nat.le_of_ble_eq_true rfl), (Nat.le_of_ble_eq_true rfl)⟩ rfl rfl (Nat.le_of_ble_eq_true rfl) dX3_joins_1 (fun v1 M2 h3 => ?_)
  refine j_istore_n (pc := 4) [(2, jm_i v1), (0, jm_vr wd1 X 6 0), (1, jm_i l1)] dX3_joins_4 rfl (by decide) rfl ?_
  refine j_iload_n (pc := 5) dX3_joins_5 rfl (q := 0) rfl ?_
  refine j_if_eq (tgt := 27) (pc := 6) h3 dX3_joins_6 (by decide) (fun c4 => ?_) (fun c4 => ?_)
  · skip
    refine j_iconst (pc := 27) dX3_joins_27 ?_
    exact j_iret (pc := 28) (jm_inL (by decide) (by decide)) rfl dX3_joins_28
  · skip
    refine j_iload_n (pc := 9) dX3_joins_9 rfl (q := 0) rfl ?_
    refine j_bipush (pc := 10) 6 dX3_joins_10 (by decide) ?_
    refine j_icmp_eq (tgt := 27) (pc := 12) h3 (jm_inL (by decide) (by decide)) dX3_joins_12 (by decide) (fun c5 => ?_) (fun c5 => ?_)
    · skip
      refine j_iconst (pc := 27) dX3_joins_27 ?_
      exact j_iret (pc := 28) (jm_inL (by decide) (by decide)) rfl dX3_joins_28
    · skip
      refine j_iload_n (pc := 15) dX3_joins_15 rfl (q := 0) rfl ?_
      refine j_iconst (pc := 16) dX3_joins_16 ?_
      refine j_icmp_ne (tgt := 29) (pc := 17) h3 (jm_inL (by decide) (by decide)) dX3_joins_17 (by decide) (fun c6 => ?_) (fun c6 => ?_)
      · skip
        refine j_aload_n (pc := 20) dX3_joins_20 rfl (q := 1) rfl ?_
        refine j_geti (pc := 21) jv1_6 jm_01 kf_RX3_52 kg1_6_4 dX3_joins_21 (fun h7 => ?_)
        refine j_if_eq (tgt := 29) (pc := 24) h7 dX3_joins_24 (by decide) (fun c8 => ?_) (fun c8 => ?_)
        · skip
          refine j_sub (pc := 29) [(0, jm_vr wd1 X 6 0), (1, jm_i l1), (2, jm_i v1)] [1, 2, 0] rfl ?_
          exact bX3_joins_29 X fu  M2 l1 v1 hl1 h3
        · skip
          refine j_iconst (pc := 27) dX3_joins_27 ?_
          exact j_iret (pc := 28) (jm_inL (by decide) (by decide)) rfl dX3_joins_28
      · skip
        refine j_sub (pc := 29) [(0, jm_vr wd1 X 6 0), (1, jm_i l1), (2, jm_i v1)] [1, 2, 0] rfl ?_
        exact bX3_joins_29 X fu  M2 l1 v1 hl1 h3
abbrev rmX8_addDigit : Room := { frames := 1, cells := 0, slots := 0, locals := 21 }
set_option maxHeartbeats 4000000 in
set_option maxRecDepth 100000 in
theorem ct_X8_addDigit (M : jm_M) (r0 l1 : Int) (gr0 : 0 ≤ r0 ∧ r0 < 17) (hl1 : jm_in l1) : jm_Cv wd1 yX8_addDigit cX8_addDigit 2 none rmX8_addDigit M (fun G ad => [.ref (ad (jm_r wd1 11 r0)), jm_i l1]) (fX8_addDigit M r0 l1) := by
  refine jm_met_v (fun X => [(0, jm_vr wd1 X 11 r0), (1, jm_i l1)]) (by decide) (fun _ _ => (Nat.le_of_ble_eq_true rfl)) (fun _ => rfl) (fun X => ?_)
  unfold fX8_addDigit
  refine j_aload_n (pc := 0) dX8_addDigit_0 rfl (q := 0) rfl ?_
  refine j_geti (pc := 1) jv1_11 gr0 kf_RX8_27 kg1_11_1 dX8_addDigit_1 (fun h1 => ?_)
  refine j_iconst (pc := 4) dX8_addDigit_4 ?_
  refine j_isub (pc := 5) dX8_addDigit_5 ?_
  refine j_bipush (pc := 6) 60 dX8_addDigit_6 (by decide) ?_
  refine j_callNi2 (pc := 8) (ct_X11_isIndex M (jm_w ((M 11 r0 1) - 1)) 60 (jm_w_in _) (jm_inL (by decide) (by decide))) (host := "RaceByLaps") (by decide) km_X11_isIndex kg_562 rfl rfl ⟨(Nat.le_of_ble_eq_true rfl), (Nat.le_of_ble_eq_true rfl)⟩ rfl rfl (Nat.le_of_ble_eq_true rfl) dX8_addDigit_8 (fun v2 M3 h4 => ?_)
  refine j_if_eq (tgt := 41) (pc := 11) h4 dX8_addDigit_11 (by decide) (fun c5 => ?_) (fun c5 => ?_)
  · skip
    exact j_vret (pc := 41) dX8_addDigit_41
  · skip
    refine j_aload_n (pc := 14) dX8_addDigit_14 rfl (q := 0) rfl ?_
    refine j_getr (pc := 15) jv1_11 gr0 kf_RX8_9 r0 kg1_11_0 rfl dX8_addDigit_15 ?_
    refine j_aload_n (pc := 18) dX8_addDigit_18 rfl (q := 0) rfl ?_
    refine j_geti (pc := 19) jv1_11 gr0 kf_RX8_27 kg1_11_1 dX8_addDigit_19 (fun h6 => ?_)
    refine j_iconst (pc := 22) dX8_addDigit_22 ?_
    refine j_isub (pc := 23) dX8_addDigit_23 ?_
    refine j_aload_n (pc := 24) dX8_addDigit_24 rfl (q := 0) rfl ?_
    refine j_getr (pc := 25) jv1_11 gr0 kf_RX8_9 r0 kg1_11_0 rfl dX8_addDigit_25 ?_
    refine j_aload_n (pc := 28) dX8_addDigit_28 rfl (q := 0) rfl ?_
    refine j_geti (pc := 29) jv1_11 gr0 kf_RX8_27 kg1_11_1 dX8_addDigit_29 (fun h7 => ?_)
    refine j_iconst (pc := 32) dX8_addDigit_32 ?_
    refine j_isub (pc := 33) dX8_addDigit_33 ?_
    refine j_iald (pc := 34) jv1_20 (by omega) rfl (by decide) ka1_20 dX8_addDigit_34 (fun c8 h9 => ?_)
    refine j_bipush (pc := 35) 10 dX8_addDigit_35 (by decide) ?_
    refine j_imul (pc := 37) dX8_addDigit_37 ?_
    refine j_iload_n (pc := 38) dX8_addDigit_38 rfl (q := 1) rfl ?_
    refine j_iadd (pc := 39) dX8_addDigit_39 ?_
    refine j_iast (pc := 40) jv1_20 (by omega) rfl (by decide) wI1 ka1_20 (jm_w_in _) dX8_addDigit_40 (fun c10 M11 => ?_)
    exact j_vret (pc := 41) dX8_addDigit_41
abbrev rmX3_takesBehindOperand : Room := { frames := 4, cells := 0, slots := 0, locals := 86 }
set_option maxHeartbeats 4000000 in
set_option maxRecDepth 100000 in
theorem ct_X3_takesBehindOperand (fu : Nat) (M : jm_M) (l1 : Int) (hl1 : jm_in l1) : jm_Ci wd1 yX3_takesBehindOperand cX3_takesBehindOperand 2 (some .boolean) rmX3_takesBehindOperand M (fun G ad => [.ref (ad (jm_r wd1 6 0)), jm_i l1]) (fX3_takesBehindOperand fu M l1) := by
  refine jm_met_i (fun X => [(0, jm_vr wd1 X 6 0), (1, jm_i l1)]) (by decide) (fun _ _ => (Nat.le_of_ble_eq_true rfl)) (fun _ => rfl) (fun X => ?_)
  unfold fX3_takesBehindOperand
  refine j_iload_n (pc := 0) dX3_takesBehindOperand_0 rfl (q := 1) rfl ?_
  refine j_callSi1 (pc := 1) (ct_X3_isDigit M l1 hl1) kg_673 km_X3_isDigit kg_674 rfl rfl ⟨(Nat.le_of_ble_eq_true rfl), (Nat.le_of_ble_eq_true rfl)⟩ rfl rfl (Nat.le_of_ble_eq_true rfl) dX3_takesBehindOperand_1 (fun v1 M2 h3 => ?_)
  refine j_if_eq (tgt := 48) (pc := 4) h3 dX3_takesBehindOperand_4 (by decide) (fun c4 => ?_) (fun c4 => ?_)
  · skip
    refine j_aload_n (pc := 48) dX3_takesBehindOperand_48 rfl (q := 0) rfl ?_
    refine j_iconst (pc := 49) dX3_takesBehindOperand_49 ?_
    refine j_put (pc := 50) jv1_6 jm_01 kf_RX3_43 wI1 kp_X3_5 kx1_6_5 (jm_inL (by decide) (by decide)) rfl rfl dX3_takesBehindOperand_50 (fun M5 => ?_)
    refine j_iload_n (pc := 53) dX3_takesBehindOperand_53 rfl (q := 1) rfl ?_
    refine j_bipush (pc := 54) 58 dX3_takesBehindOperand_54 (by decide) ?_
    refine j_icmp_ne (tgt := 79) (pc := 56) hl1 (jm_inL (by decide) (by decide)) dX3_takesBehindOperand_56 (by decide) (fun c6 => ?_) (fun c6 => ?_)
    · skip
      refine j_aload_n (pc := 59) dX3_takesBehindOperand_59 rfl (q := 0) rfl ?_
      refine j_geti (pc := 60) jv1_6 jm_01 kf_RX3_49 kg1_6_3 dX3_takesBehindOperand_60 (fun h7 => ?_)
      refine j_if_ne (tgt := 77) (pc := 63) h7 dX3_takesBehindOperand_63 (by decide) (fun c8 => ?_) (fun c8 => ?_)
      · skip
        refine j_aload_n (pc := 66) dX3_takesBehindOperand_66 rfl (q := 0) rfl ?_
        refine j_callVi0 (pc := 67) (ct_X3_endsCondition fu M5 ) kg_771 km_X3_endsCondition kv_X3_endsCondition rfl rfl ⟨(Nat.le_of_ble_eq_true rfl), (Nat.le_of_ble_eq_true rfl)⟩ jv1_6 jm_01 ko1_6 rfl rfl (Nat.le_of_ble_eq_true rfl) dX3_takesBehindOperand_67 (fun v9 M10 h11 => ?_)
        refine j_if_eq (tgt := 77) (pc := 70) h11 dX3_takesBehindOperand_70 (by decide) (fun c12 => ?_) (fun c12 => ?_)
        · skip
          refine j_iconst (pc := 77) dX3_takesBehindOperand_77 ?_
          exact j_iret (pc := 78) (jm_inL (by decide) (by decide)) rfl dX3_takesBehindOperand_78
        · skip
          refine j_iconst (pc := 73) dX3_takesBehindOperand_73 ?_
          refine j_goto (tgt := 78) (pc := 74) dX3_takesBehindOperand_74 (by decide) ?_
          exact j_iret (pc := 78) (jm_inL (by decide) (by decide)) rfl dX3_takesBehindOperand_78
      · skip
        refine j_iconst (pc := 77) dX3_takesBehindOperand_77 ?_
        exact j_iret (pc := 78) (jm_inL (by decide) (by decide)) rfl dX3_takesBehindOperand_78
    · skip
      refine j_iload_n (pc := 79) dX3_takesBehindOperand_79 rfl (q := 1) rfl ?_
      refine j_bipush (pc := 80) 41 dX3_takesBehindOperand_80 (by decide) ?_
      refine j_icmp_ne (tgt := 90) (pc := 82) hl1 (jm_inL (by decide) (by decide)) dX3_takesBehindOperand_82 (by decide) (fun c13 => ?_) (fun c13 => ?_)
      · skip
        refine j_aload_n (pc := 85) dX3_takesBehindOperand_85 rfl (q := 0) rfl ?_
        refine j_callVi0 (pc := 86) (ct_X3_closes fu M5 ) kg_803 km_X3_closes kv_X3_closes rfl rfl ⟨(Nat.le_of_ble_eq_true rfl), (Nat.le_of_ble_eq_true rfl)⟩ jv1_6 jm_01 ko1_6 rfl rfl (Nat.le_of_ble_eq_true rfl) dX3_takesBehindOperand_86 (fun v14 M15 h16 => ?_)
        exact j_zret (pc := 89) h16 dX3_takesBehindOperand_89
      · skip
        refine j_aload_n (pc := 90) dX3_takesBehindOperand_90 rfl (q := 0) rfl ?_
        refine j_iload_n (pc := 91) dX3_takesBehindOperand_91 rfl (q := 1) rfl ?_
        refine j_callVi1 (pc := 92) (ct_X3_joins fu M5 l1 hl1) kg_807 km_X3_joins kv_X3_joins rfl rfl ⟨(Nat.le_of_ble_eq_true rfl), (Nat.le_of_ble_eq_true rfl)⟩ jv1_6 jm_01 ko1_6 rfl rfl (Nat.le_of_ble_eq_true rfl) dX3_takesBehindOperand_92 (fun v17 M18 h19 => ?_)
        exact j_zret (pc := 95) h19 dX3_takesBehindOperand_95
  · skip
    refine j_aload_n (pc := 7) dX3_takesBehindOperand_7 rfl (q := 0) rfl ?_
    refine j_geti (pc := 8) jv1_6 jm_01 kf_RX3_43 kg1_6_5 dX3_takesBehindOperand_8 (fun h20 => ?_)
    refine j_iconst (pc := 11) dX3_takesBehindOperand_11 ?_
    refine j_icmp_lt (tgt := 23) (pc := 12) h20 (jm_inL (by decide) (by decide)) dX3_takesBehindOperand_12 (by decide) (fun c21 => ?_) (fun c21 => ?_)
    · skip
      refine j_iconst (pc := 23) dX3_takesBehindOperand_23 ?_
      exact j_iret (pc := 24) (jm_inL (by decide) (by decide)) rfl dX3_takesBehindOperand_24
    · skip
      refine j_aload_n (pc := 15) dX3_takesBehindOperand_15 rfl (q := 0) rfl ?_
      refine j_geti (pc := 16) jv1_6 jm_01 kf_RX3_43 kg1_6_5 dX3_takesBehindOperand_16 (fun h22 => ?_)
      refine j_iconst (pc := 19) dX3_takesBehindOperand_19 ?_
      refine j_icmp_le (tgt := 25) (pc := 20) h22 (jm_inL (by decide) (by decide)) dX3_takesBehindOperand_20 (by decide) (fun c23 => ?_) (fun c23 => ?_)
      · skip
        refine j_aload_n (pc := 25) dX3_takesBehindOperand_25 rfl (q := 0) rfl ?_
        refine j_gett (pc := 26) jv1_6 jm_01 kf_RX3_23 kg1_6_8 dX3_takesBehindOperand_26 (fun c24 => ?_)
        refine j_iload_n (pc := 29) dX3_takesBehindOperand_29 rfl (q := 1) rfl ?_
        refine j_bipush (pc := 30) 48 dX3_takesBehindOperand_30 (by decide) ?_
        refine j_isub (pc := 32) dX3_takesBehindOperand_32 ?_
        refine j_callVv1 (pc := 33) (ct_X8_addDigit M2 (M2 6 0 8) (jm_w (l1 - 48)) (by omega) (jm_w_in _)) kg_799 km_X8_addDigit kv_X8_addDigit rfl rfl ⟨(Nat.le_of_ble_eq_true rfl), (Nat.le_of_ble_eq_true rfl)⟩ jv1_11 (by omega) ko1_11 rfl rfl (Nat.le_of_ble_eq_true rfl) dX3_takesBehindOperand_33 (fun v25 M26 => ?_)
        refine j_aload_n (pc := 36) dX3_takesBehindOperand_36 rfl (q := 0) rfl ?_
        refine j_dup (pc := 37) dX3_takesBehindOperand_37 rfl ?_
        refine j_geti (pc := 38) jv1_6 jm_01 kf_RX3_43 kg1_6_5 dX3_takesBehindOperand_38 (fun h27 => ?_)
        refine j_iconst (pc := 41) dX3_takesBehindOperand_41 ?_
        refine j_iadd (pc := 42) dX3_takesBehindOperand_42 ?_
        refine j_put (pc := 43) jv1_6 jm_01 kf_RX3_43 wI1 kp_X3_5 kx1_6_5 (jm_w_in _) rfl rfl dX3_takesBehindOperand_43 (fun M28 => ?_)
        refine j_iconst (pc := 46) dX3_takesBehindOperand_46 ?_
        exact j_iret (pc := 47) (jm_inL (by decide) (by decide)) rfl dX3_takesBehindOperand_47
      · skip
        refine j_iconst (pc := 23) dX3_takesBehindOperand_23 ?_
        exact j_iret (pc := 24) (jm_inL (by decide) (by decide)) rfl dX3_takesBehindOperand_24
abbrev rmX3_takesVerdict : Room := { frames := 0, cells := 0, slots := 0, locals := 0 }
set_option maxHeartbeats 4000000 in
set_option maxRecDepth 100000 in
theorem ct_X3_takesVerdict (M : jm_M) (l1 : Int) (hl1 : jm_in l1) : jm_Ci wd1 yX3_takesVerdict cX3_takesVerdict 2 (some .boolean) rmX3_takesVerdict M (fun G ad => [.ref (ad (jm_r wd1 6 0)), jm_i l1]) (fX3_takesVerdict M l1) := by
  refine jm_met_i (fun X => [(0, jm_vr wd1 X 6 0), (1, jm_i l1)]) (by decide) (fun _ _ => (Nat.le_of_ble_eq_true rfl)) (fun _ => rfl) (fun X => ?_)
  unfold fX3_takesVerdict
  refine j_iload_n (pc := 0) dX3_takesVerdict_0 rfl (q := 1) rfl ?_
  refine j_bipush (pc := 1) 88 dX3_takesVerdict_1 (by decide) ?_
  refine j_icmp_ne (tgt := 22) (pc := 3) hl1 (jm_inL (by decide) (by decide)) dX3_takesVerdict_3 (by decide) (fun c1 => ?_) (fun c1 => ?_)
  · skip
    refine j_aload_n (pc := 6) dX3_takesVerdict_6 rfl (q := 0) rfl ?_
    refine j_gett (pc := 7) jv1_6 jm_01 kf_RX3_23 kg1_6_8 dX3_takesVerdict_7 (fun c2 => ?_)
    refine j_bipush (pc := 10) (-2) dX3_takesVerdict_10 (by decide) ?_
    refine j_put (pc := 12) jv1_11 (by omega) kf_RX3_116 wI1 kp_X8_7 kx1_11_7 (jm_inL (by decide) (by decide)) rfl rfl dX3_takesVerdict_12 (fun M3 => ?_)
    refine j_aload_n (pc := 15) dX3_takesVerdict_15 rfl (q := 0) rfl ?_
    refine j_iconst (pc := 16) dX3_takesVerdict_16 ?_
    refine j_put (pc := 17) jv1_6 jm_01 kf_RX3_39 wI1 kp_X3_6 kx1_6_6 (jm_inL (by decide) (by decide)) rfl rfl dX3_takesVerdict_17 (fun M4 => ?_)
    refine j_iconst (pc := 20) dX3_takesVerdict_20 ?_
    exact j_iret (pc := 21) (jm_inL (by decide) (by decide)) rfl dX3_takesVerdict_21
  · skip
    refine j_aload_n (pc := 22) dX3_takesVerdict_22 rfl (q := 0) rfl ?_
    refine j_iconst (pc := 23) dX3_takesVerdict_23 ?_
    refine j_put (pc := 24) jv1_6 jm_01 kf_RX3_43 wI1 kp_X3_5 kx1_6_5 (jm_inL (by decide) (by decide)) rfl rfl dX3_takesVerdict_24 (fun M5 => ?_)
    refine j_aload_n (pc := 27) dX3_takesVerdict_27 rfl (q := 0) rfl ?_
    refine j_iconst (pc := 28) dX3_takesVerdict_28 ?_
    refine j_put (pc := 29) jv1_6 jm_01 kf_RX3_39 wI1 kp_X3_6 kx1_6_6 (jm_inL (by decide) (by decide)) rfl rfl dX3_takesVerdict_29 (fun M6 => ?_)
    refine j_iload_n (pc := 32) dX3_takesVerdict_32 rfl (q := 1) rfl ?_
    refine j_bipush (pc := 33) 43 dX3_takesVerdict_33 (by decide) ?_
    refine j_icmp_ne (tgt := 42) (pc := 35) hl1 (jm_inL (by decide) (by decide)) dX3_takesVerdict_35 (by decide) (fun c7 => ?_) (fun c7 => ?_)
    · skip
      refine j_iconst (pc := 38) dX3_takesVerdict_38 ?_
      refine j_goto (tgt := 43) (pc := 39) dX3_takesVerdict_39 (by decide) ?_
      exact j_iret (pc := 43) (jm_inL (by decide) (by decide)) rfl dX3_takesVerdict_43
    · skip
      refine j_iconst (pc := 42) dX3_takesVerdict_42 ?_
      exact j_iret (pc := 43) (jm_inL (by decide) (by decide)) rfl dX3_takesVerdict_43
abbrev rmX3_takesSeconds : Room := { frames := 1, cells := 0, slots := 0, locals := 20 }
set_option maxHeartbeats 4000000 in
set_option maxRecDepth 100000 in
theorem ct_X3_takesSeconds (M : jm_M) (l1 : Int) (hl1 : jm_in l1) : jm_Ci wd1 yX3_takesSeconds cX3_takesSeconds 2 (some .boolean) rmX3_takesSeconds M (fun G ad => [.ref (ad (jm_r wd1 6 0)), jm_i l1]) (fX3_takesSeconds M l1) := by
  refine jm_met_i (fun X => [(0, jm_vr wd1 X 6 0), (1, jm_i l1)]) (by decide) (fun _ _ => (Nat.le_of_ble_eq_true rfl)) (fun _ => rfl) (fun X => ?_)
  unfold fX3_takesSeconds
  refine j_iload_n (pc := 0) dX3_takesSeconds_0 rfl (q := 1) rfl ?_
  refine j_callSi1 (pc := 1) (ct_X3_isDigit M l1 hl1) kg_673 km_X3_isDigit kg_674 rfl rfl ⟨(Nat.le_of_ble_eq_true rfl), (Nat.le_of_ble_eq_true rfl)⟩ rfl rfl (Nat.le_of_ble_eq_true rfl) dX3_takesSeconds_1 (fun v1 M2 h3 => ?_)
  refine j_if_eq (tgt := 15) (pc := 4) h3 dX3_takesSeconds_4 (by decide) (fun c4 => ?_) (fun c4 => ?_)
  · skip
    refine j_iconst (pc := 15) dX3_takesSeconds_15 ?_
    exact j_iret (pc := 16) (jm_inL (by decide) (by decide)) rfl dX3_takesSeconds_16
  · skip
    refine j_aload_n (pc := 7) dX3_takesSeconds_7 rfl (q := 0) rfl ?_
    refine j_geti (pc := 8) jv1_6 jm_01 kf_RX3_43 kg1_6_5 dX3_takesSeconds_8 (fun h5 => ?_)
    refine j_iconst (pc := 11) dX3_takesSeconds_11 ?_
    refine j_icmp_le (tgt := 17) (pc := 12) h5 (jm_inL (by decide) (by decide)) dX3_takesSeconds_12 (by decide) (fun c6 => ?_) (fun c6 => ?_)
    · skip
      refine j_aload_n (pc := 17) dX3_takesSeconds_17 rfl (q := 0) rfl ?_
      refine j_gett (pc := 18) jv1_6 jm_01 kf_RX3_23 kg1_6_8 dX3_takesSeconds_18 (fun c7 => ?_)
      refine j_aload_n (pc := 21) dX3_takesSeconds_21 rfl (q := 0) rfl ?_
      refine j_gett (pc := 22) jv1_6 jm_01 kf_RX3_23 kg1_6_8 dX3_takesSeconds_22 (fun c8 => ?_)
      refine j_geti (pc := 25) jv1_11 (by omega) kf_RX3_116 kg1_11_7 dX3_takesSeconds_25 (fun h9 => ?_)
      refine j_bipush (pc := 28) 10 dX3_takesSeconds_28 (by decide) ?_
      refine j_imul (pc := 30) dX3_takesSeconds_30 ?_
      refine j_iload_n (pc := 31) dX3_takesSeconds_31 rfl (q := 1) rfl ?_
      refine j_iadd (pc := 32) dX3_takesSeconds_32 ?_
      refine j_bipush (pc := 33) 48 dX3_takesSeconds_33 (by decide) ?_
      refine j_isub (pc := 35) dX3_takesSeconds_35 ?_
      refine j_put (pc := 36) jv1_11 (by omega) kf_RX3_116 wI1 kp_X8_7 kx1_11_7 (jm_w_in _) rfl rfl dX3_takesSeconds_36 (fun M10 => ?_)
      refine j_aload_n (pc := 39) dX3_takesSeconds_39 rfl (q := 0) rfl ?_
      refine j_dup (pc := 40) dX3_takesSeconds_40 rfl ?_
      refine j_geti (pc := 41) jv1_6 jm_01 kf_RX3_43 kg1_6_5 dX3_takesSeconds_41 (fun h11 => ?_)
      refine j_iconst (pc := 44) dX3_takesSeconds_44 ?_
      refine j_iadd (pc := 45) dX3_takesSeconds_45 ?_
      refine j_put (pc := 46) jv1_6 jm_01 kf_RX3_43 wI1 kp_X3_5 kx1_6_5 (jm_w_in _) rfl rfl dX3_takesSeconds_46 (fun M12 => ?_)
      refine j_iconst (pc := 49) dX3_takesSeconds_49 ?_
      exact j_iret (pc := 50) (jm_inL (by decide) (by decide)) rfl dX3_takesSeconds_50
    · skip
      refine j_iconst (pc := 15) dX3_takesSeconds_15 ?_
      exact j_iret (pc := 16) (jm_inL (by decide) (by decide)) rfl dX3_takesSeconds_16
abbrev rmX8_act : Room := { frames := 1, cells := 0, slots := 0, locals := 21 }
set_option maxHeartbeats 4000000 in
set_option maxRecDepth 100000 in
theorem ct_X8_act (M : jm_M) (r0 l1 : Int) (gr0 : 0 ≤ r0 ∧ r0 < 17) (hl1 : jm_in l1) : jm_Cv wd1 yX8_act cX8_act 3 none rmX8_act M (fun G ad => [.ref (ad (jm_r wd1 11 r0)), jm_i l1]) (fX8_act M r0 l1) := by
  refine jm_met_v (fun X => [(0, jm_vr wd1 X 11 r0), (1, jm_i l1)]) (by decide) (fun _ _ => (Nat.le_of_ble_eq_true rfl)) (fun _ => rfl) (fun X => ?_)
  unfold fX8_act
  refine j_aload_n (pc := 0) dX8_act_0 rfl (q := 0) rfl ?_
  refine j_geti (pc := 1) jv1_11 gr0 kf_RX8_31 kg1_11_6 dX8_act_1 (fun h1 => ?_)
  refine j_iconst (pc := 4) dX8_act_4 ?_
  refine j_isub (pc := 5) dX8_act_5 ?_
  refine j_nm (pc := 6) (jm_w_in _) (fun v2 h3 => ?_)
  refine j_istore_n (pc := 6) [(2, jm_i v2), (0, jm_vr wd1 X 11 r0), (1, jm_i l1)] dX8_act_6 rfl (by decide) rfl ?_
  refine j_iload_n (pc := 7) dX8_act_7 rfl (q := 0) rfl ?_
  refine j_bipush (pc := 8) 21 dX8_act_8 (by decide) ?_
  refine j_callNi2 (pc := 10) (ct_X11_isIndex M v2 21 h3 (jm_inL (by decide) (by decide))) (host := "RaceByLaps") (by decide) km_X11_isIndex kg_562 rfl rfl ⟨(Nat.le_of_ble_eq_true rfl), (Nat.le_of_ble_eq_true rfl)⟩ rfl rfl (Nat.le_of_ble_eq_true rfl) dX8_act_10 (fun v4 M5 h6 => ?_)
  refine j_if_ne (tgt := 17) (pc := 13) h6 dX8_act_13 (by decide) (fun c7 => ?_) (fun c7 => ?_)
  · skip
    exact j_vret (pc := 16) dX8_act_16
  · skip
    refine j_iload_n (pc := 17) dX8_act_17 rfl (q := 2) rfl ?_
    refine j_ite (pc := 18) (fun c8 => ?_) (fun c8 => ?_)
    · skip
      refine j_look (off := (50)) (tgt := 68) (pc := 18) hl1 dX8_act_18 (by decide) (by rw [c8]; rfl) (by decide) ?_
      refine j_aload_n (pc := 68) dX8_act_68 rfl (q := 1) rfl ?_
      refine j_getr (pc := 69) jv1_11 gr0 kf_RX8_18 r0 kg1_11_3 rfl dX8_act_69 ?_
      refine j_iload_n (pc := 72) dX8_act_72 rfl (q := 0) rfl ?_
      refine j_iconst (pc := 73) dX8_act_73 ?_
      refine j_iast (pc := 74) jv1_22 (by omega) rfl (by decide) wI1 ka1_22 (jm_inL (by decide) (by decide)) dX8_act_74 (fun c9 M10 => ?_)
      refine j_goto (tgt := 118) (pc := 75) dX8_act_75 (by decide) ?_
      exact j_vret (pc := 118) dX8_act_118
    · skip
      refine j_ite (pc := 18) (fun c11 => ?_) (fun c11 => ?_)
      · skip
        refine j_look (off := (70)) (tgt := 88) (pc := 18) hl1 dX8_act_18 (by decide) (by rw [c11]; rfl) (by decide) ?_
        refine j_aload_n (pc := 88) dX8_act_88 rfl (q := 1) rfl ?_
        refine j_getr (pc := 89) jv1_11 gr0 kf_RX8_18 r0 kg1_11_3 rfl dX8_act_89 ?_
        refine j_iload_n (pc := 92) dX8_act_92 rfl (q := 0) rfl ?_
        refine j_iconst (pc := 93) dX8_act_93 ?_
        refine j_iast (pc := 94) jv1_22 (by omega) rfl (by decide) wI1 ka1_22 (jm_inL (by decide) (by decide)) dX8_act_94 (fun c12 M13 => ?_)
        refine j_goto (tgt := 118) (pc := 95) dX8_act_95 (by decide) ?_
        exact j_vret (pc := 118) dX8_act_118
      · skip
        refine j_ite (pc := 18) (fun c14 => ?_) (fun c14 => ?_)
        · skip
          refine j_look (off := (60)) (tgt := 78) (pc := 18) hl1 dX8_act_18 (by decide) (by rw [c14]; rfl) (by decide) ?_
          refine j_aload_n (pc := 78) dX8_act_78 rfl (q := 1) rfl ?_
          refine j_getr (pc := 79) jv1_11 gr0 kf_RX8_18 r0 kg1_11_3 rfl dX8_act_79 ?_
          refine j_iload_n (pc := 82) dX8_act_82 rfl (q := 0) rfl ?_
          refine j_iconst (pc := 83) dX8_act_83 ?_
          refine j_iast (pc := 84) jv1_22 (by omega) rfl (by decide) wI1 ka1_22 (jm_inL (by decide) (by decide)) dX8_act_84 (fun c15 M16 => ?_)
          refine j_goto (tgt := 118) (pc := 85) dX8_act_85 (by decide) ?_
          exact j_vret (pc := 118) dX8_act_118
        · skip
          refine j_ite (pc := 18) (fun c17 => ?_) (fun c17 => ?_)
          · skip
            refine j_look (off := (80)) (tgt := 98) (pc := 18) hl1 dX8_act_18 (by decide) (by rw [c17]; rfl) (by decide) ?_
            refine j_aload_n (pc := 98) dX8_act_98 rfl (q := 1) rfl ?_
            refine j_getr (pc := 99) jv1_11 gr0 kf_RX8_21 r0 kg1_11_4 rfl dX8_act_99 ?_
            refine j_iload_n (pc := 102) dX8_act_102 rfl (q := 0) rfl ?_
            refine j_iconst (pc := 103) dX8_act_103 ?_
            refine j_iast (pc := 104) jv1_23 (by omega) rfl (by decide) wI1 ka1_23 (jm_inL (by decide) (by decide)) dX8_act_104 (fun c18 M19 => ?_)
            refine j_goto (tgt := 118) (pc := 105) dX8_act_105 (by decide) ?_
            exact j_vret (pc := 118) dX8_act_118
          · skip
            refine j_ite (pc := 18) (fun c20 => ?_) (fun c20 => ?_)
            · skip
              refine j_look (off := (90)) (tgt := 108) (pc := 18) hl1 dX8_act_18 (by decide) (by rw [c20]; rfl) (by decide) ?_
              refine j_aload_n (pc := 108) dX8_act_108 rfl (q := 1) rfl ?_
              refine j_getr (pc := 109) jv1_11 gr0 kf_RX8_21 r0 kg1_11_4 rfl dX8_act_109 ?_
              refine j_iload_n (pc := 112) dX8_act_112 rfl (q := 0) rfl ?_
              refine j_iconst (pc := 113) dX8_act_113 ?_
              refine j_iast (pc := 114) jv1_23 (by omega) rfl (by decide) wI1 ka1_23 (jm_inL (by decide) (by decide)) dX8_act_114 (fun c21 M22 => ?_)
              refine j_goto (tgt := 118) (pc := 115) dX8_act_115 (by decide) ?_
              exact j_vret (pc := 118) dX8_act_118
            · skip
              refine j_look (off := (100)) (tgt := 118) (pc := 18) hl1 dX8_act_18 (by decide) (by show Op.lookupswitch.offset [(43, 50), (45, 70), (61, 60), (103, 80), (104, 90)] _ _ = _; rw [Op.lookupswitch.offset_cons, if_neg (fun q => c8 q.symm), Op.lookupswitch.offset_cons, if_neg (fun q => c11 q.symm), Op.lookupswitch.offset_cons, if_neg (fun q => c14 q.symm), Op.lookupswitch.offset_cons, if_neg (fun q => c17 q.symm), Op.lookupswitch.offset_cons, if_neg (fun q => c20 q.symm), Op.lookupswitch.offset_nil]) (by decide) ?_
              exact j_vret (pc := 118) dX8_act_118
abbrev rmX3_takesAct : Room := { frames := 2, cells := 0, slots := 0, locals := 43 }
set_option maxHeartbeats 4000000 in
set_option maxRecDepth 100000 in
theorem ct_X3_takesAct (M : jm_M) (l1 : Int) (hl1 : jm_in l1) : jm_Ci wd1 yX3_takesAct cX3_takesAct 2 (some .boolean) rmX3_takesAct M (fun G ad => [.ref (ad (jm_r wd1 6 0)), jm_i l1]) (fX3_takesAct M l1) := by
  refine jm_met_i (fun X => [(0, jm_vr wd1 X 6 0), (1, jm_i l1)]) (by decide) (fun _ _ => (Nat.le_of_ble_eq_true rfl)) (fun _ => rfl) (fun X => ?_)
  unfold fX3_takesAct
  refine j_iload_n (pc := 0) dX3_takesAct_0 rfl (q := 1) rfl ?_
  refine j_ite (pc := 1) (fun c1 => ?_) (fun c1 => ?_)
  · skip
    refine j_look (off := (100)) (tgt := 101) (pc := 1) hl1 dX3_takesAct_1 (by decide) (by rw [c1]; rfl) (by decide) ?_
    refine j_aload_n (pc := 101) dX3_takesAct_101 rfl (q := 0) rfl ?_
    refine j_gett (pc := 102) jv1_6 jm_01 kf_RX3_23 kg1_6_8 dX3_takesAct_102 (fun c2 => ?_)
    refine j_iload_n (pc := 105) dX3_takesAct_105 rfl (q := 1) rfl ?_
    refine j_callVv1 (pc := 106) (ct_X8_act M (M 6 0 8) l1 (by omega) hl1) kg_823 km_X8_act kv_X8_act rfl rfl ⟨(Nat.le_of_ble_eq_true rfl), (Nat.le_of_ble_eq_true rfl)⟩ jv1_11 (by omega) ko1_11 rfl rfl (Nat.le_of_ble_eq_true rfl) dX3_takesAct_106 (fun v3 M4 => ?_)
    refine j_aload_n (pc := 109) dX3_takesAct_109 rfl (q := 0) rfl ?_
    refine j_bipush (pc := 110) 7 dX3_takesAct_110 (by decide) ?_
    refine j_put (pc := 112) jv1_6 jm_01 kf_RX3_39 wI1 kp_X3_6 kx1_6_6 (jm_inL (by decide) (by decide)) rfl rfl dX3_takesAct_112 (fun M5 => ?_)
    refine j_iconst (pc := 115) dX3_takesAct_115 ?_
    exact j_iret (pc := 116) (jm_inL (by decide) (by decide)) rfl dX3_takesAct_116
  · skip
    refine j_ite (pc := 1) (fun c6 => ?_) (fun c6 => ?_)
    · skip
      refine j_look (off := (100)) (tgt := 101) (pc := 1) hl1 dX3_takesAct_1 (by decide) (by rw [c6]; rfl) (by decide) ?_
      refine j_aload_n (pc := 101) dX3_takesAct_101 rfl (q := 0) rfl ?_
      refine j_gett (pc := 102) jv1_6 jm_01 kf_RX3_23 kg1_6_8 dX3_takesAct_102 (fun c7 => ?_)
      refine j_iload_n (pc := 105) dX3_takesAct_105 rfl (q := 1) rfl ?_
      refine j_callVv1 (pc := 106) (ct_X8_act M (M 6 0 8) l1 (by omega) hl1) kg_823 km_X8_act kv_X8_act rfl rfl ⟨(Nat.le_of_ble_eq_true rfl), (Nat.le_of_ble_eq_true rfl)⟩ jv1_11 (by omega) ko1_11 rfl rfl (Nat.le_of_ble_eq_true rfl) dX3_takesAct_106 (fun v8 M9 => ?_)
      refine j_aload_n (pc := 109) dX3_takesAct_109 rfl (q := 0) rfl ?_
      refine j_bipush (pc := 110) 7 dX3_takesAct_110 (by decide) ?_
      refine j_put (pc := 112) jv1_6 jm_01 kf_RX3_39 wI1 kp_X3_6 kx1_6_6 (jm_inL (by decide) (by decide)) rfl rfl dX3_takesAct_112 (fun M10 => ?_)
      refine j_iconst (pc := 115) dX3_takesAct_115 ?_
      exact j_iret (pc := 116) (jm_inL (by decide) (by decide)) rfl dX3_takesAct_116
    · skip
      refine j_ite (pc := 1) (fun c11 => ?_) (fun c11 => ?_)
      · skip
        refine j_look (off := (100)) (tgt := 101) (pc := 1) hl1 dX3_takesAct_1 (by decide) (by rw [c11]; rfl) (by decide) ?_
        refine j_aload_n (pc := 101) dX3_takesAct_101 rfl (q := 0) rfl ?_
        refine j_gett (pc := 102) jv1_6 jm_01 kf_RX3_23 kg1_6_8 dX3_takesAct_102 (fun c12 => ?_)
        refine j_iload_n (pc := 105) dX3_takesAct_105 rfl (q := 1) rfl ?_
        refine j_callVv1 (pc := 106) (ct_X8_act M (M 6 0 8) l1 (by omega) hl1) kg_823 km_X8_act kv_X8_act rfl rfl ⟨(Nat.le_of_ble_eq_true rfl), (Nat.le_of_ble_eq_true rfl)⟩ jv1_11 (by omega) ko1_11 rfl rfl (Nat.le_of_ble_eq_true rfl) dX3_takesAct_106 (fun v13 M14 => ?_)
        refine j_aload_n (pc := 109) dX3_takesAct_109 rfl (q := 0) rfl ?_
        refine j_bipush (pc := 110) 7 dX3_takesAct_110 (by decide) ?_
        refine j_put (pc := 112) jv1_6 jm_01 kf_RX3_39 wI1 kp_X3_6 kx1_6_6 (jm_inL (by decide) (by decide)) rfl rfl dX3_takesAct_112 (fun M15 => ?_)
        refine j_iconst (pc := 115) dX3_takesAct_115 ?_
        exact j_iret (pc := 116) (jm_inL (by decide) (by decide)) rfl dX3_takesAct_116
      · skip
        refine j_ite (pc := 1) (fun c16 => ?_) (fun c16 => ?_)
        · skip
          refine j_look (off := (75)) (tgt := 76) (pc := 1) hl1 dX3_takesAct_1 (by decide) (by rw [c16]; rfl) (by decide) ?_
          refine j_aload_n (pc := 76) dX3_takesAct_76 rfl (q := 0) rfl ?_
          refine j_geti (pc := 77) jv1_6 jm_01 kf_RX3_39 kg1_6_6 dX3_takesAct_77 (fun h17 => ?_)
          refine j_bipush (pc := 80) 7 dX3_takesAct_80 (by decide) ?_
          refine j_icmp_eq (tgt := 87) (pc := 82) h17 (jm_inL (by decide) (by decide)) dX3_takesAct_82 (by decide) (fun c18 => ?_) (fun c18 => ?_)
          · skip
            refine j_aload_n (pc := 87) dX3_takesAct_87 rfl (q := 0) rfl ?_
            refine j_callVv0 (pc := 88) (ct_X3_beginLine M ) kg_661 km_X3_beginLine kv_X3_beginLine rfl rfl ⟨(Nat.le_of_ble_eq_true rfl), (Nat.le_of_ble_eq_true rfl)⟩ jv1_6 jm_01 ko1_6 rfl rfl (Nat.le_of_ble_eq_true rfl) dX3_takesAct_88 (fun v19 M20 => ?_)
            refine j_iconst (pc := 91) dX3_takesAct_91 ?_
            exact j_iret (pc := 92) (jm_inL (by decide) (by decide)) rfl dX3_takesAct_92
          · skip
            refine j_iconst (pc := 85) dX3_takesAct_85 ?_
            exact j_iret (pc := 86) (jm_inL (by decide) (by decide)) rfl dX3_takesAct_86
        · skip
          refine j_ite (pc := 1) (fun c21 => ?_) (fun c21 => ?_)
          · skip
            refine j_look (off := (100)) (tgt := 101) (pc := 1) hl1 dX3_takesAct_1 (by decide) (by rw [c21]; rfl) (by decide) ?_
            refine j_aload_n (pc := 101) dX3_takesAct_101 rfl (q := 0) rfl ?_
            refine j_gett (pc := 102) jv1_6 jm_01 kf_RX3_23 kg1_6_8 dX3_takesAct_102 (fun c22 => ?_)
            refine j_iload_n (pc := 105) dX3_takesAct_105 rfl (q := 1) rfl ?_
            refine j_callVv1 (pc := 106) (ct_X8_act M (M 6 0 8) l1 (by omega) hl1) kg_823 km_X8_act kv_X8_act rfl rfl ⟨(Nat.le_of_ble_eq_true rfl), (Nat.le_of_ble_eq_true rfl)⟩ jv1_11 (by omega) ko1_11 rfl rfl (Nat.le_of_ble_eq_true rfl) dX3_takesAct_106 (fun v23 M24 => ?_)
            refine j_aload_n (pc := 109) dX3_takesAct_109 rfl (q := 0) rfl ?_
            refine j_bipush (pc := 110) 7 dX3_takesAct_110 (by decide) ?_
            refine j_put (pc := 112) jv1_6 jm_01 kf_RX3_39 wI1 kp_X3_6 kx1_6_6 (jm_inL (by decide) (by decide)) rfl rfl dX3_takesAct_112 (fun M25 => ?_)
            refine j_iconst (pc := 115) dX3_takesAct_115 ?_
            exact j_iret (pc := 116) (jm_inL (by decide) (by decide)) rfl dX3_takesAct_116
          · skip
            refine j_ite (pc := 1) (fun c26 => ?_) (fun c26 => ?_)
            · skip
              refine j_look (off := (92)) (tgt := 93) (pc := 1) hl1 dX3_takesAct_1 (by decide) (by rw [c26]; rfl) (by decide) ?_
              refine j_aload_n (pc := 93) dX3_takesAct_93 rfl (q := 0) rfl ?_
              refine j_bipush (pc := 94) 8 dX3_takesAct_94 (by decide) ?_
              refine j_put (pc := 96) jv1_6 jm_01 kf_RX3_39 wI1 kp_X3_6 kx1_6_6 (jm_inL (by decide) (by decide)) rfl rfl dX3_takesAct_96 (fun M27 => ?_)
              refine j_iconst (pc := 99) dX3_takesAct_99 ?_
              exact j_iret (pc := 100) (jm_inL (by decide) (by decide)) rfl dX3_takesAct_100
            · skip
              refine j_ite (pc := 1) (fun c28 => ?_) (fun c28 => ?_)
              · skip
                refine j_look (off := (100)) (tgt := 101) (pc := 1) hl1 dX3_takesAct_1 (by decide) (by rw [c28]; rfl) (by decide) ?_
                refine j_aload_n (pc := 101) dX3_takesAct_101 rfl (q := 0) rfl ?_
                refine j_gett (pc := 102) jv1_6 jm_01 kf_RX3_23 kg1_6_8 dX3_takesAct_102 (fun c29 => ?_)
                refine j_iload_n (pc := 105) dX3_takesAct_105 rfl (q := 1) rfl ?_
                refine j_callVv1 (pc := 106) (ct_X8_act M (M 6 0 8) l1 (by omega) hl1) kg_823 km_X8_act kv_X8_act rfl rfl ⟨(Nat.le_of_ble_eq_true rfl), (Nat.le_of_ble_eq_true rfl)⟩ jv1_11 (by omega) ko1_11 rfl rfl (Nat.le_of_ble_eq_true rfl) dX3_takesAct_106 (fun v30 M31 => ?_)
                refine j_aload_n (pc := 109) dX3_takesAct_109 rfl (q := 0) rfl ?_
                refine j_bipush (pc := 110) 7 dX3_takesAct_110 (by decide) ?_
                refine j_put (pc := 112) jv1_6 jm_01 kf_RX3_39 wI1 kp_X3_6 kx1_6_6 (jm_inL (by decide) (by decide)) rfl rfl dX3_takesAct_112 (fun M32 => ?_)
                refine j_iconst (pc := 115) dX3_takesAct_115 ?_
                exact j_iret (pc := 116) (jm_inL (by decide) (by decide)) rfl dX3_takesAct_116
              · skip
                refine j_ite (pc := 1) (fun c33 => ?_) (fun c33 => ?_)
                · skip
                  refine j_look (off := (100)) (tgt := 101) (pc := 1) hl1 dX3_takesAct_1 (by decide) (by rw [c33]; rfl) (by decide) ?_
                  refine j_aload_n (pc := 101) dX3_takesAct_101 rfl (q := 0) rfl ?_
                  refine j_gett (pc := 102) jv1_6 jm_01 kf_RX3_23 kg1_6_8 dX3_takesAct_102 (fun c34 => ?_)
                  refine j_iload_n (pc := 105) dX3_takesAct_105 rfl (q := 1) rfl ?_
                  refine j_callVv1 (pc := 106) (ct_X8_act M (M 6 0 8) l1 (by omega) hl1) kg_823 km_X8_act kv_X8_act rfl rfl ⟨(Nat.le_of_ble_eq_true rfl), (Nat.le_of_ble_eq_true rfl)⟩ jv1_11 (by omega) ko1_11 rfl rfl (Nat.le_of_ble_eq_true rfl) dX3_takesAct_106 (fun v35 M36 => ?_)
                  refine j_aload_n (pc := 109) dX3_takesAct_109 rfl (q := 0) rfl ?_
                  refine j_bipush (pc := 110) 7 dX3_takesAct_110 (by decide) ?_
                  refine j_put (pc := 112) jv1_6 jm_01 kf_RX3_39 wI1 kp_X3_6 kx1_6_6 (jm_inL (by decide) (by decide)) rfl rfl dX3_takesAct_112 (fun M37 => ?_)
                  refine j_iconst (pc := 115) dX3_takesAct_115 ?_
                  exact j_iret (pc := 116) (jm_inL (by decide) (by decide)) rfl dX3_takesAct_116
                · skip
                  refine j_look (off := (116)) (tgt := 117) (pc := 1) hl1 dX3_takesAct_1 (by decide) (by show Op.lookupswitch.offset [(43, 100), (45, 100), (46, 100), (59, 75), (61, 100), (98, 92), (103, 100), (104, 100)] _ _ = _; rw [Op.lookupswitch.offset_cons, if_neg (fun q => c1 q.symm), Op.lookupswitch.offset_cons, if_neg (fun q => c6 q.symm), Op.lookupswitch.offset_cons, if_neg (fun q => c11 q.symm), Op.lookupswitch.offset_cons, if_neg (fun q => c16 q.symm), Op.lookupswitch.offset_cons, if_neg (fun q => c21 q.symm), Op.lookupswitch.offset_cons, if_neg (fun q => c26 q.symm), Op.lookupswitch.offset_cons, if_neg (fun q => c28 q.symm), Op.lookupswitch.offset_cons, if_neg (fun q => c33 q.symm), Op.lookupswitch.offset_nil]) (by decide) ?_
                  refine j_iconst (pc := 117) dX3_takesAct_117 ?_
                  exact j_iret (pc := 118) (jm_inL (by decide) (by decide)) rfl dX3_takesAct_118
abbrev rmX8_actBox : Room := { frames := 1, cells := 0, slots := 0, locals := 21 }
set_option maxHeartbeats 4000000 in
set_option maxRecDepth 100000 in
theorem ct_X8_actBox (M : jm_M) (r0 l1 : Int) (gr0 : 0 ≤ r0 ∧ r0 < 17) (hl1 : jm_in l1) : jm_Cv wd1 yX8_actBox cX8_actBox 2 none rmX8_actBox M (fun G ad => [.ref (ad (jm_r wd1 11 r0)), jm_i l1]) (fX8_actBox M r0 l1) := by
  refine jm_met_v (fun X => [(0, jm_vr wd1 X 11 r0), (1, jm_i l1)]) (by decide) (fun _ _ => (Nat.le_of_ble_eq_true rfl)) (fun _ => rfl) (fun X => ?_)
  unfold fX8_actBox
  refine j_aload_n (pc := 0) dX8_actBox_0 rfl (q := 0) rfl ?_
  refine j_geti (pc := 1) jv1_11 gr0 kf_RX8_31 kg1_11_6 dX8_actBox_1 (fun h1 => ?_)
  refine j_iconst (pc := 4) dX8_actBox_4 ?_
  refine j_isub (pc := 5) dX8_actBox_5 ?_
  refine j_bipush (pc := 6) 21 dX8_actBox_6 (by decide) ?_
  refine j_callNi2 (pc := 8) (ct_X11_isIndex M (jm_w ((M 11 r0 6) - 1)) 21 (jm_w_in _) (jm_inL (by decide) (by decide))) (host := "RaceByLaps") (by decide) km_X11_isIndex kg_562 rfl rfl ⟨(Nat.le_of_ble_eq_true rfl), (Nat.le_of_ble_eq_true rfl)⟩ rfl rfl (Nat.le_of_ble_eq_true rfl) dX8_actBox_8 (fun v2 M3 h4 => ?_)
  refine j_if_eq (tgt := 26) (pc := 11) h4 dX8_actBox_11 (by decide) (fun c5 => ?_) (fun c5 => ?_)
  · skip
    exact j_vret (pc := 26) dX8_actBox_26
  · skip
    refine j_aload_n (pc := 14) dX8_actBox_14 rfl (q := 0) rfl ?_
    refine j_getr (pc := 15) jv1_11 gr0 kf_RX8_24 r0 kg1_11_5 rfl dX8_actBox_15 ?_
    refine j_aload_n (pc := 18) dX8_actBox_18 rfl (q := 0) rfl ?_
    refine j_geti (pc := 19) jv1_11 gr0 kf_RX8_31 kg1_11_6 dX8_actBox_19 (fun h6 => ?_)
    refine j_iconst (pc := 22) dX8_actBox_22 ?_
    refine j_isub (pc := 23) dX8_actBox_23 ?_
    refine j_iload_n (pc := 24) dX8_actBox_24 rfl (q := 1) rfl ?_
    refine j_iast (pc := 25) jv1_24 (by omega) rfl (by decide) wI1 ka1_24 hl1 dX8_actBox_25 (fun c7 M8 => ?_)
    exact j_vret (pc := 26) dX8_actBox_26
abbrev rmX3_takesBox : Room := { frames := 2, cells := 0, slots := 0, locals := 42 }
set_option maxHeartbeats 4000000 in
set_option maxRecDepth 100000 in
theorem ct_X3_takesBox (M : jm_M) (l1 : Int) (hl1 : jm_in l1) : jm_Ci wd1 yX3_takesBox cX3_takesBox 2 (some .boolean) rmX3_takesBox M (fun G ad => [.ref (ad (jm_r wd1 6 0)), jm_i l1]) (fX3_takesBox M l1) := by
  refine jm_met_i (fun X => [(0, jm_vr wd1 X 6 0), (1, jm_i l1)]) (by decide) (fun _ _ => (Nat.le_of_ble_eq_true rfl)) (fun _ => rfl) (fun X => ?_)
  unfold fX3_takesBox
  refine j_iload_n (pc := 0) dX3_takesBox_0 rfl (q := 1) rfl ?_
  refine j_bipush (pc := 1) 48 dX3_takesBox_1 (by decide) ?_
  refine j_icmp_lt (tgt := 12) (pc := 3) hl1 (jm_inL (by decide) (by decide)) dX3_takesBox_3 (by decide) (fun c1 => ?_) (fun c1 => ?_)
  · skip
    refine j_iconst (pc := 12) dX3_takesBox_12 ?_
    exact j_iret (pc := 13) (jm_inL (by decide) (by decide)) rfl dX3_takesBox_13
  · skip
    refine j_iload_n (pc := 6) dX3_takesBox_6 rfl (q := 1) rfl ?_
    refine j_bipush (pc := 7) 51 dX3_takesBox_7 (by decide) ?_
    refine j_icmp_le (tgt := 14) (pc := 9) hl1 (jm_inL (by decide) (by decide)) dX3_takesBox_9 (by decide) (fun c2 => ?_) (fun c2 => ?_)
    · skip
      refine j_aload_n (pc := 14) dX3_takesBox_14 rfl (q := 0) rfl ?_
      refine j_gett (pc := 15) jv1_6 jm_01 kf_RX3_23 kg1_6_8 dX3_takesBox_15 (fun c3 => ?_)
      refine j_iload_n (pc := 18) dX3_takesBox_18 rfl (q := 1) rfl ?_
      refine j_bipush (pc := 19) 48 dX3_takesBox_19 (by decide) ?_
      refine j_isub (pc := 21) dX3_takesBox_21 ?_
      refine j_callVv1 (pc := 22) (ct_X8_actBox M (M 6 0 8) (jm_w (l1 - 48)) (by omega) (jm_w_in _)) kg_831 km_X8_actBox kv_X8_actBox rfl rfl ⟨(Nat.le_of_ble_eq_true rfl), (Nat.le_of_ble_eq_true rfl)⟩ jv1_11 (by omega) ko1_11 rfl rfl (Nat.le_of_ble_eq_true rfl) dX3_takesBox_22 (fun v4 M5 => ?_)
      refine j_aload_n (pc := 25) dX3_takesBox_25 rfl (q := 0) rfl ?_
      refine j_bipush (pc := 26) 7 dX3_takesBox_26 (by decide) ?_
      refine j_put (pc := 28) jv1_6 jm_01 kf_RX3_39 wI1 kp_X3_6 kx1_6_6 (jm_inL (by decide) (by decide)) rfl rfl dX3_takesBox_28 (fun M6 => ?_)
      refine j_iconst (pc := 31) dX3_takesBox_31 ?_
      exact j_iret (pc := 32) (jm_inL (by decide) (by decide)) rfl dX3_takesBox_32
    · skip
      refine j_iconst (pc := 12) dX3_takesBox_12 ?_
      exact j_iret (pc := 13) (jm_inL (by decide) (by decide)) rfl dX3_takesBox_13
abbrev rmX3_takes : Room := { frames := 11, cells := 0, slots := 0, locals := 464 }
set_option maxHeartbeats 4000000 in
set_option maxRecDepth 100000 in
theorem ct_X3_takes (fu : Nat) (M : jm_M) (l1 : Int) (hl1 : jm_in l1) : jm_Ci wd1 yX3_takes cX3_takes 2 (some .boolean) rmX3_takes M (fun G ad => [.ref (ad (jm_r wd1 6 0)), jm_i l1]) (fX3_takes fu M l1) := by
  refine jm_met_i (fun X => [(0, jm_vr wd1 X 6 0), (1, jm_i l1)]) (by decide) (fun _ _ => (Nat.le_of_ble_eq_true rfl)) (fun _ => rfl) (fun X => ?_)
  unfold fX3_takes
  refine j_aload_n (pc := 0) dX3_takes_0 rfl (q := 0) rfl ?_
  refine j_geti (pc := 1) jv1_6 jm_01 kf_RX3_39 kg1_6_6 dX3_takes_1 (fun h1 => ?_)
  refine j_ite (pc := 4) (fun c2 => ?_) (fun c2 => ?_)
  · skip
    refine j_tabIn (off := (52)) (tgt := 56) (pc := 4) 0 h1 dX3_takes_4 c2 (by decide) (by decide) rfl (by decide) ?_
    refine j_aload_n (pc := 56) dX3_takes_56 rfl (q := 0) rfl ?_
    refine j_iload_n (pc := 57) dX3_takes_57 rfl (q := 1) rfl ?_
    refine j_callVi1 (pc := 58) (ct_X3_takesOperand fu M l1 hl1) kg_669 km_X3_takesOperand kv_X3_takesOperand rfl rfl ⟨(Nat.le_of_ble_eq_true rfl), (Nat.le_of_ble_eq_true rfl)⟩ jv1_6 jm_01 ko1_6 rfl rfl (Nat.le_of_ble_eq_true rfl) dX3_takes_58 (fun v3 M4 h5 => ?_)
    exact j_zret (pc := 61) h5 dX3_takes_61
  · skip
    refine j_ite (pc := 4) (fun c6 => ?_) (fun c6 => ?_)
    · skip
      refine j_tabIn (off := (52)) (tgt := 56) (pc := 4) 1 h1 dX3_takes_4 c6 (by decide) (by decide) rfl (by decide) ?_
      refine j_aload_n (pc := 56) dX3_takes_56 rfl (q := 0) rfl ?_
      refine j_iload_n (pc := 57) dX3_takes_57 rfl (q := 1) rfl ?_
      refine j_callVi1 (pc := 58) (ct_X3_takesOperand fu M l1 hl1) kg_669 km_X3_takesOperand kv_X3_takesOperand rfl rfl ⟨(Nat.le_of_ble_eq_true rfl), (Nat.le_of_ble_eq_true rfl)⟩ jv1_6 jm_01 ko1_6 rfl rfl (Nat.le_of_ble_eq_true rfl) dX3_takes_58 (fun v7 M8 h9 => ?_)
      exact j_zret (pc := 61) h9 dX3_takes_61
    · skip
      refine j_ite (pc := 4) (fun c10 => ?_) (fun c10 => ?_)
      · skip
        refine j_tabIn (off := (58)) (tgt := 62) (pc := 4) 2 h1 dX3_takes_4 c10 (by decide) (by decide) rfl (by decide) ?_
        refine j_aload_n (pc := 62) dX3_takes_62 rfl (q := 0) rfl ?_
        refine j_iload_n (pc := 63) dX3_takes_63 rfl (q := 1) rfl ?_
        refine j_callVi1 (pc := 64) (ct_X3_takesBehindOperand fu M l1 hl1) kg_795 km_X3_takesBehindOperand kv_X3_takesBehindOperand rfl rfl ⟨(Nat.le_of_ble_eq_true rfl), (Nat.le_of_ble_eq_true rfl)⟩ jv1_6 jm_01 ko1_6 rfl rfl (Nat.le_of_ble_eq_true rfl) dX3_takes_64 (fun v11 M12 h13 => ?_)
        exact j_zret (pc := 67) h13 dX3_takes_67
      · skip
        refine j_ite (pc := 4) (fun c14 => ?_) (fun c14 => ?_)
        · skip
          refine j_tabIn (off := (64)) (tgt := 68) (pc := 4) 3 h1 dX3_takes_4 c14 (by decide) (by decide) rfl (by decide) ?_
          refine j_aload_n (pc := 68) dX3_takes_68 rfl (q := 0) rfl ?_
          refine j_iload_n (pc := 69) dX3_takes_69 rfl (q := 1) rfl ?_
          refine j_callVi1 (pc := 70) (ct_X3_takesVerdict M l1 hl1) kg_811 km_X3_takesVerdict kv_X3_takesVerdict rfl rfl ⟨(Nat.le_of_ble_eq_true rfl), (Nat.le_of_ble_eq_true rfl)⟩ jv1_6 jm_01 ko1_6 rfl rfl (Nat.le_of_ble_eq_true rfl) dX3_takes_70 (fun v15 M16 h17 => ?_)
          exact j_zret (pc := 73) h17 dX3_takes_73
        · skip
          refine j_ite (pc := 4) (fun c18 => ?_) (fun c18 => ?_)
          · skip
            refine j_tabIn (off := (70)) (tgt := 74) (pc := 4) 4 h1 dX3_takes_4 c18 (by decide) (by decide) rfl (by decide) ?_
            refine j_aload_n (pc := 74) dX3_takes_74 rfl (q := 0) rfl ?_
            refine j_iload_n (pc := 75) dX3_takes_75 rfl (q := 1) rfl ?_
            refine j_callVi1 (pc := 76) (ct_X3_takesSeconds M l1 hl1) kg_815 km_X3_takesSeconds kv_X3_takesSeconds rfl rfl ⟨(Nat.le_of_ble_eq_true rfl), (Nat.le_of_ble_eq_true rfl)⟩ jv1_6 jm_01 ko1_6 rfl rfl (Nat.le_of_ble_eq_true rfl) dX3_takes_76 (fun v19 M20 h21 => ?_)
            exact j_zret (pc := 79) h21 dX3_takes_79
          · skip
            refine j_ite (pc := 4) (fun c22 => ?_) (fun c22 => ?_)
            · skip
              refine j_tabIn (off := (76)) (tgt := 80) (pc := 4) 6 h1 dX3_takes_4 c22 (by decide) (by decide) rfl (by decide) ?_
              refine j_aload_n (pc := 80) dX3_takes_80 rfl (q := 0) rfl ?_
              refine j_iload_n (pc := 81) dX3_takes_81 rfl (q := 1) rfl ?_
              refine j_callVi1 (pc := 82) (ct_X3_takesAct M l1 hl1) kg_819 km_X3_takesAct kv_X3_takesAct rfl rfl ⟨(Nat.le_of_ble_eq_true rfl), (Nat.le_of_ble_eq_true rfl)⟩ jv1_6 jm_01 ko1_6 rfl rfl (Nat.le_of_ble_eq_true rfl) dX3_takes_82 (fun v23 M24 h25 => ?_)
              exact j_zret (pc := 85) h25 dX3_takes_85
            · skip
              refine j_ite (pc := 4) (fun c26 => ?_) (fun c26 => ?_)
              · skip
                refine j_tabIn (off := (76)) (tgt := 80) (pc := 4) 7 h1 dX3_takes_4 c26 (by decide) (by decide) rfl (by decide) ?_
                refine j_aload_n (pc := 80) dX3_takes_80 rfl (q := 0) rfl ?_
                refine j_iload_n (pc := 81) dX3_takes_81 rfl (q := 1) rfl ?_
                refine j_callVi1 (pc := 82) (ct_X3_takesAct M l1 hl1) kg_819 km_X3_takesAct kv_X3_takesAct rfl rfl ⟨(Nat.le_of_ble_eq_true rfl), (Nat.le_of_ble_eq_true rfl)⟩ jv1_6 jm_01 ko1_6 rfl rfl (Nat.le_of_ble_eq_true rfl) dX3_takes_82 (fun v27 M28 h29 => ?_)
                exact j_zret (pc := 85) h29 dX3_takes_85
              · skip
                refine j_ite (pc := 4) (fun c30 => ?_) (fun c30 => ?_)
                · skip
                  refine j_tabIn (off := (82)) (tgt := 86) (pc := 4) 8 h1 dX3_takes_4 c30 (by decide) (by decide) rfl (by decide) ?_
                  refine j_aload_n (pc := 86) dX3_takes_86 rfl (q := 0) rfl ?_
                  refine j_iload_n (pc := 87) dX3_takes_87 rfl (q := 1) rfl ?_
                  refine j_callVi1 (pc := 88) (ct_X3_takesBox M l1 hl1) kg_827 km_X3_takesBox kv_X3_takesBox rfl rfl ⟨(Nat.le_of_ble_eq_true rfl), (Nat.le_of_ble_eq_true rfl)⟩ jv1_6 jm_01 ko1_6 rfl rfl (Nat.le_of_ble_eq_true rfl) dX3_takes_88 (fun v31 M32 h33 => ?_)
                  exact j_zret (pc := 91) h33 dX3_takes_91
                · skip
                  refine jm_cases (P := (M 6 0 6) < 0 ∨ 8 < (M 6 0 6)) (fun c34 => ?_) (fun c34 => ?_)
                  · skip
                    refine j_tabOut (tgt := 92) (pc := 4) h1 dX3_takes_4 c34 (by decide) ?_
                    refine j_iconst (pc := 92) dX3_takes_92 ?_
                    exact j_iret (pc := 93) (jm_inL (by decide) (by decide)) rfl dX3_takes_93
                  · rcases (by omega : (M 6 0 6) = 5) with c34x
                    · skip
                      refine j_tabIn (off := (88)) (tgt := 92) (pc := 4) 5 h1 dX3_takes_4 c34x (by decide) (by decide) rfl (by decide) ?_
                      refine j_iconst (pc := 92) dX3_takes_92 ?_
                      exact j_iret (pc := 93) (jm_inL (by decide) (by decide)) rfl dX3_takes_93
abbrev rmX3_firstWrong_a12 : Room := { frames := 12, cells := 0, slots := 0, locals := 485 }
set_option maxHeartbeats 4000000 in
set_option maxRecDepth 100000 in
theorem bX3_firstWrong_a12_121 (X : jm_X) (fu : Nat) : ∀ (M : jm_M) (l2 : Int) (hl2 : jm_in l2), jm_J wd1 (jm_qi .int) cX3_firstWrong 6 RX3 rmX3_firstWrong_a12 X M [(2, jm_i l2)] [] 121 (gX3_firstWrong_a12_121 fu M l2) := by
  intro M l2 hl2
  unfold gX3_firstWrong_a12_121
  refine j_iconst (pc := 121) dX3_firstWrong_121 ?_
  refine j_goto (tgt := 126) (pc := 122) dX3_firstWrong_122 (by decide) ?_
  refine j_istore (pc := 126) [(5, jm_i 1), (2, jm_i l2)] dX3_firstWrong_126 (by decide) rfl ?_
  refine j_iload (pc := 128) dX3_firstWrong_128 (q := 0) rfl ?_
  refine j_if_eq_F (tgt := 137) (pc := 130) (jm_inL (by decide) (by decide)) dX3_firstWrong_130 (by decide) (by decide) ?_
  refine j_iconst (pc := 133) dX3_firstWrong_133 ?_
  refine j_goto (tgt := 138) (pc := 134) dX3_firstWrong_134 (by decide) ?_
  exact j_iret (pc := 138) (jm_inL (by decide) (by decide)) rfl dX3_firstWrong_138
set_option maxHeartbeats 4000000 in
set_option maxRecDepth 100000 in
theorem bX3_firstWrong_a12_125 (X : jm_X) (fu : Nat) : ∀ (M : jm_M) (l2 : Int) (hl2 : jm_in l2), jm_J wd1 (jm_qi .int) cX3_firstWrong 6 RX3 rmX3_firstWrong_a12 X M [(2, jm_i l2)] [] 125 (gX3_firstWrong_a12_125 fu M l2) := by
  intro M l2 hl2
  unfold gX3_firstWrong_a12_125
  refine j_iconst (pc := 125) dX3_firstWrong_125 ?_
  refine j_istore (pc := 126) [(5, jm_i 0), (2, jm_i l2)] dX3_firstWrong_126 (by decide) rfl ?_
  refine j_iload (pc := 128) dX3_firstWrong_128 (q := 0) rfl ?_
  refine j_if_eq_T (tgt := 137) (pc := 130) (jm_inL (by decide) (by decide)) dX3_firstWrong_130 (by decide) (by decide) ?_
  refine j_iload_n (pc := 137) dX3_firstWrong_137 rfl (q := 1) rfl ?_
  exact j_iret (pc := 138) hl2 rfl dX3_firstWrong_138
set_option maxHeartbeats 4000000 in
set_option maxRecDepth 100000 in
theorem bX3_firstWrong_a12_65 (X : jm_X) (fu : Nat) : ∀ (M : jm_M) (l2 : Int) (hl2 : jm_in l2), jm_J wd1 (jm_qi .int) cX3_firstWrong 6 RX3 rmX3_firstWrong_a12 X M [(0, jm_vr wd1 X 6 0), (2, jm_i l2)] [] 65 (gX3_firstWrong_a12_65 fu M l2) := by
  intro M l2 hl2
  unfold gX3_firstWrong_a12_65
  refine j_iload_n (pc := 65) dX3_firstWrong_65 rfl (q := 1) rfl ?_
  refine j_bipush (pc := 66) 60 dX3_firstWrong_66 (by decide) ?_
  refine j_icmp_le (tgt := 74) (pc := 68) hl2 (jm_inL (by decide) (by decide)) dX3_firstWrong_68 (by decide) (fun c1 => ?_) (fun c1 => ?_)
  · skip
    refine j_aload_n (pc := 74) dX3_firstWrong_74 rfl (q := 0) rfl ?_
    refine j_geti (pc := 75) jv1_6 jm_01 kf_RX3_19 kg1_6_7 dX3_firstWrong_75 (fun h2 => ?_)
    refine j_if_eq (tgt := 98) (pc := 78) h2 dX3_firstWrong_78 (by decide) (fun c3 => ?_) (fun c3 => ?_)
    · skip
      refine j_aload_n (pc := 98) dX3_firstWrong_98 rfl (q := 0) rfl ?_
      refine j_geti (pc := 99) jv1_6 jm_01 kf_RX3_39 kg1_6_6 dX3_firstWrong_99 (fun h4 => ?_)
      refine j_iconst (pc := 102) dX3_firstWrong_102 ?_
      refine j_icmp_eq (tgt := 121) (pc := 103) h4 (jm_inL (by decide) (by decide)) dX3_firstWrong_103 (by decide) (fun c5 => ?_) (fun c5 => ?_)
      · skip
        refine j_sub (pc := 121) [(2, jm_i l2)] [1] rfl ?_
        exact bX3_firstWrong_a12_121 X fu  M l2 hl2
      · skip
        refine j_aload_n (pc := 106) dX3_firstWrong_106 rfl (q := 0) rfl ?_
        refine j_geti (pc := 107) jv1_6 jm_01 kf_RX3_39 kg1_6_6 dX3_firstWrong_107 (fun h6 => ?_)
        refine j_iconst (pc := 110) dX3_firstWrong_110 ?_
        refine j_icmp_ne (tgt := 125) (pc := 111) h6 (jm_inL (by decide) (by decide)) dX3_firstWrong_111 (by decide) (fun c7 => ?_) (fun c7 => ?_)
        · skip
          refine j_aload_n (pc := 114) dX3_firstWrong_114 rfl (q := 0) rfl ?_
          refine j_geti (pc := 115) jv1_6 jm_01 kf_RX3_43 kg1_6_5 dX3_firstWrong_115 (fun h8 => ?_)
          refine j_if_le (tgt := 125) (pc := 118) h8 dX3_firstWrong_118 (by decide) (fun c9 => ?_) (fun c9 => ?_)
          · skip
            refine j_sub (pc := 125) [(2, jm_i l2)] [1] rfl ?_
            exact bX3_firstWrong_a12_125 X fu  M l2 hl2
          · skip
            refine j_sub (pc := 121) [(2, jm_i l2)] [1] rfl ?_
            exact bX3_firstWrong_a12_121 X fu  M l2 hl2
        · skip
          refine j_sub (pc := 125) [(2, jm_i l2)] [1] rfl ?_
          exact bX3_firstWrong_a12_125 X fu  M l2 hl2
    · skip
      refine j_aload_n (pc := 81) dX3_firstWrong_81 rfl (q := 0) rfl ?_
      refine j_geti (pc := 82) jv1_6 jm_01 kf_RX3_39 kg1_6_6 dX3_firstWrong_82 (fun h10 => ?_)
      refine j_bipush (pc := 85) 7 dX3_firstWrong_85 (by decide) ?_
      refine j_icmp_ne (tgt := 94) (pc := 87) h10 (jm_inL (by decide) (by decide)) dX3_firstWrong_87 (by decide) (fun c11 => ?_) (fun c11 => ?_)
      · skip
        refine j_iconst (pc := 90) dX3_firstWrong_90 ?_
        refine j_goto (tgt := 126) (pc := 91) dX3_firstWrong_91 (by decide) ?_
        refine j_istore (pc := 126) [(5, jm_i 1), (0, jm_vr wd1 X 6 0), (2, jm_i l2)] dX3_firstWrong_126 (by decide) rfl ?_
        refine j_iload (pc := 128) dX3_firstWrong_128 (q := 0) rfl ?_
        refine j_if_eq_F (tgt := 137) (pc := 130) (jm_inL (by decide) (by decide)) dX3_firstWrong_130 (by decide) (by decide) ?_
        refine j_iconst (pc := 133) dX3_firstWrong_133 ?_
        refine j_goto (tgt := 138) (pc := 134) dX3_firstWrong_134 (by decide) ?_
        exact j_iret (pc := 138) (jm_inL (by decide) (by decide)) rfl dX3_firstWrong_138
      · skip
        refine j_iconst (pc := 94) dX3_firstWrong_94 ?_
        refine j_goto (tgt := 126) (pc := 95) dX3_firstWrong_95 (by decide) ?_
        refine j_istore (pc := 126) [(5, jm_i 0), (0, jm_vr wd1 X 6 0), (2, jm_i l2)] dX3_firstWrong_126 (by decide) rfl ?_
        refine j_iload (pc := 128) dX3_firstWrong_128 (q := 0) rfl ?_
        refine j_if_eq_T (tgt := 137) (pc := 130) (jm_inL (by decide) (by decide)) dX3_firstWrong_130 (by decide) (by decide) ?_
        refine j_iload_n (pc := 137) dX3_firstWrong_137 rfl (q := 2) rfl ?_
        exact j_iret (pc := 138) hl2 rfl dX3_firstWrong_138
  · skip
    refine j_bipush (pc := 71) 60 dX3_firstWrong_71 (by decide) ?_
    exact j_iret (pc := 73) (jm_inL (by decide) (by decide)) rfl dX3_firstWrong_73
set_option maxHeartbeats 4000000 in
set_option maxRecDepth 100000 in
theorem b0X3_firstWrong_a12_25 (X : jm_X) (fu : Nat) (k25 : jm_M → Int → Int → jm_R) (hk25 : ∀ (M : jm_M) (l2 l5 : Int) (hl2 : jm_in l2) (hl5 : jm_in l5), jm_J wd1 (jm_qi .int) cX3_firstWrong 6 RX3 rmX3_firstWrong_a12 X M [(0, jm_vr wd1 X 6 0), (1, jm_vr wd1 X 12 0), (2, jm_i l2), (5, jm_i l5)] [] 25 (k25 M l2 l5)) : ∀ (M : jm_M) (l2 l5 : Int) (hl2 : jm_in l2) (hl5 : jm_in l5), jm_J wd1 (jm_qi .int) cX3_firstWrong 6 RX3 rmX3_firstWrong_a12 X M [(0, jm_vr wd1 X 6 0), (1, jm_vr wd1 X 12 0), (2, jm_i l2), (5, jm_i l5)] [] 25 (gX3_firstWrong_a12_25 fu k25 M l2 l5) := by
  intro M l2 l5 hl2 hl5
  unfold gX3_firstWrong_a12_25
  refine j_iload (pc := 25) dX3_firstWrong_25 (q := 3) rfl ?_
  refine j_iload_n (pc := 27) dX3_firstWrong_27 rfl (q := 2) rfl ?_
  refine j_icmp_ge (tgt := 65) (pc := 28) hl5 hl2 dX3_firstWrong_28 (by decide) (fun c1 => ?_) (fun c1 => ?_)
  · skip
    refine j_sub (pc := 65) [(0, jm_vr wd1 X 6 0), (2, jm_i l2)] [0, 2] rfl ?_
    exact bX3_firstWrong_a12_65 X fu  M l2 hl2
  · skip
    refine j_iload (pc := 31) dX3_firstWrong_31 (q := 3) rfl ?_
    refine j_bipush (pc := 33) 60 dX3_firstWrong_33 (by decide) ?_
    refine j_icmp_ge (tgt := 65) (pc := 35) hl5 (jm_inL (by decide) (by decide)) dX3_firstWrong_35 (by decide) (fun c2 => ?_) (fun c2 => ?_)
    · skip
      refine j_sub (pc := 65) [(0, jm_vr wd1 X 6 0), (2, jm_i l2)] [0, 2] rfl ?_
      exact bX3_firstWrong_a12_65 X fu  M l2 hl2
    · skip
      refine j_iload (pc := 38) dX3_firstWrong_38 (q := 3) rfl ?_
      refine j_aload_n (pc := 40) dX3_firstWrong_40 rfl (q := 1) rfl ?_
      refine j_alen (pc := 41) jv1_12 jm_01 rfl (by decide) (fun _ => rfl) ka1_12 dX3_firstWrong_41 ?_
      refine j_icmp_ge (tgt := 65) (pc := 42) hl5 (jm_inL (by decide) (by decide)) dX3_firstWrong_42 (by decide) (fun c3 => ?_) (fun c3 => ?_)
      · skip
        refine j_sub (pc := 65) [(0, jm_vr wd1 X 6 0), (2, jm_i l2)] [0, 2] rfl ?_
        exact bX3_firstWrong_a12_65 X fu  M l2 hl2
      · skip
        refine j_aload_n (pc := 45) dX3_firstWrong_45 rfl (q := 0) rfl ?_
        refine j_aload_n (pc := 46) dX3_firstWrong_46 rfl (q := 1) rfl ?_
        refine j_iload (pc := 47) dX3_firstWrong_47 (q := 3) rfl ?_
        refine j_iald (pc := 49) jv1_12 jm_01 rfl (by decide) ka1_12 dX3_firstWrong_49 (fun c4 h5 => ?_)
        refine j_callVi1 (pc := 50) (ct_X3_takes fu M (M 12 0 l5) h5) kg_665 km_X3_takes kv_X3_takes rfl rfl ⟨(Nat.le_of_ble_eq_true rfl), (Nat.le_of_ble_eq_true rfl)⟩ jv1_6 jm_01 ko1_6 rfl rfl (Nat.le_of_ble_eq_true rfl) dX3_firstWrong_50 (fun v6 M7 h8 => ?_)
        refine j_if_ne (tgt := 59) (pc := 53) h8 dX3_firstWrong_53 (by decide) (fun c9 => ?_) (fun c9 => ?_)
        · skip
          refine j_iload (pc := 56) dX3_firstWrong_56 (q := 3) rfl ?_
          exact j_iret (pc := 58) hl5 rfl dX3_firstWrong_58
        · skip
          refine j_iinc (pc := 59) [(0, jm_vr wd1 X 6 0), (1, jm_vr wd1 X 12 0), (2, jm_i l2)] (q := 3) dX3_firstWrong_59 rfl (by decide) (fun _ => rfl) (fun v10 h11 => ?_)
          refine j_goto (tgt := 25) (pc := 62) dX3_firstWrong_62 (by decide) ?_
          refine j_sub (pc := 25) [(0, jm_vr wd1 X 6 0), (1, jm_vr wd1 X 12 0), (2, jm_i l2), (5, jm_i v10)] [1, 2, 3, 0] rfl ?_
          exact hk25 M7 l2 v10 hl2 h11
theorem bX3_firstWrong_a12_25 (X : jm_X) (fu : Nat) : ∀ (n : Nat) (M : jm_M) (l2 l5 : Int) (hl2 : jm_in l2) (hl5 : jm_in l5), jm_J wd1 (jm_qi .int) cX3_firstWrong 6 RX3 rmX3_firstWrong_a12 X M [(0, jm_vr wd1 X 6 0), (1, jm_vr wd1 X 12 0), (2, jm_i l2), (5, jm_i l5)] [] 25 (fX3_firstWrong_a12_25 fu n M l2 l5) := by
  intro n
  induction n with
  | zero => intro M l2 l5 hl2 hl5; exact j_none
  | succ n ih => intro M l2 l5 hl2 hl5; exact b0X3_firstWrong_a12_25 X fu (fX3_firstWrong_a12_25 fu n) ih M l2 l5 hl2 hl5
set_option maxHeartbeats 4000000 in
set_option maxRecDepth 100000 in
theorem ct_X3_firstWrong_a12 (fu : Nat) (M : jm_M) (l2 r3 l4 : Int) (hl2 : jm_in l2) (gr3 : 0 ≤ r3 ∧ r3 < 17) (hl4 : jm_in l4) : jm_Ci wd1 yX3_firstWrong cX3_firstWrong 6 (some .int) rmX3_firstWrong_a12 M (fun G ad => [.ref (ad (jm_r wd1 6 0)), .ref (ad (jm_r wd1 12 0)), jm_i l2, .ref (ad (jm_r wd1 11 r3)), jm_i l4]) (fX3_firstWrong_a12 fu M l2 r3 l4) := by
  refine jm_met_i (fun X => [(0, jm_vr wd1 X 6 0), (1, jm_vr wd1 X 12 0), (2, jm_i l2), (3, jm_vr wd1 X 11 r3), (4, jm_i l4)]) (by decide) (fun _ _ => (Nat.le_of_ble_eq_true rfl)) (fun _ => rfl) (fun X => ?_)
  unfold fX3_firstWrong_a12
  refine j_aload_n (pc := 0) dX3_firstWrong_0 rfl (q := 0) rfl ?_
  refine j_iload (pc := 1) dX3_firstWrong_1 (q := 4) rfl ?_
  refine j_putz (pc := 3) jv1_6 jm_01 kf_RX3_19 wI1 kp_X3_7 rfl kx1_6_7 hl4 dX3_firstWrong_3 (fun c2 M1 => ?_)
  refine j_aload_n (pc := 6) dX3_firstWrong_6 rfl (q := 0) rfl ?_
  refine j_aload_n (pc := 7) dX3_firstWrong_7 rfl (q := 3) rfl ?_
  refine j_putt (c2 := 17) (pc := 8) jv1_6 jm_01 kf_RX3_23 wI1 kp_X3_8 kx1_6_8 gr3 (by decide) (fun _ => rfl) (fun _ => rfl) dX3_firstWrong_8 (fun M3 => ?_)
  refine j_aload_n (pc := 11) dX3_firstWrong_11 rfl (q := 0) rfl ?_
  refine j_gett (pc := 12) jv1_6 jm_01 kf_RX3_23 kg1_6_8 dX3_firstWrong_12 (fun c4 => ?_)
  refine j_callVv0 (pc := 15) (ct_X8_empty M3 (M3 6 0 8) (by omega)) kg_657 km_X8_empty kv_X8_empty rfl rfl ⟨(Nat.le_of_ble_eq_true rfl), (Nat.le_of_ble_eq_true rfl)⟩ jv1_11 (by omega) ko1_11 rfl rfl (Nat.le_of_ble_eq_true rfl) dX3_firstWrong_15 (fun v5 M6 => ?_)
  refine j_aload_n (pc := 18) dX3_firstWrong_18 rfl (q := 0) rfl ?_
  refine j_callVv0 (pc := 19) (ct_X3_beginLine M6 ) kg_661 km_X3_beginLine kv_X3_beginLine rfl rfl ⟨(Nat.le_of_ble_eq_true rfl), (Nat.le_of_ble_eq_true rfl)⟩ jv1_6 jm_01 ko1_6 rfl rfl (Nat.le_of_ble_eq_true rfl) dX3_firstWrong_19 (fun v7 M8 => ?_)
  refine j_iconst (pc := 22) dX3_firstWrong_22 ?_
  refine j_istore (pc := 23) [(5, jm_i 0), (0, jm_vr wd1 X 6 0), (1, jm_vr wd1 X 12 0), (2, jm_i l2), (3, jm_vr wd1 X 11 r3), (4, jm_i l4)] dX3_firstWrong_23 (by decide) rfl ?_
  refine j_sub (pc := 25) [(0, jm_vr wd1 X 6 0), (1, jm_vr wd1 X 12 0), (2, jm_i l2), (5, jm_i 0)] [1, 2, 3, 0] rfl ?_
  exact bX3_firstWrong_a12_25 X fu  fu M8 l2 0 hl2 (jm_inL (by decide) (by decide))
abbrev rmX11_plan : Room := { frames := 13, cells := 0, slots := 0, locals := 510 }
set_option maxHeartbeats 4000000 in
set_option maxRecDepth 100000 in
theorem ct_X11_plan (fu : Nat) (M : jm_M) (l1 : Int) (hl1 : jm_in l1) : jm_Ci wd1 yX11_plan cX11_plan 5 (some .int) rmX11_plan M (fun G ad => [.ref (ad (jm_r wd1 0 0)), jm_i l1]) (fX11_plan fu M l1) := by
  refine jm_met_i (fun X => [(0, jm_vr wd1 X 0 0), (1, jm_i l1)]) (by decide) (fun _ _ => (Nat.le_of_ble_eq_true rfl)) (fun _ => rfl) (fun X => ?_)
  unfold fX11_plan
  refine j_aload_n (pc := 0) dX11_plan_0 rfl (q := 0) rfl ?_
  refine j_callVi0 (pc := 1) (ct_X11_takeTape M ) kg_649 km_X11_takeTape kv_X11_takeTape rfl rfl ⟨(Nat.le_of_ble_eq_true rfl), (Nat.le_of_ble_eq_true rfl)⟩ jv1_0 jm_01 ko1_0 rfl rfl (Nat.le_of_ble_eq_true rfl) dX11_plan_1 (fun v1 M2 h3 => ?_)
  refine j_istore_n (pc := 4) [(2, jm_i v1), (0, jm_vr wd1 X 0 0), (1, jm_i l1)] dX11_plan_4 rfl (by decide) rfl ?_
  refine j_aload_n (pc := 5) dX11_plan_5 rfl (q := 1) rfl ?_
  refine j_getr (pc := 6) jv1_0 jm_01 kf_RX11_24 0 kg1_0_1 rfl dX11_plan_6 ?_
  refine j_iload_n (pc := 9) dX11_plan_9 rfl (q := 2) rfl ?_
  refine j_callVi1 (pc := 10) (ct_X2_has M2 l1 hl1) kg_619 km_X2_has kv_X2_has rfl rfl ⟨(Nat.le_of_ble_eq_true rfl), (Nat.le_of_ble_eq_true rfl)⟩ jv1_2 jm_01 ko1_2 rfl rfl (Nat.le_of_ble_eq_true rfl) dX11_plan_10 (fun v4 M5 h6 => ?_)
  refine j_if_ne (tgt := 19) (pc := 13) h6 dX11_plan_13 (by decide) (fun c7 => ?_) (fun c7 => ?_)
  · skip
    refine j_bipush (pc := 16) (-100) dX11_plan_16 (by decide) ?_
    exact j_iret (pc := 18) (jm_inL (by decide) (by decide)) rfl dX11_plan_18
  · skip
    refine j_aload_n (pc := 19) dX11_plan_19 rfl (q := 1) rfl ?_
    refine j_getr (pc := 20) jv1_0 jm_01 kf_RX11_58 0 kg1_0_5 rfl dX11_plan_20 ?_
    refine j_aload_n (pc := 23) dX11_plan_23 rfl (q := 1) rfl ?_
    refine j_getr (pc := 24) jv1_0 jm_01 kf_RX11_62 0 kg1_0_6 rfl dX11_plan_24 ?_
    refine j_iload_n (pc := 27) dX11_plan_27 rfl (q := 0) rfl ?_
    refine j_aload_n (pc := 28) dX11_plan_28 rfl (q := 1) rfl ?_
    refine j_gett (pc := 29) jv1_0 jm_01 kf_RX11_72 kg1_0_10 dX11_plan_29 (fun c8 => ?_)
    refine j_iconst (pc := 32) dX11_plan_32 ?_
    refine j_callVi4 (pc := 33) (ct_X3_firstWrong_a12 fu M5 v1 (M5 0 0 10) 1 h3 (by omega) (jm_inL (by decide) (by decide))) kg_653 km_X3_firstWrong kv_X3_firstWrong rfl rfl ⟨(Nat.le_of_ble_eq_true rfl), (Nat.le_of_ble_eq_true rfl)⟩ jv1_6 jm_01 ko1_6 rfl rfl (Nat.le_of_ble_eq_true rfl) dX11_plan_33 (fun v9 M10 h11 => ?_)
    refine j_istore_n (pc := 36) [(3, jm_i v9), (2, jm_i v1), (0, jm_vr wd1 X 0 0), (1, jm_i l1)] dX11_plan_36 rfl (by decide) rfl ?_
    refine j_iload_n (pc := 37) dX11_plan_37 rfl (q := 0) rfl ?_
    refine j_iconst (pc := 38) dX11_plan_38 ?_
    refine j_icmp_eq (tgt := 46) (pc := 39) h11 (jm_inL (by decide) (by decide)) dX11_plan_39 (by decide) (fun c12 => ?_) (fun c12 => ?_)
    · skip
      refine j_aload_n (pc := 46) dX11_plan_46 rfl (q := 2) rfl ?_
      refine j_getr (pc := 47) jv1_0 jm_01 kf_RX11_24 0 kg1_0_1 rfl dX11_plan_47 ?_
      refine j_getr (pc := 50) jv1_2 jm_01 kf_RX11_148 0 kg1_2_2 rfl dX11_plan_50 ?_
      refine j_iload_n (pc := 53) dX11_plan_53 rfl (q := 3) rfl ?_
      refine j_aald (pc := 54) jv1_46 jm_01 (by decide) kr1_46 dX11_plan_54 (fun c13 => ?_)
      refine j_gett (pc := 55) jv1_8 (by omega) kf_RX11_206 kg1_8_11 dX11_plan_55 (fun c14 => ?_)
      refine j_astore (pc := 58) [(4, jm_vr wd1 X 11 (M10 8 l1 11)), (3, jm_i v9), (2, jm_i v1), (0, jm_vr wd1 X 0 0), (1, jm_i l1)] dX11_plan_58 (by decide) rfl ?_
      refine j_aload_n (pc := 60) dX11_plan_60 rfl (q := 3) rfl ?_
      refine j_getr (pc := 61) jv1_0 jm_01 kf_RX11_24 0 kg1_0_1 rfl dX11_plan_61 ?_
      refine j_getr (pc := 64) jv1_2 jm_01 kf_RX11_148 0 kg1_2_2 rfl dX11_plan_64 ?_
      refine j_iload_n (pc := 67) dX11_plan_67 rfl (q := 4) rfl ?_
      refine j_aald (pc := 68) jv1_46 jm_01 (by decide) kr1_46 dX11_plan_68 (fun c15 => ?_)
      refine j_aload_n (pc := 69) dX11_plan_69 rfl (q := 3) rfl ?_
      refine j_gett (pc := 70) jv1_0 jm_01 kf_RX11_72 kg1_0_10 dX11_plan_70 (fun c16 => ?_)
      refine j_putt (c2 := 17) (pc := 73) jv1_8 (by omega) kf_RX11_206 wI1 kp_X1_11 kx1_8_11 (by omega) (by decide) (fun _ => rfl) (fun _ => rfl) dX11_plan_73 (fun M17 => ?_)
      refine j_aload_n (pc := 76) dX11_plan_76 rfl (q := 3) rfl ?_
      refine j_getr (pc := 77) jv1_0 jm_01 kf_RX11_24 0 kg1_0_1 rfl dX11_plan_77 ?_
      refine j_getr (pc := 80) jv1_2 jm_01 kf_RX11_148 0 kg1_2_2 rfl dX11_plan_80 ?_
      refine j_iload_n (pc := 83) dX11_plan_83 rfl (q := 4) rfl ?_
      refine j_aald (pc := 84) jv1_46 jm_01 (by decide) kr1_46 dX11_plan_84 (fun c18 => ?_)
      refine j_iconst (pc := 85) dX11_plan_85 ?_
      refine j_put (pc := 86) jv1_8 (by omega) kf_RX11_209 wI1 kp_X1_12 kx1_8_12 (jm_inL (by decide) (by decide)) rfl rfl dX11_plan_86 (fun M19 => ?_)
      refine j_aload_n (pc := 89) dX11_plan_89 rfl (q := 3) rfl ?_
      refine j_aload (pc := 90) dX11_plan_90 (q := 0) rfl ?_
      refine j_putt (c2 := 17) (pc := 92) jv1_0 jm_01 kf_RX11_72 wI1 kp_X11_10 kx1_0_10 (by omega) (by decide) (fun _ => rfl) (fun _ => rfl) dX11_plan_92 (fun M20 => ?_)
      refine j_aload_n (pc := 95) dX11_plan_95 rfl (q := 3) rfl ?_
      refine j_getr (pc := 96) jv1_0 jm_01 kf_RX11_24 0 kg1_0_1 rfl dX11_plan_96 ?_
      refine j_iconst (pc := 99) dX11_plan_99 ?_
      refine j_put (pc := 100) jv1_2 jm_01 kf_RX11_84 wI1 kp_X2_7 kx1_2_7 (jm_inL (by decide) (by decide)) rfl rfl dX11_plan_100 (fun M21 => ?_)
      refine j_iconst (pc := 103) dX11_plan_103 ?_
      exact j_iret (pc := 104) (jm_inL (by decide) (by decide)) rfl dX11_plan_104
    · skip
      refine j_iconst (pc := 42) dX11_plan_42 ?_
      refine j_iload_n (pc := 43) dX11_plan_43 rfl (q := 0) rfl ?_
      refine j_isub (pc := 44) dX11_plan_44 ?_
      exact j_iret (pc := 45) (jm_w_in _) rfl dX11_plan_45
abbrev rmX11_unplan : Room := { frames := 2, cells := 0, slots := 0, locals := 42 }
set_option maxHeartbeats 4000000 in
set_option maxRecDepth 100000 in
theorem ct_X11_unplan (M : jm_M) (l1 : Int) (hl1 : jm_in l1) : jm_Ci wd1 yX11_unplan cX11_unplan 2 (some .boolean) rmX11_unplan M (fun G ad => [.ref (ad (jm_r wd1 0 0)), jm_i l1]) (fX11_unplan M l1) := by
  refine jm_met_i (fun X => [(0, jm_vr wd1 X 0 0), (1, jm_i l1)]) (by decide) (fun _ _ => (Nat.le_of_ble_eq_true rfl)) (fun _ => rfl) (fun X => ?_)
  unfold fX11_unplan
  refine j_aload_n (pc := 0) dX11_unplan_0 rfl (q := 0) rfl ?_
  refine j_getr (pc := 1) jv1_0 jm_01 kf_RX11_24 0 kg1_0_1 rfl dX11_unplan_1 ?_
  refine j_iload_n (pc := 4) dX11_unplan_4 rfl (q := 1) rfl ?_
  refine j_callVi1 (pc := 5) (ct_X2_has M l1 hl1) kg_619 km_X2_has kv_X2_has rfl rfl ⟨(Nat.le_of_ble_eq_true rfl), (Nat.le_of_ble_eq_true rfl)⟩ jv1_2 jm_01 ko1_2 rfl rfl (Nat.le_of_ble_eq_true rfl) dX11_unplan_5 (fun v1 M2 h3 => ?_)
  refine j_if_eq (tgt := 26) (pc := 8) h3 dX11_unplan_8 (by decide) (fun c4 => ?_) (fun c4 => ?_)
  · skip
    refine j_iconst (pc := 26) dX11_unplan_26 ?_
    exact j_iret (pc := 27) (jm_inL (by decide) (by decide)) rfl dX11_unplan_27
  · skip
    refine j_aload_n (pc := 11) dX11_unplan_11 rfl (q := 0) rfl ?_
    refine j_getr (pc := 12) jv1_0 jm_01 kf_RX11_24 0 kg1_0_1 rfl dX11_unplan_12 ?_
    refine j_getr (pc := 15) jv1_2 jm_01 kf_RX11_148 0 kg1_2_2 rfl dX11_unplan_15 ?_
    refine j_iload_n (pc := 18) dX11_unplan_18 rfl (q := 1) rfl ?_
    refine j_aald (pc := 19) jv1_46 jm_01 (by decide) kr1_46 dX11_unplan_19 (fun c5 => ?_)
    refine j_geti (pc := 20) jv1_8 (by omega) kf_RX11_209 kg1_8_12 dX11_unplan_20 (fun h6 => ?_)
    refine j_if_ne (tgt := 28) (pc := 23) h6 dX11_unplan_23 (by decide) (fun c7 => ?_) (fun c7 => ?_)
    · skip
      refine j_iconst (pc := 26) dX11_unplan_26 ?_
      exact j_iret (pc := 27) (jm_inL (by decide) (by decide)) rfl dX11_unplan_27
    · skip
      refine j_aload_n (pc := 28) dX11_unplan_28 rfl (q := 0) rfl ?_
      refine j_getr (pc := 29) jv1_0 jm_01 kf_RX11_24 0 kg1_0_1 rfl dX11_unplan_29 ?_
      refine j_getr (pc := 32) jv1_2 jm_01 kf_RX11_148 0 kg1_2_2 rfl dX11_unplan_32 ?_
      refine j_iload_n (pc := 35) dX11_unplan_35 rfl (q := 1) rfl ?_
      refine j_aald (pc := 36) jv1_46 jm_01 (by decide) kr1_46 dX11_unplan_36 (fun c8 => ?_)
      refine j_iconst (pc := 37) dX11_unplan_37 ?_
      refine j_put (pc := 38) jv1_8 (by omega) kf_RX11_209 wI1 kp_X1_12 kx1_8_12 (jm_inL (by decide) (by decide)) rfl rfl dX11_unplan_38 (fun M9 => ?_)
      refine j_aload_n (pc := 41) dX11_unplan_41 rfl (q := 0) rfl ?_
      refine j_getr (pc := 42) jv1_0 jm_01 kf_RX11_24 0 kg1_0_1 rfl dX11_unplan_42 ?_
      refine j_iconst (pc := 45) dX11_unplan_45 ?_
      refine j_put (pc := 46) jv1_2 jm_01 kf_RX11_84 wI1 kp_X2_7 kx1_2_7 (jm_inL (by decide) (by decide)) rfl rfl dX11_unplan_46 (fun M10 => ?_)
      refine j_iconst (pc := 49) dX11_unplan_49 ?_
      exact j_iret (pc := 50) (jm_inL (by decide) (by decide)) rfl dX11_unplan_50
abbrev rmX2_optionCount : Room := { frames := 0, cells := 0, slots := 0, locals := 0 }
set_option maxHeartbeats 4000000 in
set_option maxRecDepth 100000 in
theorem b0X2_optionCount_4 (X : jm_X) (fu : Nat) (k4 : jm_M → Int → Int → jm_R) (hk4 : ∀ (M : jm_M) (l1 l2 : Int) (hl1 : jm_in l1) (hl2 : jm_in l2), jm_J wd1 (jm_qi .int) cX2_optionCount 3 RX2 rmX2_optionCount X M [(0, jm_vr wd1 X 2 0), (1, jm_i l1), (2, jm_i l2)] [] 4 (k4 M l1 l2)) : ∀ (M : jm_M) (l1 l2 : Int) (hl1 : jm_in l1) (hl2 : jm_in l2), jm_J wd1 (jm_qi .int) cX2_optionCount 3 RX2 rmX2_optionCount X M [(0, jm_vr wd1 X 2 0), (1, jm_i l1), (2, jm_i l2)] [] 4 (gX2_optionCount_4 fu k4 M l1 l2) := by
  intro M l1 l2 hl1 hl2
  unfold gX2_optionCount_4
  refine j_iload_n (pc := 4) dX2_optionCount_4 rfl (q := 2) rfl ?_
  refine j_aload_n (pc := 5) dX2_optionCount_5 rfl (q := 0) rfl ?_
  refine j_geti (pc := 6) jv1_2 jm_01 kf_RX2_37 kg1_2_5 dX2_optionCount_6 (fun h1 => ?_)
  refine j_icmp_ge (tgt := 39) (pc := 9) hl2 h1 dX2_optionCount_9 (by decide) (fun c2 => ?_) (fun c2 => ?_)
  · skip
    refine j_iload_n (pc := 39) dX2_optionCount_39 rfl (q := 1) rfl ?_
    exact j_iret (pc := 40) hl1 rfl dX2_optionCount_40
  · skip
    refine j_iload_n (pc := 12) dX2_optionCount_12 rfl (q := 2) rfl ?_
    refine j_bipush (pc := 13) 6 dX2_optionCount_13 (by decide) ?_
    refine j_icmp_ge (tgt := 39) (pc := 15) hl2 (jm_inL (by decide) (by decide)) dX2_optionCount_15 (by decide) (fun c3 => ?_) (fun c3 => ?_)
    · skip
      refine j_iload_n (pc := 39) dX2_optionCount_39 rfl (q := 1) rfl ?_
      exact j_iret (pc := 40) hl1 rfl dX2_optionCount_40
    · skip
      refine j_iload_n (pc := 18) dX2_optionCount_18 rfl (q := 1) rfl ?_
      refine j_aload_n (pc := 19) dX2_optionCount_19 rfl (q := 0) rfl ?_
      refine j_getr (pc := 20) jv1_2 jm_01 kf_RX2_21 0 kg1_2_2 rfl dX2_optionCount_20 ?_
      refine j_iload_n (pc := 23) dX2_optionCount_23 rfl (q := 2) rfl ?_
      refine j_aald (pc := 24) jv1_46 jm_01 (by decide) kr1_46 dX2_optionCount_24 (fun c4 => ?_)
      refine j_getr (pc := 25) jv1_8 (by omega) kf_RX2_45 (l2 + 18) kg1_8_9 rfl dX2_optionCount_25 ?_
      refine j_geti (pc := 28) jv1_10 (by omega) kf_RX2_49 kg1_10_3 dX2_optionCount_28 (fun h5 => ?_)
      refine j_iadd (pc := 31) dX2_optionCount_31 ?_
      refine j_nm (pc := 32) (jm_w_in _) (fun v6 h7 => ?_)
      refine j_istore_n (pc := 32) [(1, jm_i v6), (0, jm_vr wd1 X 2 0), (2, jm_i l2)] dX2_optionCount_32 rfl (by decide) rfl ?_
      refine j_iinc (pc := 33) [(1, jm_i v6), (0, jm_vr wd1 X 2 0)] (q := 2) dX2_optionCount_33 rfl (by decide) (fun _ => rfl) (fun v8 h9 => ?_)
      refine j_goto (tgt := 4) (pc := 36) dX2_optionCount_36 (by decide) ?_
      refine j_sub (pc := 4) [(0, jm_vr wd1 X 2 0), (1, jm_i v6), (2, jm_i v8)] [2, 1, 0] rfl ?_
      exact hk4 M v6 v8 h7 h9
theorem bX2_optionCount_4 (X : jm_X) (fu : Nat) : ∀ (n : Nat) (M : jm_M) (l1 l2 : Int) (hl1 : jm_in l1) (hl2 : jm_in l2), jm_J wd1 (jm_qi .int) cX2_optionCount 3 RX2 rmX2_optionCount X M [(0, jm_vr wd1 X 2 0), (1, jm_i l1), (2, jm_i l2)] [] 4 (fX2_optionCount_4 fu n M l1 l2) := by
  intro n
  induction n with
  | zero => intro M l1 l2 hl1 hl2; exact j_none
  | succ n ih => intro M l1 l2 hl1 hl2; exact b0X2_optionCount_4 X fu (fX2_optionCount_4 fu n) ih M l1 l2 hl1 hl2
set_option maxHeartbeats 4000000 in
set_option maxRecDepth 100000 in
theorem ct_X2_optionCount (fu : Nat) (M : jm_M) : jm_Ci wd1 yX2_optionCount cX2_optionCount 3 (some .int) rmX2_optionCount M (fun G ad => [.ref (ad (jm_r wd1 2 0))]) (fX2_optionCount fu M ) := by
  refine jm_met_i (fun X => [(0, jm_vr wd1 X 2 0)]) (by decide) (fun _ _ => (Nat.le_of_ble_eq_true rfl)) (fun _ => rfl) (fun X => ?_)
  unfold fX2_optionCount
  refine j_iconst (pc := 0) dX2_optionCount_0 ?_
  refine j_istore_n (pc := 1) [(1, jm_i 0), (0, jm_vr wd1 X 2 0)] dX2_optionCount_1 rfl (by decide) rfl ?_
  refine j_iconst (pc := 2) dX2_optionCount_2 ?_
  refine j_istore_n (pc := 3) [(2, jm_i 0), (1, jm_i 0), (0, jm_vr wd1 X 2 0)] dX2_optionCount_3 rfl (by decide) rfl ?_
  refine j_sub (pc := 4) [(0, jm_vr wd1 X 2 0), (1, jm_i 0), (2, jm_i 0)] [2, 1, 0] rfl ?_
  exact bX2_optionCount_4 X fu  fu M 0 0 (jm_inL (by decide) (by decide)) (jm_inL (by decide) (by decide))
abbrev rmX11_count : Room := { frames := 1, cells := 0, slots := 0, locals := 22 }
set_option maxHeartbeats 4000000 in
set_option maxRecDepth 100000 in
theorem ct_X11_count (fu : Nat) (M : jm_M) (l1 : Int) (hl1 : jm_in l1) : jm_Ci wd1 yX11_count cX11_count 2 (some .int) rmX11_count M (fun G ad => [.ref (ad (jm_r wd1 0 0)), jm_i l1]) (fX11_count fu M l1) := by
  refine jm_met_i (fun X => [(0, jm_vr wd1 X 0 0), (1, jm_i l1)]) (by decide) (fun _ _ => (Nat.le_of_ble_eq_true rfl)) (fun _ => rfl) (fun X => ?_)
  unfold fX11_count
  refine j_iload_n (pc := 0) dX11_count_0 rfl (q := 1) rfl ?_
  refine j_ite (pc := 1) (fun c1 => ?_) (fun c1 => ?_)
  · skip
    refine j_tabIn (off := (55)) (tgt := 56) (pc := 1) 0 hl1 dX11_count_1 c1 (by decide) (by decide) rfl (by decide) ?_
    refine j_aload_n (pc := 56) dX11_count_56 rfl (q := 0) rfl ?_
    refine j_getr (pc := 57) jv1_0 jm_01 kf_RX11_15 0 kg1_0_0 rfl dX11_count_57 ?_
    refine j_geti (pc := 60) jv1_1 jm_01 kf_RX11_212 kg1_1_0 dX11_count_60 (fun h2 => ?_)
    exact j_iret (pc := 63) h2 rfl dX11_count_63
  · skip
    refine j_ite (pc := 1) (fun c3 => ?_) (fun c3 => ?_)
    · skip
      refine j_tabIn (off := (63)) (tgt := 64) (pc := 1) 1 hl1 dX11_count_1 c3 (by decide) (by decide) rfl (by decide) ?_
      refine j_aload_n (pc := 64) dX11_count_64 rfl (q := 0) rfl ?_
      refine j_getr (pc := 65) jv1_0 jm_01 kf_RX11_15 0 kg1_0_0 rfl dX11_count_65 ?_
      refine j_geti (pc := 68) jv1_1 jm_01 kf_RX11_185 kg1_1_1 dX11_count_68 (fun h4 => ?_)
      exact j_iret (pc := 71) h4 rfl dX11_count_71
    · skip
      refine j_ite (pc := 1) (fun c5 => ?_) (fun c5 => ?_)
      · skip
        refine j_tabIn (off := (71)) (tgt := 72) (pc := 1) 2 hl1 dX11_count_1 c5 (by decide) (by decide) rfl (by decide) ?_
        refine j_aload_n (pc := 72) dX11_count_72 rfl (q := 0) rfl ?_
        refine j_getr (pc := 73) jv1_0 jm_01 kf_RX11_24 0 kg1_0_1 rfl dX11_count_73 ?_
        refine j_geti (pc := 76) jv1_2 jm_01 kf_RX11_80 kg1_2_5 dX11_count_76 (fun h6 => ?_)
        exact j_iret (pc := 79) h6 rfl dX11_count_79
      · skip
        refine j_ite (pc := 1) (fun c7 => ?_) (fun c7 => ?_)
        · skip
          refine j_tabIn (off := (79)) (tgt := 80) (pc := 1) 3 hl1 dX11_count_1 c7 (by decide) (by decide) rfl (by decide) ?_
          refine j_aload_n (pc := 80) dX11_count_80 rfl (q := 0) rfl ?_
          refine j_getr (pc := 81) jv1_0 jm_01 kf_RX11_15 0 kg1_0_0 rfl dX11_count_81 ?_
          refine j_getr (pc := 84) jv1_1 jm_01 kf_RX11_138 30 kg1_1_7 rfl dX11_count_84 ?_
          refine j_geti (pc := 87) jv1_10 (by omega) kf_RX11_95 kg1_10_3 dX11_count_87 (fun h8 => ?_)
          exact j_iret (pc := 90) h8 rfl dX11_count_90
        · skip
          refine j_ite (pc := 1) (fun c9 => ?_) (fun c9 => ?_)
          · skip
            refine j_tabIn (off := (90)) (tgt := 91) (pc := 1) 4 hl1 dX11_count_1 c9 (by decide) (by decide) rfl (by decide) ?_
            refine j_aload_n (pc := 91) dX11_count_91 rfl (q := 0) rfl ?_
            refine j_getr (pc := 92) jv1_0 jm_01 kf_RX11_15 0 kg1_0_0 rfl dX11_count_92 ?_
            refine j_getr (pc := 95) jv1_1 jm_01 kf_RX11_145 31 kg1_1_8 rfl dX11_count_95 ?_
            refine j_geti (pc := 98) jv1_10 (by omega) kf_RX11_95 kg1_10_3 dX11_count_98 (fun h10 => ?_)
            exact j_iret (pc := 101) h10 rfl dX11_count_101
          · skip
            refine j_ite (pc := 1) (fun c11 => ?_) (fun c11 => ?_)
            · skip
              refine j_tabIn (off := (101)) (tgt := 102) (pc := 1) 5 hl1 dX11_count_1 c11 (by decide) (by decide) rfl (by decide) ?_
              refine j_aload_n (pc := 102) dX11_count_102 rfl (q := 0) rfl ?_
              refine j_getr (pc := 103) jv1_0 jm_01 kf_RX11_33 0 kg1_0_2 rfl dX11_count_103 ?_
              refine j_geti (pc := 106) jv1_3 jm_01 kf_RX11_88 kg1_3_3 dX11_count_106 (fun h12 => ?_)
              exact j_iret (pc := 109) h12 rfl dX11_count_109
            · skip
              refine j_ite (pc := 1) (fun c13 => ?_) (fun c13 => ?_)
              · skip
                refine j_tabIn (off := (109)) (tgt := 110) (pc := 1) 6 hl1 dX11_count_1 c13 (by decide) (by decide) rfl (by decide) ?_
                refine j_aload_n (pc := 110) dX11_count_110 rfl (q := 0) rfl ?_
                refine j_getr (pc := 111) jv1_0 jm_01 kf_RX11_33 0 kg1_0_2 rfl dX11_count_111 ?_
                refine j_getr (pc := 114) jv1_3 jm_01 kf_RX11_91 32 kg1_3_4 rfl dX11_count_114 ?_
                refine j_geti (pc := 117) jv1_10 (by omega) kf_RX11_95 kg1_10_3 dX11_count_117 (fun h14 => ?_)
                exact j_iret (pc := 120) h14 rfl dX11_count_120
              · skip
                refine j_ite (pc := 1) (fun c15 => ?_) (fun c15 => ?_)
                · skip
                  refine j_tabIn (off := (120)) (tgt := 121) (pc := 1) 7 hl1 dX11_count_1 c15 (by decide) (by decide) rfl (by decide) ?_
                  refine j_aload_n (pc := 121) dX11_count_121 rfl (q := 0) rfl ?_
                  refine j_geti (pc := 122) jv1_0 jm_01 kf_RX11_215 kg1_0_9 dX11_count_122 (fun h16 => ?_)
                  exact j_iret (pc := 125) h16 rfl dX11_count_125
                · skip
                  refine j_ite (pc := 1) (fun c17 => ?_) (fun c17 => ?_)
                  · skip
                    refine j_tabIn (off := (125)) (tgt := 126) (pc := 1) 8 hl1 dX11_count_1 c17 (by decide) (by decide) rfl (by decide) ?_
                    refine j_aload_n (pc := 126) dX11_count_126 rfl (q := 0) rfl ?_
                    refine j_geti (pc := 127) jv1_0 jm_01 kf_RX11_218 kg1_0_7 dX11_count_127 (fun h18 => ?_)
                    exact j_iret (pc := 130) h18 rfl dX11_count_130
                  · skip
                    refine j_ite (pc := 1) (fun c19 => ?_) (fun c19 => ?_)
                    · skip
                      refine j_tabIn (off := (130)) (tgt := 131) (pc := 1) 9 hl1 dX11_count_1 c19 (by decide) (by decide) rfl (by decide) ?_
                      refine j_aload_n (pc := 131) dX11_count_131 rfl (q := 0) rfl ?_
                      refine j_getr (pc := 132) jv1_0 jm_01 kf_RX11_24 0 kg1_0_1 rfl dX11_count_132 ?_
                      refine j_callVi0 (pc := 135) (ct_X2_optionCount fu M ) kg_844 km_X2_optionCount kv_X2_optionCount rfl rfl ⟨(Nat.le_of_ble_eq_true rfl), (Nat.le_of_ble_eq_true rfl)⟩ jv1_2 jm_01 ko1_2 rfl rfl (Nat.le_of_ble_eq_true rfl) dX11_count_135 (fun v20 M21 h22 => ?_)
                      exact j_iret (pc := 138) h22 rfl dX11_count_138
                    · skip
                      refine j_tabOut (tgt := 139) (pc := 1) hl1 dX11_count_1 (by omega) (by decide) ?_
                      refine j_iconst (pc := 139) dX11_count_139 ?_
                      exact j_iret (pc := 140) (jm_inL (by decide) (by decide)) rfl dX11_count_140
abbrev rmJ7_fill_53178_a34_w1 : Room := { frames := 0, cells := 0, slots := 0, locals := 0 }
set_option maxHeartbeats 4000000 in
set_option maxRecDepth 100000 in
theorem b0J7_fill_53178_a34_w1_5 (X : jm_X) (fu : Nat) (k5 : jm_M → Int → Int → Int → jm_R) (hk5 : ∀ (M : jm_M) (l1 l2 l3 : Int) (hl1 : jm_in l1) (hl2 : jm_in l2) (hl3 : jm_in l3), jm_J wd1 jm_qv cJ7_fill_53178 4 RJ7 rmJ7_fill_53178_a34_w1 X M [(0, jm_vr wd1 X 34 0), (1, jm_i l1), (2, jm_i l2), (3, jm_i l3)] [] 5 (k5 M l1 l2 l3)) : ∀ (M : jm_M) (l1 l2 l3 : Int) (hl1 : jm_in l1) (hl2 : jm_in l2) (hl3 : jm_in l3), jm_J wd1 jm_qv cJ7_fill_53178 4 RJ7 rmJ7_fill_53178_a34_w1 X M [(0, jm_vr wd1 X 34 0), (1, jm_i l1), (2, jm_i l2), (3, jm_i l3)] [] 5 (gJ7_fill_53178_a34_w1_5 fu k5 M l1 l2 l3) := by
  intro M l1 l2 l3 hl1 hl2 hl3
  unfold gJ7_fill_53178_a34_w1_5
  refine j_iload_n (pc := 5) dJ7_fill_53178_5 rfl (q := 2) rfl ?_
  refine j_iload_n (pc := 6) dJ7_fill_53178_6 rfl (q := 3) rfl ?_
  refine j_icmp_ge (tgt := 20) (pc := 7) hl2 hl3 dJ7_fill_53178_7 (by decide) (fun c1 => ?_) (fun c1 => ?_)
  · skip
    exact j_vret (pc := 20) dJ7_fill_53178_20
  · skip
    refine j_aload_n (pc := 10) dJ7_fill_53178_10 rfl (q := 0) rfl ?_
    refine j_iload_n (pc := 11) dJ7_fill_53178_11 rfl (q := 2) rfl ?_
    refine j_iload_n (pc := 12) dJ7_fill_53178_12 rfl (q := 1) rfl ?_
    refine j_iast (pc := 13) jv1_34 jm_01 rfl (by decide) wI1 ka1_34 hl1 dJ7_fill_53178_13 (fun c2 M3 => ?_)
    refine j_iinc (pc := 14) [(0, jm_vr wd1 X 34 0), (1, jm_i l1), (3, jm_i l3)] (q := 2) dJ7_fill_53178_14 rfl (by decide) (fun _ => rfl) (fun v4 h5 => ?_)
    refine j_goto (tgt := 5) (pc := 17) dJ7_fill_53178_17 (by decide) ?_
    refine j_sub (pc := 5) [(0, jm_vr wd1 X 34 0), (1, jm_i l1), (2, jm_i v4), (3, jm_i l3)] [1, 2, 0, 3] rfl ?_
    exact hk5 M3 l1 v4 l3 hl1 h5 hl3
theorem bJ7_fill_53178_a34_w1_5 (X : jm_X) (fu : Nat) : ∀ (n : Nat) (M : jm_M) (l1 l2 l3 : Int) (hl1 : jm_in l1) (hl2 : jm_in l2) (hl3 : jm_in l3), jm_J wd1 jm_qv cJ7_fill_53178 4 RJ7 rmJ7_fill_53178_a34_w1 X M [(0, jm_vr wd1 X 34 0), (1, jm_i l1), (2, jm_i l2), (3, jm_i l3)] [] 5 (fJ7_fill_53178_a34_w1_5 fu n M l1 l2 l3) := by
  intro n
  induction n with
  | zero => intro M l1 l2 l3 hl1 hl2 hl3; exact j_none
  | succ n ih => intro M l1 l2 l3 hl1 hl2 hl3; exact b0J7_fill_53178_a34_w1_5 X fu (fJ7_fill_53178_a34_w1_5 fu n) ih M l1 l2 l3 hl1 hl2 hl3
set_option maxHeartbeats 4000000 in
set_option maxRecDepth 100000 in
theorem ct_J7_fill_53178_a34_w1 (fu : Nat) (M : jm_M) (l1 : Int) (hl1 : jm_in l1) : jm_Cv wd1 yJ7_fill_53178 cJ7_fill_53178 4 none rmJ7_fill_53178_a34_w1 M (fun G ad => [.ref (ad (jm_r wd1 34 0)), jm_i l1]) (fJ7_fill_53178_a34_w1 fu M l1) := by
  refine jm_met_v (fun X => [(0, jm_vr wd1 X 34 0), (1, jm_i l1)]) (by decide) (fun _ _ => (Nat.le_of_ble_eq_true rfl)) (fun _ => rfl) (fun X => ?_)
  unfold fJ7_fill_53178_a34_w1
  refine j_iconst (pc := 0) dJ7_fill_53178_0 ?_
  refine j_istore_n (pc := 1) [(2, jm_i 0), (0, jm_vr wd1 X 34 0), (1, jm_i l1)] dJ7_fill_53178_1 rfl (by decide) rfl ?_
  refine j_aload_n (pc := 2) dJ7_fill_53178_2 rfl (q := 1) rfl ?_
  refine j_alen (pc := 3) jv1_34 jm_01 rfl (by decide) (fun _ => rfl) ka1_34 dJ7_fill_53178_3 ?_
  refine j_istore_n (pc := 4) [(3, jm_i 4), (2, jm_i 0), (0, jm_vr wd1 X 34 0), (1, jm_i l1)] dJ7_fill_53178_4 rfl (by decide) rfl ?_
  refine j_sub (pc := 5) [(0, jm_vr wd1 X 34 0), (1, jm_i l1), (2, jm_i 0), (3, jm_i 4)] [2, 3, 1, 0] rfl ?_
  exact bJ7_fill_53178_a34_w1_5 X fu  fu M l1 0 4 hl1 (jm_inL (by decide) (by decide)) (jm_inL (by decide) (by decide))
abbrev rmJ7_fill_53178_a31_w1 : Room := { frames := 0, cells := 0, slots := 0, locals := 0 }
set_option maxHeartbeats 4000000 in
set_option maxRecDepth 100000 in
theorem b0J7_fill_53178_a31_w1_5 (X : jm_X) (fu : Nat) (k5 : jm_M → Int → Int → Int → Int → jm_R) (hk5 : ∀ (M : jm_M) (r0 l1 l2 l3 : Int) (gr0 : 0 ≤ r0 ∧ r0 < 6) (hl1 : jm_in l1) (hl2 : jm_in l2) (hl3 : jm_in l3), jm_J wd1 jm_qv cJ7_fill_53178 4 RJ7 rmJ7_fill_53178_a31_w1 X M [(0, jm_vr wd1 X 31 r0), (1, jm_i l1), (2, jm_i l2), (3, jm_i l3)] [] 5 (k5 M r0 l1 l2 l3)) : ∀ (M : jm_M) (r0 l1 l2 l3 : Int) (gr0 : 0 ≤ r0 ∧ r0 < 6) (hl1 : jm_in l1) (hl2 : jm_in l2) (hl3 : jm_in l3), jm_J wd1 jm_qv cJ7_fill_53178 4 RJ7 rmJ7_fill_53178_a31_w1 X M [(0, jm_vr wd1 X 31 r0), (1, jm_i l1), (2, jm_i l2), (3, jm_i l3)] [] 5 (gJ7_fill_53178_a31_w1_5 fu k5 M r0 l1 l2 l3) := by
  intro M r0 l1 l2 l3 gr0 hl1 hl2 hl3
  unfold gJ7_fill_53178_a31_w1_5
  refine j_iload_n (pc := 5) dJ7_fill_53178_5 rfl (q := 2) rfl ?_
  refine j_iload_n (pc := 6) dJ7_fill_53178_6 rfl (q := 3) rfl ?_
  refine j_icmp_ge (tgt := 20) (pc := 7) hl2 hl3 dJ7_fill_53178_7 (by decide) (fun c1 => ?_) (fun c1 => ?_)
  · skip
    exact j_vret (pc := 20) dJ7_fill_53178_20
  · skip
    refine j_aload_n (pc := 10) dJ7_fill_53178_10 rfl (q := 0) rfl ?_
    refine j_iload_n (pc := 11) dJ7_fill_53178_11 rfl (q := 2) rfl ?_
    refine j_iload_n (pc := 12) dJ7_fill_53178_12 rfl (q := 1) rfl ?_
    refine j_iast (pc := 13) jv1_31 gr0 rfl (by decide) wI1 ka1_31 hl1 dJ7_fill_53178_13 (fun c2 M3 => ?_)
    refine j_iinc (pc := 14) [(0, jm_vr wd1 X 31 r0), (1, jm_i l1), (3, jm_i l3)] (q := 2) dJ7_fill_53178_14 rfl (by decide) (fun _ => rfl) (fun v4 h5 => ?_)
    refine j_goto (tgt := 5) (pc := 17) dJ7_fill_53178_17 (by decide) ?_
    refine j_sub (pc := 5) [(0, jm_vr wd1 X 31 r0), (1, jm_i l1), (2, jm_i v4), (3, jm_i l3)] [1, 2, 0, 3] rfl ?_
    exact hk5 M3 r0 l1 v4 l3 gr0 hl1 h5 hl3
theorem bJ7_fill_53178_a31_w1_5 (X : jm_X) (fu : Nat) : ∀ (n : Nat) (M : jm_M) (r0 l1 l2 l3 : Int) (gr0 : 0 ≤ r0 ∧ r0 < 6) (hl1 : jm_in l1) (hl2 : jm_in l2) (hl3 : jm_in l3), jm_J wd1 jm_qv cJ7_fill_53178 4 RJ7 rmJ7_fill_53178_a31_w1 X M [(0, jm_vr wd1 X 31 r0), (1, jm_i l1), (2, jm_i l2), (3, jm_i l3)] [] 5 (fJ7_fill_53178_a31_w1_5 fu n M r0 l1 l2 l3) := by
  intro n
  induction n with
  | zero => intro M r0 l1 l2 l3 gr0 hl1 hl2 hl3; exact j_none
  | succ n ih => intro M r0 l1 l2 l3 gr0 hl1 hl2 hl3; exact b0J7_fill_53178_a31_w1_5 X fu (fJ7_fill_53178_a31_w1_5 fu n) ih M r0 l1 l2 l3 gr0 hl1 hl2 hl3
set_option maxHeartbeats 4000000 in
set_option maxRecDepth 100000 in
theorem ct_J7_fill_53178_a31_w1 (fu : Nat) (M : jm_M) (r0 l1 : Int) (gr0 : 0 ≤ r0 ∧ r0 < 6) (hl1 : jm_in l1) : jm_Cv wd1 yJ7_fill_53178 cJ7_fill_53178 4 none rmJ7_fill_53178_a31_w1 M (fun G ad => [.ref (ad (jm_r wd1 31 r0)), jm_i l1]) (fJ7_fill_53178_a31_w1 fu M r0 l1) := by
  refine jm_met_v (fun X => [(0, jm_vr wd1 X 31 r0), (1, jm_i l1)]) (by decide) (fun _ _ => (Nat.le_of_ble_eq_true rfl)) (fun _ => rfl) (fun X => ?_)
  unfold fJ7_fill_53178_a31_w1
  refine j_iconst (pc := 0) dJ7_fill_53178_0 ?_
  refine j_istore_n (pc := 1) [(2, jm_i 0), (0, jm_vr wd1 X 31 r0), (1, jm_i l1)] dJ7_fill_53178_1 rfl (by decide) rfl ?_
  refine j_aload_n (pc := 2) dJ7_fill_53178_2 rfl (q := 1) rfl ?_
  refine j_alen (pc := 3) jv1_31 gr0 rfl (by decide) (fun _ => rfl) ka1_31 dJ7_fill_53178_3 ?_
  refine j_istore_n (pc := 4) [(3, jm_i 12), (2, jm_i 0), (0, jm_vr wd1 X 31 r0), (1, jm_i l1)] dJ7_fill_53178_4 rfl (by decide) rfl ?_
  refine j_sub (pc := 5) [(0, jm_vr wd1 X 31 r0), (1, jm_i l1), (2, jm_i 0), (3, jm_i 12)] [2, 3, 1, 0] rfl ?_
  exact bJ7_fill_53178_a31_w1_5 X fu  fu M r0 l1 0 12 gr0 hl1 (jm_inL (by decide) (by decide)) (jm_inL (by decide) (by decide))
abbrev rmJ7_fill_53178_a32_w1 : Room := { frames := 0, cells := 0, slots := 0, locals := 0 }
set_option maxHeartbeats 4000000 in
set_option maxRecDepth 100000 in
theorem b0J7_fill_53178_a32_w1_5 (X : jm_X) (fu : Nat) (k5 : jm_M → Int → Int → Int → Int → jm_R) (hk5 : ∀ (M : jm_M) (r0 l1 l2 l3 : Int) (gr0 : 0 ≤ r0 ∧ r0 < 6) (hl1 : jm_in l1) (hl2 : jm_in l2) (hl3 : jm_in l3), jm_J wd1 jm_qv cJ7_fill_53178 4 RJ7 rmJ7_fill_53178_a32_w1 X M [(0, jm_vr wd1 X 32 r0), (1, jm_i l1), (2, jm_i l2), (3, jm_i l3)] [] 5 (k5 M r0 l1 l2 l3)) : ∀ (M : jm_M) (r0 l1 l2 l3 : Int) (gr0 : 0 ≤ r0 ∧ r0 < 6) (hl1 : jm_in l1) (hl2 : jm_in l2) (hl3 : jm_in l3), jm_J wd1 jm_qv cJ7_fill_53178 4 RJ7 rmJ7_fill_53178_a32_w1 X M [(0, jm_vr wd1 X 32 r0), (1, jm_i l1), (2, jm_i l2), (3, jm_i l3)] [] 5 (gJ7_fill_53178_a32_w1_5 fu k5 M r0 l1 l2 l3) := by
  intro M r0 l1 l2 l3 gr0 hl1 hl2 hl3
  unfold gJ7_fill_53178_a32_w1_5
  refine j_iload_n (pc := 5) dJ7_fill_53178_5 rfl (q := 2) rfl ?_
  refine j_iload_n (pc := 6) dJ7_fill_53178_6 rfl (q := 3) rfl ?_
  refine j_icmp_ge (tgt := 20) (pc := 7) hl2 hl3 dJ7_fill_53178_7 (by decide) (fun c1 => ?_) (fun c1 => ?_)
  · skip
    exact j_vret (pc := 20) dJ7_fill_53178_20
  · skip
    refine j_aload_n (pc := 10) dJ7_fill_53178_10 rfl (q := 0) rfl ?_
    refine j_iload_n (pc := 11) dJ7_fill_53178_11 rfl (q := 2) rfl ?_
    refine j_iload_n (pc := 12) dJ7_fill_53178_12 rfl (q := 1) rfl ?_
    refine j_iast (pc := 13) jv1_32 gr0 rfl (by decide) wI1 ka1_32 hl1 dJ7_fill_53178_13 (fun c2 M3 => ?_)
    refine j_iinc (pc := 14) [(0, jm_vr wd1 X 32 r0), (1, jm_i l1), (3, jm_i l3)] (q := 2) dJ7_fill_53178_14 rfl (by decide) (fun _ => rfl) (fun v4 h5 => ?_)
    refine j_goto (tgt := 5) (pc := 17) dJ7_fill_53178_17 (by decide) ?_
    refine j_sub (pc := 5) [(0, jm_vr wd1 X 32 r0), (1, jm_i l1), (2, jm_i v4), (3, jm_i l3)] [1, 2, 0, 3] rfl ?_
    exact hk5 M3 r0 l1 v4 l3 gr0 hl1 h5 hl3
theorem bJ7_fill_53178_a32_w1_5 (X : jm_X) (fu : Nat) : ∀ (n : Nat) (M : jm_M) (r0 l1 l2 l3 : Int) (gr0 : 0 ≤ r0 ∧ r0 < 6) (hl1 : jm_in l1) (hl2 : jm_in l2) (hl3 : jm_in l3), jm_J wd1 jm_qv cJ7_fill_53178 4 RJ7 rmJ7_fill_53178_a32_w1 X M [(0, jm_vr wd1 X 32 r0), (1, jm_i l1), (2, jm_i l2), (3, jm_i l3)] [] 5 (fJ7_fill_53178_a32_w1_5 fu n M r0 l1 l2 l3) := by
  intro n
  induction n with
  | zero => intro M r0 l1 l2 l3 gr0 hl1 hl2 hl3; exact j_none
  | succ n ih => intro M r0 l1 l2 l3 gr0 hl1 hl2 hl3; exact b0J7_fill_53178_a32_w1_5 X fu (fJ7_fill_53178_a32_w1_5 fu n) ih M r0 l1 l2 l3 gr0 hl1 hl2 hl3
set_option maxHeartbeats 4000000 in
set_option maxRecDepth 100000 in
theorem ct_J7_fill_53178_a32_w1 (fu : Nat) (M : jm_M) (r0 l1 : Int) (gr0 : 0 ≤ r0 ∧ r0 < 6) (hl1 : jm_in l1) : jm_Cv wd1 yJ7_fill_53178 cJ7_fill_53178 4 none rmJ7_fill_53178_a32_w1 M (fun G ad => [.ref (ad (jm_r wd1 32 r0)), jm_i l1]) (fJ7_fill_53178_a32_w1 fu M r0 l1) := by
  refine jm_met_v (fun X => [(0, jm_vr wd1 X 32 r0), (1, jm_i l1)]) (by decide) (fun _ _ => (Nat.le_of_ble_eq_true rfl)) (fun _ => rfl) (fun X => ?_)
  unfold fJ7_fill_53178_a32_w1
  refine j_iconst (pc := 0) dJ7_fill_53178_0 ?_
  refine j_istore_n (pc := 1) [(2, jm_i 0), (0, jm_vr wd1 X 32 r0), (1, jm_i l1)] dJ7_fill_53178_1 rfl (by decide) rfl ?_
  refine j_aload_n (pc := 2) dJ7_fill_53178_2 rfl (q := 1) rfl ?_
  refine j_alen (pc := 3) jv1_32 gr0 rfl (by decide) (fun _ => rfl) ka1_32 dJ7_fill_53178_3 ?_
  refine j_istore_n (pc := 4) [(3, jm_i 5), (2, jm_i 0), (0, jm_vr wd1 X 32 r0), (1, jm_i l1)] dJ7_fill_53178_4 rfl (by decide) rfl ?_
  refine j_sub (pc := 5) [(0, jm_vr wd1 X 32 r0), (1, jm_i l1), (2, jm_i 0), (3, jm_i 5)] [2, 3, 1, 0] rfl ?_
  exact bJ7_fill_53178_a32_w1_5 X fu  fu M r0 l1 0 5 gr0 hl1 (jm_inL (by decide) (by decide)) (jm_inL (by decide) (by decide))
abbrev rmX6_start : Room := { frames := 1, cells := 0, slots := 0, locals := 23 }
set_option maxHeartbeats 4000000 in
set_option maxRecDepth 100000 in
theorem b0X6_start_113 (X : jm_X) (fu : Nat) (k113 : jm_M → Int → Int → Int → jm_R) (hk113 : ∀ (M : jm_M) (r0 r1 l4 : Int) (gr0 : 0 ≤ r0 ∧ r0 < 6) (gr1 : 0 ≤ r1 ∧ r1 < 6) (hl4 : jm_in l4), jm_J wd1 jm_qv cX6_start 5 RX6 rmX6_start X M [(0, jm_vr wd1 X 9 r0), (1, jm_vr wd1 X 8 r1), (4, jm_i l4)] [] 113 (k113 M r0 r1 l4)) : ∀ (M : jm_M) (r0 r1 l4 : Int) (gr0 : 0 ≤ r0 ∧ r0 < 6) (gr1 : 0 ≤ r1 ∧ r1 < 6) (hl4 : jm_in l4), jm_J wd1 jm_qv cX6_start 5 RX6 rmX6_start X M [(0, jm_vr wd1 X 9 r0), (1, jm_vr wd1 X 8 r1), (4, jm_i l4)] [] 113 (gX6_start_113 fu k113 M r0 r1 l4) := by
  intro M r0 r1 l4 gr0 gr1 hl4
  unfold gX6_start_113
  refine j_iload (pc := 113) dX6_start_113 (q := 2) rfl ?_
  refine j_iconst (pc := 115) dX6_start_115 ?_
  refine j_icmp_ge (tgt := 142) (pc := 116) hl4 (jm_inL (by decide) (by decide)) dX6_start_116 (by decide) (fun c1 => ?_) (fun c1 => ?_)
  · skip
    refine j_aload_n (pc := 142) dX6_start_142 rfl (q := 0) rfl ?_
    refine j_getr (pc := 143) jv1_9 gr0 kf_RX6_18 r0 kg1_9_17 rfl dX6_start_143 ?_
    refine j_iconst (pc := 146) dX6_start_146 ?_
    refine j_callSv2 (pc := 147) (ct_J7_fill_53178_a31_w1 fu M r0 (-1) (by omega) (jm_inL (by decide) (by decide))) kg_873 km_J7_fill_53178 kg_866 rfl rfl ⟨(Nat.le_of_ble_eq_true rfl), (Nat.le_of_ble_eq_true rfl)⟩ rfl rfl (Nat.le_of_ble_eq_true rfl) dX6_start_147 (fun v2 M3 => ?_)
    refine j_aload_n (pc := 150) dX6_start_150 rfl (q := 0) rfl ?_
    refine j_getr (pc := 151) jv1_9 gr0 kf_RX6_21 r0 kg1_9_18 rfl dX6_start_151 ?_
    refine j_iconst (pc := 154) dX6_start_154 ?_
    refine j_callSv2 (pc := 155) (ct_J7_fill_53178_a32_w1 fu M3 r0 0 (by omega) (jm_inL (by decide) (by decide))) kg_873 km_J7_fill_53178 kg_866 rfl rfl ⟨(Nat.le_of_ble_eq_true rfl), (Nat.le_of_ble_eq_true rfl)⟩ rfl rfl (Nat.le_of_ble_eq_true rfl) dX6_start_155 (fun v4 M5 => ?_)
    exact j_vret (pc := 158) dX6_start_158
  · skip
    refine j_aload_n (pc := 119) dX6_start_119 rfl (q := 0) rfl ?_
    refine j_getr (pc := 120) jv1_9 gr0 kf_RX6_9 r0 kg1_9_15 rfl dX6_start_120 ?_
    refine j_iload (pc := 123) dX6_start_123 (q := 2) rfl ?_
    refine j_aload_n (pc := 125) dX6_start_125 rfl (q := 1) rfl ?_
    refine j_getr (pc := 126) jv1_8 gr1 kf_RX6_37 r1 kg1_8_6 rfl dX6_start_126 ?_
    refine j_iload (pc := 129) dX6_start_129 (q := 2) rfl ?_
    refine j_iconst (pc := 131) dX6_start_131 ?_
    refine j_callVi2 (pc := 132) (ct_X7_cell M r1 l4 1 (by omega) hl4 (jm_inL (by decide) (by decide))) kg_872 km_X7_cell kv_X7_cell rfl rfl ⟨(Nat.le_of_ble_eq_true rfl), (Nat.le_of_ble_eq_true rfl)⟩ jv1_10 (by omega) ko1_10 rfl rfl (Nat.le_of_ble_eq_true rfl) dX6_start_132 (fun v6 M7 h8 => ?_)
    refine j_iast (pc := 135) jv1_29 (by omega) rfl (by decide) wI1 ka1_29 h8 dX6_start_135 (fun c9 M10 => ?_)
    refine j_iinc (pc := 136) [(0, jm_vr wd1 X 9 r0), (1, jm_vr wd1 X 8 r1)] (q := 2) dX6_start_136 rfl (by decide) (fun _ => rfl) (fun v11 h12 => ?_)
    refine j_goto (tgt := 113) (pc := 139) dX6_start_139 (by decide) ?_
    refine j_sub (pc := 113) [(0, jm_vr wd1 X 9 r0), (1, jm_vr wd1 X 8 r1), (4, jm_i v11)] [1, 2, 0] rfl ?_
    exact hk113 M10 r0 r1 v11 gr0 gr1 h12
theorem bX6_start_113 (X : jm_X) (fu : Nat) : ∀ (n : Nat) (M : jm_M) (r0 r1 l4 : Int) (gr0 : 0 ≤ r0 ∧ r0 < 6) (gr1 : 0 ≤ r1 ∧ r1 < 6) (hl4 : jm_in l4), jm_J wd1 jm_qv cX6_start 5 RX6 rmX6_start X M [(0, jm_vr wd1 X 9 r0), (1, jm_vr wd1 X 8 r1), (4, jm_i l4)] [] 113 (fX6_start_113 fu n M r0 r1 l4) := by
  intro n
  induction n with
  | zero => intro M r0 r1 l4 gr0 gr1 hl4; exact j_none
  | succ n ih => intro M r0 r1 l4 gr0 gr1 hl4; exact b0X6_start_113 X fu (fX6_start_113 fu n) ih M r0 r1 l4 gr0 gr1 hl4
set_option maxHeartbeats 4000000 in
set_option maxRecDepth 100000 in
theorem bX6_start_82 (X : jm_X) (fu : Nat) : ∀ (M : jm_M) (r0 r1 s0 t1 : Int) (gr0 : 0 ≤ r0 ∧ r0 < 6) (gr1 : 0 ≤ r1 ∧ r1 < 6) (hs0 : jm_in s0) (gt1 : 0 ≤ t1 ∧ t1 < 6), jm_J wd1 jm_qv cX6_start 5 RX6 rmX6_start X M [(0, jm_vr wd1 X 9 r0), (1, jm_vr wd1 X 8 r1)] [jm_i s0, jm_vr wd1 X 9 t1] 82 (gX6_start_82 fu M r0 r1 s0 t1) := by
  intro M r0 r1 s0 t1 gr0 gr1 hs0 gt1
  unfold gX6_start_82
  refine j_put (pc := 82) jv1_9 gt1 kf_RX6_67 wI1 kp_X6_9 kx1_9_9 hs0 rfl rfl dX6_start_82 (fun M1 => ?_)
  refine j_aload_n (pc := 85) dX6_start_85 rfl (q := 0) rfl ?_
  refine j_iconst (pc := 86) dX6_start_86 ?_
  refine j_put (pc := 87) jv1_9 gr0 kf_RX6_70 wI1 kp_X6_10 kx1_9_10 (jm_inL (by decide) (by decide)) rfl rfl dX6_start_87 (fun M2 => ?_)
  refine j_aload_n (pc := 90) dX6_start_90 rfl (q := 0) rfl ?_
  refine j_iconst (pc := 91) dX6_start_91 ?_
  refine j_put (pc := 92) jv1_9 gr0 kf_RX6_73 wI1 kp_X6_11 kx1_9_11 (jm_inL (by decide) (by decide)) rfl rfl dX6_start_92 (fun M3 => ?_)
  refine j_aload_n (pc := 95) dX6_start_95 rfl (q := 0) rfl ?_
  refine j_iconst (pc := 96) dX6_start_96 ?_
  refine j_put (pc := 97) jv1_9 gr0 kf_RX6_76 wI1 kp_X6_12 kx1_9_12 (jm_inL (by decide) (by decide)) rfl rfl dX6_start_97 (fun M4 => ?_)
  refine j_aload_n (pc := 100) dX6_start_100 rfl (q := 0) rfl ?_
  refine j_iconst (pc := 101) dX6_start_101 ?_
  refine j_put (pc := 102) jv1_9 gr0 kf_RX6_79 wI1 kp_X6_13 kx1_9_13 (jm_inL (by decide) (by decide)) rfl rfl dX6_start_102 (fun M5 => ?_)
  refine j_aload_n (pc := 105) dX6_start_105 rfl (q := 0) rfl ?_
  refine j_iconst (pc := 106) dX6_start_106 ?_
  refine j_put (pc := 107) jv1_9 gr0 kf_RX6_82 wI1 kp_X6_14 kx1_9_14 (jm_inL (by decide) (by decide)) rfl rfl dX6_start_107 (fun M6 => ?_)
  refine j_iconst (pc := 110) dX6_start_110 ?_
  refine j_istore (pc := 111) [(4, jm_i 0), (0, jm_vr wd1 X 9 r0), (1, jm_vr wd1 X 8 r1)] dX6_start_111 (by decide) rfl ?_
  refine j_sub (pc := 113) [(0, jm_vr wd1 X 9 r0), (1, jm_vr wd1 X 8 r1), (4, jm_i 0)] [1, 2, 0] rfl ?_
  exact bX6_start_113 X fu  fu M6 r0 r1 0 gr0 gr1 (jm_inL (by decide) (by decide))
set_option maxHeartbeats 4000000 in
set_option maxRecDepth 100000 in
theorem bX6_start_41 (X : jm_X) (fu : Nat) : ∀ (M : jm_M) (r0 r1 l3 s0 t1 : Int) (gr0 : 0 ≤ r0 ∧ r0 < 6) (gr1 : 0 ≤ r1 ∧ r1 < 6) (hl3 : jm_in l3) (hs0 : jm_in s0) (gt1 : 0 ≤ t1 ∧ t1 < 6), jm_J wd1 jm_qv cX6_start 5 RX6 rmX6_start X M [(0, jm_vr wd1 X 9 r0), (1, jm_vr wd1 X 8 r1), (3, jm_i l3)] [jm_i s0, jm_vr wd1 X 9 t1] 41 (gX6_start_41 fu M r0 r1 l3 s0 t1) := by
  intro M r0 r1 l3 s0 t1 gr0 gr1 hl3 hs0 gt1
  unfold gX6_start_41
  refine j_put (pc := 41) jv1_9 gt1 kf_RX6_48 wI1 kp_X6_3 kx1_9_3 hs0 rfl rfl dX6_start_41 (fun M1 => ?_)
  refine j_aload_n (pc := 44) dX6_start_44 rfl (q := 0) rfl ?_
  refine j_iconst (pc := 45) dX6_start_45 ?_
  refine j_put (pc := 46) jv1_9 gr0 kf_RX6_51 wI1 kp_X6_4 kx1_9_4 (jm_inL (by decide) (by decide)) rfl rfl dX6_start_46 (fun M2 => ?_)
  refine j_aload_n (pc := 49) dX6_start_49 rfl (q := 0) rfl ?_
  refine j_iconst (pc := 50) dX6_start_50 ?_
  refine j_put (pc := 51) jv1_9 gr0 kf_RX6_54 wI1 kp_X6_5 kx1_9_5 (jm_inL (by decide) (by decide)) rfl rfl dX6_start_51 (fun M3 => ?_)
  refine j_aload_n (pc := 54) dX6_start_54 rfl (q := 0) rfl ?_
  refine j_iconst (pc := 55) dX6_start_55 ?_
  refine j_put (pc := 56) jv1_9 gr0 kf_RX6_57 wI1 kp_X6_6 kx1_9_6 (jm_inL (by decide) (by decide)) rfl rfl dX6_start_56 (fun M4 => ?_)
  refine j_aload_n (pc := 59) dX6_start_59 rfl (q := 0) rfl ?_
  refine j_iconst (pc := 60) dX6_start_60 ?_
  refine j_put (pc := 61) jv1_9 gr0 kf_RX6_60 wI1 kp_X6_7 kx1_9_7 (jm_inL (by decide) (by decide)) rfl rfl dX6_start_61 (fun M5 => ?_)
  refine j_aload_n (pc := 64) dX6_start_64 rfl (q := 0) rfl ?_
  refine j_aload_n (pc := 65) dX6_start_65 rfl (q := 1) rfl ?_
  refine j_geti (pc := 66) jv1_8 gr1 kf_RX6_63 kg1_8_5 dX6_start_66 (fun h6 => ?_)
  refine j_put (pc := 69) jv1_9 gr0 kf_RX6_66 wI1 kp_X6_8 kx1_9_8 h6 rfl rfl dX6_start_69 (fun M7 => ?_)
  refine j_aload_n (pc := 72) dX6_start_72 rfl (q := 0) rfl ?_
  refine j_iload_n (pc := 73) dX6_start_73 rfl (q := 2) rfl ?_
  refine j_if_eq (tgt := 81) (pc := 74) hl3 dX6_start_74 (by decide) (fun c8 => ?_) (fun c8 => ?_)
  · skip
    refine j_iconst (pc := 81) dX6_start_81 ?_
    refine j_sub (pc := 82) [(0, jm_vr wd1 X 9 r0), (1, jm_vr wd1 X 8 r1)] [0, 1] rfl ?_
    exact bX6_start_82 X fu  M7 r0 r1 (-1) r0 gr0 gr1 (jm_inL (by decide) (by decide)) gr0
  · skip
    refine j_iconst (pc := 77) dX6_start_77 ?_
    refine j_goto (tgt := 82) (pc := 78) dX6_start_78 (by decide) ?_
    refine j_sub (pc := 82) [(0, jm_vr wd1 X 9 r0), (1, jm_vr wd1 X 8 r1)] [0, 1] rfl ?_
    exact bX6_start_82 X fu  M7 r0 r1 0 r0 gr0 gr1 (jm_inL (by decide) (by decide)) gr0
set_option maxHeartbeats 4000000 in
set_option maxRecDepth 100000 in
theorem bX6_start_30 (X : jm_X) (fu : Nat) : ∀ (M : jm_M) (r0 r1 s0 : Int) (gr0 : 0 ≤ r0 ∧ r0 < 6) (gr1 : 0 ≤ r1 ∧ r1 < 6) (hs0 : jm_in s0), jm_J wd1 jm_qv cX6_start 5 RX6 rmX6_start X M [(0, jm_vr wd1 X 9 r0), (1, jm_vr wd1 X 8 r1)] [jm_i s0] 30 (gX6_start_30 fu M r0 r1 s0) := by
  intro M r0 r1 s0 gr0 gr1 hs0
  unfold gX6_start_30
  refine j_istore_n (pc := 30) [(3, jm_i s0), (0, jm_vr wd1 X 9 r0), (1, jm_vr wd1 X 8 r1)] dX6_start_30 rfl (by decide) rfl ?_
  refine j_aload_n (pc := 31) dX6_start_31 rfl (q := 1) rfl ?_
  refine j_iload_n (pc := 32) dX6_start_32 rfl (q := 0) rfl ?_
  refine j_if_eq (tgt := 40) (pc := 33) hs0 dX6_start_33 (by decide) (fun c1 => ?_) (fun c1 => ?_)
  · skip
    refine j_iconst (pc := 40) dX6_start_40 ?_
    refine j_sub (pc := 41) [(0, jm_vr wd1 X 9 r0), (1, jm_vr wd1 X 8 r1), (3, jm_i s0)] [1, 2, 0] rfl ?_
    exact bX6_start_41 X fu  M r0 r1 s0 2 r0 gr0 gr1 hs0 (jm_inL (by decide) (by decide)) gr0
  · skip
    refine j_iconst (pc := 36) dX6_start_36 ?_
    refine j_goto (tgt := 41) (pc := 37) dX6_start_37 (by decide) ?_
    refine j_sub (pc := 41) [(0, jm_vr wd1 X 9 r0), (1, jm_vr wd1 X 8 r1), (3, jm_i s0)] [1, 2, 0] rfl ?_
    exact bX6_start_41 X fu  M r0 r1 s0 0 r0 gr0 gr1 hs0 (jm_inL (by decide) (by decide)) gr0
set_option maxHeartbeats 4000000 in
set_option maxRecDepth 100000 in
theorem ct_X6_start (fu : Nat) (M : jm_M) (r0 r1 l2 : Int) (gr0 : 0 ≤ r0 ∧ r0 < 6) (gr1 : 0 ≤ r1 ∧ r1 < 6) (hl2 : jm_in l2) : jm_Cv wd1 yX6_start cX6_start 5 none rmX6_start M (fun G ad => [.ref (ad (jm_r wd1 9 r0)), .ref (ad (jm_r wd1 8 r1)), jm_i l2]) (fX6_start fu M r0 r1 l2) := by
  refine jm_met_v (fun X => [(0, jm_vr wd1 X 9 r0), (1, jm_vr wd1 X 8 r1), (2, jm_i l2)]) (by decide) (fun _ _ => (Nat.le_of_ble_eq_true rfl)) (fun _ => rfl) (fun X => ?_)
  unfold fX6_start
  refine j_aload_n (pc := 0) dX6_start_0 rfl (q := 0) rfl ?_
  refine j_iload_n (pc := 1) dX6_start_1 rfl (q := 2) rfl ?_
  refine j_put (pc := 2) jv1_9 gr0 kf_RX6_27 wI1 kp_X6_0 kx1_9_0 hl2 rfl rfl dX6_start_2 (fun M1 => ?_)
  refine j_aload_n (pc := 5) dX6_start_5 rfl (q := 0) rfl ?_
  refine j_iconst (pc := 6) dX6_start_6 ?_
  refine j_put (pc := 7) jv1_9 gr0 kf_RX6_31 wI1 kp_X6_1 kx1_9_1 (jm_inL (by decide) (by decide)) rfl rfl dX6_start_7 (fun M2 => ?_)
  refine j_aload_n (pc := 10) dX6_start_10 rfl (q := 0) rfl ?_
  refine j_iconst (pc := 11) dX6_start_11 ?_
  refine j_put (pc := 12) jv1_9 gr0 kf_RX6_34 wI1 kp_X6_2 kx1_9_2 (jm_inL (by decide) (by decide)) rfl rfl dX6_start_12 (fun M3 => ?_)
  refine j_aload_n (pc := 15) dX6_start_15 rfl (q := 1) rfl ?_
  refine j_getr (pc := 16) jv1_8 gr1 kf_RX6_37 r1 kg1_8_6 rfl dX6_start_16 ?_
  refine j_geti (pc := 19) jv1_10 (by omega) kf_RX6_43 kg1_10_3 dX6_start_19 (fun h4 => ?_)
  refine j_if_le (tgt := 29) (pc := 22) h4 dX6_start_22 (by decide) (fun c5 => ?_) (fun c5 => ?_)
  · skip
    refine j_iconst (pc := 29) dX6_start_29 ?_
    refine j_sub (pc := 30) [(0, jm_vr wd1 X 9 r0), (1, jm_vr wd1 X 8 r1)] [0, 1] rfl ?_
    exact bX6_start_30 X fu  M3 r0 r1 0 gr0 gr1 (jm_inL (by decide) (by decide))
  · skip
    refine j_iconst (pc := 25) dX6_start_25 ?_
    refine j_goto (tgt := 30) (pc := 26) dX6_start_26 (by decide) ?_
    refine j_sub (pc := 30) [(0, jm_vr wd1 X 9 r0), (1, jm_vr wd1 X 8 r1)] [0, 1] rfl ?_
    exact bX6_start_30 X fu  M3 r0 r1 1 gr0 gr1 (jm_inL (by decide) (by decide))
abbrev rmX2_goesAhead : Room := { frames := 0, cells := 0, slots := 0, locals := 0 }
set_option maxHeartbeats 4000000 in
set_option maxRecDepth 100000 in
theorem ct_X2_goesAhead (M : jm_M) (r0 r1 : Int) (gr0 : 0 ≤ r0 ∧ r0 < 6) (gr1 : 0 ≤ r1 ∧ r1 < 6) : jm_Ci wd1 yX2_goesAhead cX2_goesAhead 2 (some .boolean) rmX2_goesAhead M (fun G ad => [.ref (ad (jm_r wd1 9 r0)), .ref (ad (jm_r wd1 9 r1))]) (fX2_goesAhead M r0 r1) := by
  refine jm_met_i (fun X => [(0, jm_vr wd1 X 9 r0), (1, jm_vr wd1 X 9 r1)]) (by decide) (fun _ _ => (Nat.le_of_ble_eq_true rfl)) (fun _ => rfl) (fun X => ?_)
  unfold fX2_goesAhead
  refine j_aload_n (pc := 0) dX2_goesAhead_0 rfl (q := 0) rfl ?_
  refine j_geti (pc := 1) jv1_9 gr0 kf_RX2_98 kg1_9_0 dX2_goesAhead_1 (fun h1 => ?_)
  refine j_aload_n (pc := 4) dX2_goesAhead_4 rfl (q := 1) rfl ?_
  refine j_geti (pc := 5) jv1_9 gr1 kf_RX2_98 kg1_9_0 dX2_goesAhead_5 (fun h2 => ?_)
  refine j_icmp_lt (tgt := 33) (pc := 8) h1 h2 dX2_goesAhead_8 (by decide) (fun c3 => ?_) (fun c3 => ?_)
  · skip
    refine j_iconst (pc := 33) dX2_goesAhead_33 ?_
    refine j_goto (tgt := 38) (pc := 34) dX2_goesAhead_34 (by decide) ?_
    exact j_iret (pc := 38) (jm_inL (by decide) (by decide)) rfl dX2_goesAhead_38
  · skip
    refine j_aload_n (pc := 11) dX2_goesAhead_11 rfl (q := 0) rfl ?_
    refine j_geti (pc := 12) jv1_9 gr0 kf_RX2_98 kg1_9_0 dX2_goesAhead_12 (fun h4 => ?_)
    refine j_aload_n (pc := 15) dX2_goesAhead_15 rfl (q := 1) rfl ?_
    refine j_geti (pc := 16) jv1_9 gr1 kf_RX2_98 kg1_9_0 dX2_goesAhead_16 (fun h5 => ?_)
    refine j_icmp_ne (tgt := 37) (pc := 19) h4 h5 dX2_goesAhead_19 (by decide) (fun c6 => ?_) (fun c6 => ?_)
    · skip
      refine j_aload_n (pc := 22) dX2_goesAhead_22 rfl (q := 0) rfl ?_
      refine j_geti (pc := 23) jv1_9 gr0 kf_RX2_101 kg1_9_1 dX2_goesAhead_23 (fun h7 => ?_)
      refine j_aload_n (pc := 26) dX2_goesAhead_26 rfl (q := 1) rfl ?_
      refine j_geti (pc := 27) jv1_9 gr1 kf_RX2_101 kg1_9_1 dX2_goesAhead_27 (fun h8 => ?_)
      refine j_icmp_le (tgt := 37) (pc := 30) h7 h8 dX2_goesAhead_30 (by decide) (fun c9 => ?_) (fun c9 => ?_)
      · skip
        refine j_iconst (pc := 37) dX2_goesAhead_37 ?_
        exact j_iret (pc := 38) (jm_inL (by decide) (by decide)) rfl dX2_goesAhead_38
      · skip
        refine j_iconst (pc := 33) dX2_goesAhead_33 ?_
        refine j_goto (tgt := 38) (pc := 34) dX2_goesAhead_34 (by decide) ?_
        exact j_iret (pc := 38) (jm_inL (by decide) (by decide)) rfl dX2_goesAhead_38
    · skip
      refine j_iconst (pc := 37) dX2_goesAhead_37 ?_
      exact j_iret (pc := 38) (jm_inL (by decide) (by decide)) rfl dX2_goesAhead_38
