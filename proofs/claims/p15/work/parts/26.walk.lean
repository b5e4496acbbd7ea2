abbrev rmX12_judges : Room := { frames := 7, cells := 0, slots := 0, locals := 170 }
set_option maxHeartbeats 4000000 in
set_option maxRecDepth 100000 in
theorem bX12_judges_47 (X : jm_X) (fu : Nat) (k6 : jm_M → Int → Int → jm_R) (hk6 : ∀ (M : jm_M) (l1 l2 : Int) (hl1 : jm_in l1) (hl2 : jm_in l2), jm_J wd2 jm_qv cX12_judges 4 RX12 rmX12_judges X M [(0, jm_vr wd2 X 0 0), (1, jm_i l1), (2, jm_i l2)] [] 6 (k6 M l1 l2)) : ∀ (M : jm_M) (l1 l2 l3 s0 s1 : Int) (hl1 : jm_in l1) (hl2 : jm_in l2) (hl3 : jm_in l3) (hs0 : jm_in s0) (hs1 : jm_in s1), jm_J wd2 jm_qv cX12_judges 4 RX12 rmX12_judges X M [(0, jm_vr wd2 X 0 0), (1, jm_i l1), (2, jm_i l2), (3, jm_i l3)] [jm_i s0, jm_i s1, jm_vr wd2 X 67 0] 47 (gX12_judges_47 fu k6 M l1 l2 l3 s0 s1) := by
  intro M l1 l2 l3 s0 s1 hl1 hl2 hl3 hs0 hs1
  unfold gX12_judges_47
  refine j_bast (pc := 47) jv2_67 jm_01 rfl (by decide) wI2 ka2_67 hs0 dX12_judges_47 (fun c1 c3 M2 => ?_)
  refine j_aload_n (pc := 48) dX12_judges_48 rfl (q := 0) rfl ?_
  refine j_getr (pc := 49) jv2_0 jm_01 kf_RX12_493 0 kg2_0_81 rfl dX12_judges_49 ?_
  refine j_iload_n (pc := 52) dX12_judges_52 rfl (q := 2) rfl ?_
  refine j_aload_n (pc := 53) dX12_judges_53 rfl (q := 0) rfl ?_
  refine j_getr (pc := 54) jv2_0 jm_01 kf_RX12_321 0 kg2_0_50 rfl dX12_judges_54 ?_
  refine j_iload_n (pc := 57) dX12_judges_57 rfl (q := 2) rfl ?_
  refine j_iald (pc := 58) jv2_40 jm_01 rfl (by decide) ka2_40 dX12_judges_58 (fun c4 h5 => ?_)
  refine j_sipush (pc := 59) 1000 dX12_judges_59 (by decide) ?_
  refine j_iload_n (pc := 62) dX12_judges_62 rfl (q := 3) rfl ?_
  refine j_imul (pc := 63) dX12_judges_63 ?_
  refine j_iadd (pc := 64) dX12_judges_64 ?_
  refine j_aload_n (pc := 65) dX12_judges_65 rfl (q := 0) rfl ?_
  refine j_iload_n (pc := 66) dX12_judges_66 rfl (q := 2) rfl ?_
  refine j_iload_n (pc := 67) dX12_judges_67 rfl (q := 1) rfl ?_
  refine j_callVi2 (pc := 68) (ct_X12_timeFound fu M2 l2 l1 hl2 hl1) kg_1677 km_X12_timeFound kv_X12_timeFound rfl rfl ⟨(Nat.le_of_ble_eq_true rfl), (Nat.le_of_ble_eq_true rfl)⟩ jv2_0 jm_01 ko2_0 rfl rfl (Nat.le_of_ble_eq_true rfl) dX12_judges_68 (fun v6 M7 h8 => ?_)
  refine j_iadd (pc := 71) dX12_judges_71 ?_
  refine j_iast (pc := 72) jv2_68 jm_01 rfl (by decide) wI2 ka2_68 (jm_w_in _) dX12_judges_72 (fun c9 M10 => ?_)
  refine j_iinc (pc := 73) [(0, jm_vr wd2 X 0 0), (1, jm_i l1), (3, jm_i l3)] (q := 2) dX12_judges_73 rfl (by decide) (fun _ => rfl) (fun v11 h12 => ?_)
  refine j_goto (tgt := 6) (pc := 76) dX12_judges_76 (by decide) ?_
  refine j_sub (pc := 6) [(0, jm_vr wd2 X 0 0), (1, jm_i l1), (2, jm_i v11)] [1, 2, 0] rfl ?_
  exact hk6 M10 l1 v11 hl1 h12
set_option maxHeartbeats 4000000 in
set_option maxRecDepth 100000 in
theorem b0X12_judges_6 (X : jm_X) (fu : Nat) (k6 : jm_M → Int → Int → jm_R) (hk6 : ∀ (M : jm_M) (l1 l2 : Int) (hl1 : jm_in l1) (hl2 : jm_in l2), jm_J wd2 jm_qv cX12_judges 4 RX12 rmX12_judges X M [(0, jm_vr wd2 X 0 0), (1, jm_i l1), (2, jm_i l2)] [] 6 (k6 M l1 l2)) : ∀ (M : jm_M) (l1 l2 : Int) (hl1 : jm_in l1) (hl2 : jm_in l2), jm_J wd2 jm_qv cX12_judges 4 RX12 rmX12_judges X M [(0, jm_vr wd2 X 0 0), (1, jm_i l1), (2, jm_i l2)] [] 6 (gX12_judges_6 fu k6 M l1 l2) := by
  intro M l1 l2 hl1 hl2
  unfold gX12_judges_6
  refine j_iload_n (pc := 6) dX12_judges_6 rfl (q := 2) rfl ?_
  refine j_aload_n (pc := 7) dX12_judges_7 rfl (q := 0) rfl ?_
  refine j_geti (pc := 8) jv2_0 jm_01 kf_RX12_30 kg2_0_17 dX12_judges_8 (fun h1 => ?_)
  refine j_icmp_ge (tgt := 79) (pc := 11) hl2 h1 dX12_judges_11 (by decide) (fun c2 => ?_) (fun c2 => ?_)
  · skip
    exact j_vret (pc := 79) dX12_judges_79
  · skip
    refine j_aload_n (pc := 14) dX12_judges_14 rfl (q := 0) rfl ?_
    refine j_iload_n (pc := 15) dX12_judges_15 rfl (q := 2) rfl ?_
    refine j_iload_n (pc := 16) dX12_judges_16 rfl (q := 1) rfl ?_
    refine j_callVi2 (pc := 17) (ct_X12_secondsOf fu M l2 l1 hl2 hl1) kg_1661 km_X12_secondsOf kv_X12_secondsOf rfl rfl ⟨(Nat.le_of_ble_eq_true rfl), (Nat.le_of_ble_eq_true rfl)⟩ jv2_0 jm_01 ko2_0 rfl rfl (Nat.le_of_ble_eq_true rfl) dX12_judges_17 (fun v3 M4 h5 => ?_)
    refine j_istore_n (pc := 20) [(3, jm_i v3), (0, jm_vr wd2 X 0 0), (1, jm_i l1), (2, jm_i l2)] dX12_judges_20 rfl (by decide) rfl ?_
    refine j_aload_n (pc := 21) dX12_judges_21 rfl (q := 1) rfl ?_
    refine j_getr (pc := 22) jv2_0 jm_01 kf_RX12_490 0 kg2_0_80 rfl dX12_judges_22 ?_
    refine j_iload_n (pc := 25) dX12_judges_25 rfl (q := 3) rfl ?_
    refine j_aload_n (pc := 26) dX12_judges_26 rfl (q := 1) rfl ?_
    refine j_getr (pc := 27) jv2_0 jm_01 kf_RX12_309 0 kg2_0_49 rfl dX12_judges_27 ?_
    refine j_iload_n (pc := 30) dX12_judges_30 rfl (q := 3) rfl ?_
    refine j_iald (pc := 31) jv2_39 jm_01 rfl (by decide) ka2_39 dX12_judges_31 (fun c6 h7 => ?_)
    refine j_iconst (pc := 32) dX12_judges_32 ?_
    refine j_icmp_eq (tgt := 46) (pc := 33) h7 (jm_inL (by decide) (by decide)) dX12_judges_33 (by decide) (fun c8 => ?_) (fun c8 => ?_)
    · skip
      refine j_iconst (pc := 46) dX12_judges_46 ?_
      refine j_sub (pc := 47) [(0, jm_vr wd2 X 0 0), (1, jm_i l1), (2, jm_i l2), (3, jm_i v3)] [1, 2, 3, 0] rfl ?_
      exact bX12_judges_47 X fu k6 hk6 M4 l1 l2 v3 0 l2 hl1 hl2 h5 (jm_inL (by decide) (by decide)) hl2
    · skip
      refine j_iload_n (pc := 36) dX12_judges_36 rfl (q := 0) rfl ?_
      refine j_bipush (pc := 37) (-2) dX12_judges_37 (by decide) ?_
      refine j_icmp_eq (tgt := 46) (pc := 39) h5 (jm_inL (by decide) (by decide)) dX12_judges_39 (by decide) (fun c9 => ?_) (fun c9 => ?_)
      · skip
        refine j_iconst (pc := 46) dX12_judges_46 ?_
        refine j_sub (pc := 47) [(0, jm_vr wd2 X 0 0), (1, jm_i l1), (2, jm_i l2), (3, jm_i v3)] [1, 2, 3, 0] rfl ?_
        exact bX12_judges_47 X fu k6 hk6 M4 l1 l2 v3 0 l2 hl1 hl2 h5 (jm_inL (by decide) (by decide)) hl2
      · skip
        refine j_iconst (pc := 42) dX12_judges_42 ?_
        refine j_goto (tgt := 47) (pc := 43) dX12_judges_43 (by decide) ?_
        refine j_sub (pc := 47) [(0, jm_vr wd2 X 0 0), (1, jm_i l1), (2, jm_i l2), (3, jm_i v3)] [1, 2, 3, 0] rfl ?_
        exact bX12_judges_47 X fu k6 hk6 M4 l1 l2 v3 1 l2 hl1 hl2 h5 (jm_inL (by decide) (by decide)) hl2
theorem bX12_judges_6 (X : jm_X) (fu : Nat) : ∀ (n : Nat) (M : jm_M) (l1 l2 : Int) (hl1 : jm_in l1) (hl2 : jm_in l2), jm_J wd2 jm_qv cX12_judges 4 RX12 rmX12_judges X M [(0, jm_vr wd2 X 0 0), (1, jm_i l1), (2, jm_i l2)] [] 6 (fX12_judges_6 fu n M l1 l2) := by
  intro n
  induction n with
  | zero => intro M l1 l2 hl1 hl2; exact j_none
  | succ n ih => intro M l1 l2 hl1 hl2; exact b0X12_judges_6 X fu (fX12_judges_6 fu n) ih M l1 l2 hl1 hl2
set_option maxHeartbeats 4000000 in
set_option maxRecDepth 100000 in
theorem ct_X12_judges (fu : Nat) (M : jm_M) (l1 : Int) (hl1 : jm_in l1) : jm_Cv wd2 yX12_judges cX12_judges 4 none rmX12_judges M (fun G ad => [.ref (ad (jm_r wd2 0 0)), jm_i l1]) (fX12_judges fu M l1) := by
  refine jm_met_v (fun X => [(0, jm_vr wd2 X 0 0), (1, jm_i l1)]) (by decide) (fun _ _ => (Nat.le_of_ble_eq_true rfl)) (fun _ => rfl) (fun X => ?_)
  unfold fX12_judges
  refine j_aload_n (pc := 0) dX12_judges_0 rfl (q := 0) rfl ?_
  refine j_callVv0 (pc := 1) (ct_X12_runs fu M ) kg_1538 km_X12_runs kv_X12_runs rfl rfl ⟨(Nat.le_of_ble_eq_true rfl), (Nat.le_of_ble_eq_true rfl)⟩ jv2_0 jm_01 ko2_0 rfl rfl (Nat.le_of_ble_eq_true rfl) dX12_judges_1 (fun v1 M2 => ?_)
  refine j_iconst (pc := 4) dX12_judges_4 ?_
  refine j_istore_n (pc := 5) [(2, jm_i 0), (0, jm_vr wd2 X 0 0), (1, jm_i l1)] dX12_judges_5 rfl (by decide) rfl ?_
  refine j_sub (pc := 6) [(0, jm_vr wd2 X 0 0), (1, jm_i l1), (2, jm_i 0)] [1, 2, 0] rfl ?_
  exact bX12_judges_6 X fu  fu M2 l1 0 hl1 (jm_inL (by decide) (by decide))
abbrev rmX12_isBetter : Room := { frames := 0, cells := 0, slots := 0, locals := 0 }
set_option maxHeartbeats 4000000 in
set_option maxRecDepth 100000 in
theorem ct_X12_isBetter (M : jm_M) (l1 l2 : Int) (hl1 : jm_in l1) (hl2 : jm_in l2) : jm_Ci wd2 yX12_isBetter cX12_isBetter 5 (some .boolean) rmX12_isBetter M (fun G ad => [.ref (ad (jm_r wd2 0 0)), jm_i l1, jm_i l2]) (fX12_isBetter M l1 l2) := by
  refine jm_met_i (fun X => [(0, jm_vr wd2 X 0 0), (1, jm_i l1), (2, jm_i l2)]) (by decide) (fun _ _ => (Nat.le_of_ble_eq_true rfl)) (fun _ => rfl) (fun X => ?_)
  unfold fX12_isBetter
  refine j_aload_n (pc := 0) dX12_isBetter_0 rfl (q := 0) rfl ?_
  refine j_getr (pc := 1) jv2_0 jm_01 kf_RX12_327 0 kg2_0_53 rfl dX12_isBetter_1 ?_
  refine j_iload_n (pc := 4) dX12_isBetter_4 rfl (q := 1) rfl ?_
  refine j_iald (pc := 5) jv2_43 jm_01 rfl (by decide) ka2_43 dX12_isBetter_5 (fun c1 h2 => ?_)
  refine j_aload_n (pc := 6) dX12_isBetter_6 rfl (q := 0) rfl ?_
  refine j_geti (pc := 7) jv2_0 jm_01 kf_RX12_7 kg2_0_1 dX12_isBetter_7 (fun h3 => ?_)
  refine j_gd (pc := 10) (fun c4 => ?_)
  refine j_idiv (pc := 10) h2 h3 dX12_isBetter_10 c4 ?_
  refine j_nm (pc := 11) (jm_div_in _ _) (fun v5 h6 => ?_)
  refine j_istore_n (pc := 11) [(3, jm_i v5), (0, jm_vr wd2 X 0 0), (1, jm_i l1), (2, jm_i l2)] dX12_isBetter_11 rfl (by decide) rfl ?_
  refine j_aload_n (pc := 12) dX12_isBetter_12 rfl (q := 1) rfl ?_
  refine j_getr (pc := 13) jv2_0 jm_01 kf_RX12_327 0 kg2_0_53 rfl dX12_isBetter_13 ?_
  refine j_iload_n (pc := 16) dX12_isBetter_16 rfl (q := 3) rfl ?_
  refine j_iald (pc := 17) jv2_43 jm_01 rfl (by decide) ka2_43 dX12_isBetter_17 (fun c7 h8 => ?_)
  refine j_aload_n (pc := 18) dX12_isBetter_18 rfl (q := 1) rfl ?_
  refine j_geti (pc := 19) jv2_0 jm_01 kf_RX12_7 kg2_0_1 dX12_isBetter_19 (fun h9 => ?_)
  refine j_gd (pc := 22) (fun c10 => ?_)
  refine j_idiv (pc := 22) h8 h9 dX12_isBetter_22 c10 ?_
  refine j_nm (pc := 23) (jm_div_in _ _) (fun v11 h12 => ?_)
  refine j_istore (pc := 23) [(4, jm_i v11), (3, jm_i v5), (0, jm_vr wd2 X 0 0), (1, jm_i l1), (2, jm_i l2)] dX12_isBetter_23 (by decide) rfl ?_
  refine j_iload_n (pc := 25) dX12_isBetter_25 rfl (q := 1) rfl ?_
  refine j_iload (pc := 26) dX12_isBetter_26 (q := 0) rfl ?_
  refine j_icmp_eq (tgt := 43) (pc := 28) h6 h12 dX12_isBetter_28 (by decide) (fun c13 => ?_) (fun c13 => ?_)
  · skip
    refine j_aload_n (pc := 43) dX12_isBetter_43 rfl (q := 2) rfl ?_
    refine j_getr (pc := 44) jv2_0 jm_01 kf_RX12_493 0 kg2_0_81 rfl dX12_isBetter_44 ?_
    refine j_iload_n (pc := 47) dX12_isBetter_47 rfl (q := 3) rfl ?_
    refine j_iald (pc := 48) jv2_68 jm_01 rfl (by decide) ka2_68 dX12_isBetter_48 (fun c14 h15 => ?_)
    refine j_aload_n (pc := 49) dX12_isBetter_49 rfl (q := 2) rfl ?_
    refine j_getr (pc := 50) jv2_0 jm_01 kf_RX12_493 0 kg2_0_81 rfl dX12_isBetter_50 ?_
    refine j_iload_n (pc := 53) dX12_isBetter_53 rfl (q := 4) rfl ?_
    refine j_iald (pc := 54) jv2_68 jm_01 rfl (by decide) ka2_68 dX12_isBetter_54 (fun c16 h17 => ?_)
    refine j_icmp_lt (tgt := 78) (pc := 55) h15 h17 dX12_isBetter_55 (by decide) (fun c18 => ?_) (fun c18 => ?_)
    · skip
      refine j_iconst (pc := 78) dX12_isBetter_78 ?_
      refine j_goto (tgt := 83) (pc := 79) dX12_isBetter_79 (by decide) ?_
      exact j_iret (pc := 83) (jm_inL (by decide) (by decide)) rfl dX12_isBetter_83
    · skip
      refine j_aload_n (pc := 58) dX12_isBetter_58 rfl (q := 2) rfl ?_
      refine j_getr (pc := 59) jv2_0 jm_01 kf_RX12_493 0 kg2_0_81 rfl dX12_isBetter_59 ?_
      refine j_iload_n (pc := 62) dX12_isBetter_62 rfl (q := 3) rfl ?_
      refine j_iald (pc := 63) jv2_68 jm_01 rfl (by decide) ka2_68 dX12_isBetter_63 (fun c19 h20 => ?_)
      refine j_aload_n (pc := 64) dX12_isBetter_64 rfl (q := 2) rfl ?_
      refine j_getr (pc := 65) jv2_0 jm_01 kf_RX12_493 0 kg2_0_81 rfl dX12_isBetter_65 ?_
      refine j_iload_n (pc := 68) dX12_isBetter_68 rfl (q := 4) rfl ?_
      refine j_iald (pc := 69) jv2_68 jm_01 rfl (by decide) ka2_68 dX12_isBetter_69 (fun c21 h22 => ?_)
      refine j_icmp_ne (tgt := 82) (pc := 70) h20 h22 dX12_isBetter_70 (by decide) (fun c23 => ?_) (fun c23 => ?_)
      · skip
        refine j_iload_n (pc := 73) dX12_isBetter_73 rfl (q := 3) rfl ?_
        refine j_iload_n (pc := 74) dX12_isBetter_74 rfl (q := 4) rfl ?_
        refine j_icmp_ge (tgt := 82) (pc := 75) hl1 hl2 dX12_isBetter_75 (by decide) (fun c24 => ?_) (fun c24 => ?_)
        · skip
          refine j_iconst (pc := 82) dX12_isBetter_82 ?_
          exact j_iret (pc := 83) (jm_inL (by decide) (by decide)) rfl dX12_isBetter_83
        · skip
          refine j_iconst (pc := 78) dX12_isBetter_78 ?_
          refine j_goto (tgt := 83) (pc := 79) dX12_isBetter_79 (by decide) ?_
          exact j_iret (pc := 83) (jm_inL (by decide) (by decide)) rfl dX12_isBetter_83
      · skip
        refine j_iconst (pc := 82) dX12_isBetter_82 ?_
        exact j_iret (pc := 83) (jm_inL (by decide) (by decide)) rfl dX12_isBetter_83
  · skip
    refine j_iload_n (pc := 31) dX12_isBetter_31 rfl (q := 1) rfl ?_
    refine j_iload (pc := 32) dX12_isBetter_32 (q := 0) rfl ?_
    refine j_icmp_le (tgt := 41) (pc := 34) h6 h12 dX12_isBetter_34 (by decide) (fun c25 => ?_) (fun c25 => ?_)
    · skip
      refine j_iconst (pc := 41) dX12_isBetter_41 ?_
      exact j_iret (pc := 42) (jm_inL (by decide) (by decide)) rfl dX12_isBetter_42
    · skip
      refine j_iconst (pc := 37) dX12_isBetter_37 ?_
      refine j_goto (tgt := 42) (pc := 38) dX12_isBetter_38 (by decide) ?_
      exact j_iret (pc := 42) (jm_inL (by decide) (by decide)) rfl dX12_isBetter_42
abbrev rmX12_placeOf : Room := { frames := 1, cells := 0, slots := 0, locals := 24 }
set_option maxHeartbeats 4000000 in
set_option maxRecDepth 100000 in
theorem b0X12_placeOf_5 (X : jm_X) (fu : Nat) (k5 : jm_M → Int → Int → Int → Int → jm_R) (hk5 : ∀ (M : jm_M) (l1 l2 l3 l4 : Int) (hl1 : jm_in l1) (hl2 : jm_in l2) (hl3 : jm_in l3) (hl4 : jm_in l4), jm_J wd2 (jm_qi .int) cX12_placeOf 5 RX12 rmX12_placeOf X M [(0, jm_vr wd2 X 0 0), (1, jm_i l1), (2, jm_i l2), (3, jm_i l3), (4, jm_i l4)] [] 5 (k5 M l1 l2 l3 l4)) : ∀ (M : jm_M) (l1 l2 l3 l4 : Int) (hl1 : jm_in l1) (hl2 : jm_in l2) (hl3 : jm_in l3) (hl4 : jm_in l4), jm_J wd2 (jm_qi .int) cX12_placeOf 5 RX12 rmX12_placeOf X M [(0, jm_vr wd2 X 0 0), (1, jm_i l1), (2, jm_i l2), (3, jm_i l3), (4, jm_i l4)] [] 5 (gX12_placeOf_5 fu k5 M l1 l2 l3 l4) := by
  intro M l1 l2 l3 l4 hl1 hl2 hl3 hl4
  unfold gX12_placeOf_5
  refine j_iload (pc := 5) dX12_placeOf_5 (q := 4) rfl ?_
  refine j_aload_n (pc := 7) dX12_placeOf_7 rfl (q := 0) rfl ?_
  refine j_geti (pc := 8) jv2_0 jm_01 kf_RX12_30 kg2_0_17 dX12_placeOf_8 (fun h1 => ?_)
  refine j_icmp_ge (tgt := 74) (pc := 11) hl4 h1 dX12_placeOf_11 (by decide) (fun c2 => ?_) (fun c2 => ?_)
  · skip
    refine j_aload_n (pc := 74) dX12_placeOf_74 rfl (q := 0) rfl ?_
    refine j_getr (pc := 75) jv2_0 jm_01 kf_RX12_490 0 kg2_0_80 rfl dX12_placeOf_75 ?_
    refine j_iload_n (pc := 78) dX12_placeOf_78 rfl (q := 1) rfl ?_
    refine j_bald (pc := 79) jv2_67 jm_01 rfl (by decide) ka2_67 dX12_placeOf_79 (fun c3 h4 => ?_)
    refine j_if_eq (tgt := 87) (pc := 80) h4 dX12_placeOf_80 (by decide) (fun c5 => ?_) (fun c5 => ?_)
    · skip
      refine j_iconst (pc := 87) dX12_placeOf_87 ?_
      exact j_iret (pc := 88) (jm_inL (by decide) (by decide)) rfl dX12_placeOf_88
    · skip
      refine j_iload_n (pc := 83) dX12_placeOf_83 rfl (q := 3) rfl ?_
      refine j_goto (tgt := 88) (pc := 84) dX12_placeOf_84 (by decide) ?_
      exact j_iret (pc := 88) hl3 rfl dX12_placeOf_88
  · skip
    refine j_iload_n (pc := 14) dX12_placeOf_14 rfl (q := 3) rfl ?_
    refine j_iload (pc := 15) dX12_placeOf_15 (q := 4) rfl ?_
    refine j_iload_n (pc := 17) dX12_placeOf_17 rfl (q := 1) rfl ?_
    refine j_icmp_eq (tgt := 65) (pc := 18) hl4 hl1 dX12_placeOf_18 (by decide) (fun c6 => ?_) (fun c6 => ?_)
    · skip
      refine j_iconst (pc := 65) dX12_placeOf_65 ?_
      refine j_iadd (pc := 66) dX12_placeOf_66 ?_
      refine j_nm (pc := 67) (jm_w_in _) (fun v7 h8 => ?_)
      refine j_istore_n (pc := 67) [(3, jm_i v7), (0, jm_vr wd2 X 0 0), (1, jm_i l1), (2, jm_i l2), (4, jm_i l4)] dX12_placeOf_67 rfl (by decide) rfl ?_
      refine j_iinc (pc := 68) [(3, jm_i v7), (0, jm_vr wd2 X 0 0), (1, jm_i l1), (2, jm_i l2)] (q := 4) dX12_placeOf_68 rfl (by decide) (fun _ => rfl) (fun v9 h10 => ?_)
      refine j_goto (tgt := 5) (pc := 71) dX12_placeOf_71 (by decide) ?_
      refine j_sub (pc := 5) [(0, jm_vr wd2 X 0 0), (1, jm_i l1), (2, jm_i l2), (3, jm_i v7), (4, jm_i v9)] [2, 3, 4, 1, 0] rfl ?_
      exact hk5 M l1 l2 v7 v9 hl1 hl2 h8 h10
    · skip
      refine j_aload_n (pc := 21) dX12_placeOf_21 rfl (q := 0) rfl ?_
      refine j_getr (pc := 22) jv2_0 jm_01 kf_RX12_490 0 kg2_0_80 rfl dX12_placeOf_22 ?_
      refine j_iload (pc := 25) dX12_placeOf_25 (q := 4) rfl ?_
      refine j_bald (pc := 27) jv2_67 jm_01 rfl (by decide) ka2_67 dX12_placeOf_27 (fun c11 h12 => ?_)
      refine j_if_eq (tgt := 65) (pc := 28) h12 dX12_placeOf_28 (by decide) (fun c13 => ?_) (fun c13 => ?_)
      · skip
        refine j_iconst (pc := 65) dX12_placeOf_65 ?_
        refine j_iadd (pc := 66) dX12_placeOf_66 ?_
        refine j_nm (pc := 67) (jm_w_in _) (fun v14 h15 => ?_)
        refine j_istore_n (pc := 67) [(3, jm_i v14), (0, jm_vr wd2 X 0 0), (1, jm_i l1), (2, jm_i l2), (4, jm_i l4)] dX12_placeOf_67 rfl (by decide) rfl ?_
        refine j_iinc (pc := 68) [(3, jm_i v14), (0, jm_vr wd2 X 0 0), (1, jm_i l1), (2, jm_i l2)] (q := 4) dX12_placeOf_68 rfl (by decide) (fun _ => rfl) (fun v16 h17 => ?_)
        refine j_goto (tgt := 5) (pc := 71) dX12_placeOf_71 (by decide) ?_
        refine j_sub (pc := 5) [(0, jm_vr wd2 X 0 0), (1, jm_i l1), (2, jm_i l2), (3, jm_i v14), (4, jm_i v16)] [2, 3, 4, 1, 0] rfl ?_
        exact hk5 M l1 l2 v14 v16 hl1 hl2 h15 h17
      · skip
        refine j_aload_n (pc := 31) dX12_placeOf_31 rfl (q := 0) rfl ?_
        refine j_iload (pc := 32) dX12_placeOf_32 (q := 4) rfl ?_
        refine j_iload_n (pc := 34) dX12_placeOf_34 rfl (q := 1) rfl ?_
        refine j_callVi2 (pc := 35) (ct_X12_isBetter M l4 l1 hl4 hl1) kg_1685 km_X12_isBetter kv_X12_isBetter rfl rfl ⟨(Nat.le_of_ble_eq_true rfl), (Nat.le_of_ble_eq_true rfl)⟩ jv2_0 jm_01 ko2_0 rfl rfl (Nat.le_of_ble_eq_true rfl) dX12_placeOf_35 (fun v18 M19 h20 => ?_)
        refine j_if_eq (tgt := 65) (pc := 38) h20 dX12_placeOf_38 (by decide) (fun c21 => ?_) (fun c21 => ?_)
        · skip
          refine j_iconst (pc := 65) dX12_placeOf_65 ?_
          refine j_iadd (pc := 66) dX12_placeOf_66 ?_
          refine j_nm (pc := 67) (jm_w_in _) (fun v22 h23 => ?_)
          refine j_istore_n (pc := 67) [(3, jm_i v22), (0, jm_vr wd2 X 0 0), (1, jm_i l1), (2, jm_i l2), (4, jm_i l4)] dX12_placeOf_67 rfl (by decide) rfl ?_
          refine j_iinc (pc := 68) [(3, jm_i v22), (0, jm_vr wd2 X 0 0), (1, jm_i l1), (2, jm_i l2)] (q := 4) dX12_placeOf_68 rfl (by decide) (fun _ => rfl) (fun v24 h25 => ?_)
          refine j_goto (tgt := 5) (pc := 71) dX12_placeOf_71 (by decide) ?_
          refine j_sub (pc := 5) [(0, jm_vr wd2 X 0 0), (1, jm_i l1), (2, jm_i l2), (3, jm_i v22), (4, jm_i v24)] [2, 3, 4, 1, 0] rfl ?_
          exact hk5 M19 l1 l2 v22 v24 hl1 hl2 h23 h25
        · skip
          refine j_iload_n (pc := 41) dX12_placeOf_41 rfl (q := 2) rfl ?_
          refine j_if_eq (tgt := 61) (pc := 42) hl2 dX12_placeOf_42 (by decide) (fun c26 => ?_) (fun c26 => ?_)
          · skip
            refine j_iconst (pc := 61) dX12_placeOf_61 ?_
            refine j_goto (tgt := 66) (pc := 62) dX12_placeOf_62 (by decide) ?_
            refine j_iadd (pc := 66) dX12_placeOf_66 ?_
            refine j_nm (pc := 67) (jm_w_in _) (fun v27 h28 => ?_)
            refine j_istore_n (pc := 67) [(3, jm_i v27), (0, jm_vr wd2 X 0 0), (1, jm_i l1), (2, jm_i l2), (4, jm_i l4)] dX12_placeOf_67 rfl (by decide) rfl ?_
            refine j_iinc (pc := 68) [(3, jm_i v27), (0, jm_vr wd2 X 0 0), (1, jm_i l1), (2, jm_i l2)] (q := 4) dX12_placeOf_68 rfl (by decide) (fun _ => rfl) (fun v29 h30 => ?_)
            refine j_goto (tgt := 5) (pc := 71) dX12_placeOf_71 (by decide) ?_
            refine j_sub (pc := 5) [(0, jm_vr wd2 X 0 0), (1, jm_i l1), (2, jm_i l2), (3, jm_i v27), (4, jm_i v29)] [2, 3, 4, 1, 0] rfl ?_
            exact hk5 M19 l1 l2 v27 v29 hl1 hl2 h28 h30
          · skip
            refine j_aload_n (pc := 45) dX12_placeOf_45 rfl (q := 0) rfl ?_
            refine j_getr (pc := 46) jv2_0 jm_01 kf_RX12_127 0 kg2_0_22 rfl dX12_placeOf_46 ?_
            refine j_iload (pc := 49) dX12_placeOf_49 (q := 4) rfl ?_
            refine j_iald (pc := 51) jv2_17 jm_01 rfl (by decide) ka2_17 dX12_placeOf_51 (fun c31 h32 => ?_)
            refine j_aload_n (pc := 52) dX12_placeOf_52 rfl (q := 0) rfl ?_
            refine j_getr (pc := 53) jv2_0 jm_01 kf_RX12_127 0 kg2_0_22 rfl dX12_placeOf_53 ?_
            refine j_iload_n (pc := 56) dX12_placeOf_56 rfl (q := 1) rfl ?_
            refine j_iald (pc := 57) jv2_17 jm_01 rfl (by decide) ka2_17 dX12_placeOf_57 (fun c33 h34 => ?_)
            refine j_icmp_ne (tgt := 65) (pc := 58) h32 h34 dX12_placeOf_58 (by decide) (fun c35 => ?_) (fun c35 => ?_)
            · skip
              refine j_iconst (pc := 61) dX12_placeOf_61 ?_
              refine j_goto (tgt := 66) (pc := 62) dX12_placeOf_62 (by decide) ?_
              refine j_iadd (pc := 66) dX12_placeOf_66 ?_
              refine j_nm (pc := 67) (jm_w_in _) (fun v36 h37 => ?_)
              refine j_istore_n (pc := 67) [(3, jm_i v36), (0, jm_vr wd2 X 0 0), (1, jm_i l1), (2, jm_i l2), (4, jm_i l4)] dX12_placeOf_67 rfl (by decide) rfl ?_
              refine j_iinc (pc := 68) [(3, jm_i v36), (0, jm_vr wd2 X 0 0), (1, jm_i l1), (2, jm_i l2)] (q := 4) dX12_placeOf_68 rfl (by decide) (fun _ => rfl) (fun v38 h39 => ?_)
              refine j_goto (tgt := 5) (pc := 71) dX12_placeOf_71 (by decide) ?_
              refine j_sub (pc := 5) [(0, jm_vr wd2 X 0 0), (1, jm_i l1), (2, jm_i l2), (3, jm_i v36), (4, jm_i v38)] [2, 3, 4, 1, 0] rfl ?_
              exact hk5 M19 l1 l2 v36 v38 hl1 hl2 h37 h39
            · skip
              refine j_iconst (pc := 65) dX12_placeOf_65 ?_
              refine j_iadd (pc := 66) dX12_placeOf_66 ?_
              refine j_nm (pc := 67) (jm_w_in _) (fun v40 h41 => ?_)
              refine j_istore_n (pc := 67) [(3, jm_i v40), (0, jm_vr wd2 X 0 0), (1, jm_i l1), (2, jm_i l2), (4, jm_i l4)] dX12_placeOf_67 rfl (by decide) rfl ?_
              refine j_iinc (pc := 68) [(3, jm_i v40), (0, jm_vr wd2 X 0 0), (1, jm_i l1), (2, jm_i l2)] (q := 4) dX12_placeOf_68 rfl (by decide) (fun _ => rfl) (fun v42 h43 => ?_)
              refine j_goto (tgt := 5) (pc := 71) dX12_placeOf_71 (by decide) ?_
              refine j_sub (pc := 5) [(0, jm_vr wd2 X 0 0), (1, jm_i l1), (2, jm_i l2), (3, jm_i v40), (4, jm_i v42)] [2, 3, 4, 1, 0] rfl ?_
              exact hk5 M19 l1 l2 v40 v42 hl1 hl2 h41 h43
theorem bX12_placeOf_5 (X : jm_X) (fu : Nat) : ∀ (n : Nat) (M : jm_M) (l1 l2 l3 l4 : Int) (hl1 : jm_in l1) (hl2 : jm_in l2) (hl3 : jm_in l3) (hl4 : jm_in l4), jm_J wd2 (jm_qi .int) cX12_placeOf 5 RX12 rmX12_placeOf X M [(0, jm_vr wd2 X 0 0), (1, jm_i l1), (2, jm_i l2), (3, jm_i l3), (4, jm_i l4)] [] 5 (fX12_placeOf_5 fu n M l1 l2 l3 l4) := by
  intro n
  induction n with
  | zero => intro M l1 l2 l3 l4 hl1 hl2 hl3 hl4; exact j_none
  | succ n ih => intro M l1 l2 l3 l4 hl1 hl2 hl3 hl4; exact b0X12_placeOf_5 X fu (fX12_placeOf_5 fu n) ih M l1 l2 l3 l4 hl1 hl2 hl3 hl4
set_option maxHeartbeats 4000000 in
set_option maxRecDepth 100000 in
theorem ct_X12_placeOf (fu : Nat) (M : jm_M) (l1 l2 : Int) (hl1 : jm_in l1) (hl2 : jm_in l2) : jm_Ci wd2 yX12_placeOf cX12_placeOf 5 (some .int) rmX12_placeOf M (fun G ad => [.ref (ad (jm_r wd2 0 0)), jm_i l1, jm_i l2]) (fX12_placeOf fu M l1 l2) := by
  refine jm_met_i (fun X => [(0, jm_vr wd2 X 0 0), (1, jm_i l1), (2, jm_i l2)]) (by decide) (fun _ _ => (Nat.le_of_ble_eq_true rfl)) (fun _ => rfl) (fun X => ?_)
  unfold fX12_placeOf
  refine j_iconst (pc := 0) dX12_placeOf_0 ?_
  refine j_istore_n (pc := 1) [(3, jm_i 0), (0, jm_vr wd2 X 0 0), (1, jm_i l1), (2, jm_i l2)] dX12_placeOf_1 rfl (by decide) rfl ?_
  refine j_iconst (pc := 2) dX12_placeOf_2 ?_
  refine j_istore (pc := 3) [(4, jm_i 0), (3, jm_i 0), (0, jm_vr wd2 X 0 0), (1, jm_i l1), (2, jm_i l2)] dX12_placeOf_3 (by decide) rfl ?_
  refine j_sub (pc := 5) [(0, jm_vr wd2 X 0 0), (1, jm_i l1), (2, jm_i l2), (3, jm_i 0), (4, jm_i 0)] [2, 3, 4, 1, 0] rfl ?_
  exact bX12_placeOf_5 X fu  fu M l1 l2 0 0 hl1 hl2 (jm_inL (by decide) (by decide)) (jm_inL (by decide) (by decide))
abbrev rmX12_place : Room := { frames := 8, cells := 0, slots := 0, locals := 193 }
set_option maxHeartbeats 4000000 in
set_option maxRecDepth 100000 in
theorem ct_X12_place (fu : Nat) (M : jm_M) (l1 l2 : Int) (hl1 : jm_in l1) (hl2 : jm_in l2) : jm_Ci wd2 yX12_place cX12_place 3 (some .int) rmX12_place M (fun G ad => [.ref (ad (jm_r wd2 0 0)), jm_i l1, jm_i l2]) (fX12_place fu M l1 l2) := by
  refine jm_met_i (fun X => [(0, jm_vr wd2 X 0 0), (1, jm_i l1), (2, jm_i l2)]) (by decide) (fun _ _ => (Nat.le_of_ble_eq_true rfl)) (fun _ => rfl) (fun X => ?_)
  unfold fX12_place
  refine j_aload_n (pc := 0) dX12_place_0 rfl (q := 0) rfl ?_
  refine j_iconst (pc := 1) dX12_place_1 ?_
  refine j_put (pc := 2) jv2_0 jm_01 kf_RX12_3 wI2 kp_X12_0 kx2_0_0 (jm_inL (by decide) (by decide)) rfl rfl dX12_place_2 (fun M1 => ?_)
  refine j_aload_n (pc := 5) dX12_place_5 rfl (q := 0) rfl ?_
  refine j_iload_n (pc := 6) dX12_place_6 rfl (q := 1) rfl ?_
  refine j_callVi1 (pc := 7) (ct_X12_isCar M1 l1 hl1) kg_1405 km_X12_isCar kv_X12_isCar rfl rfl ⟨(Nat.le_of_ble_eq_true rfl), (Nat.le_of_ble_eq_true rfl)⟩ jv2_0 jm_01 ko2_0 rfl rfl (Nat.le_of_ble_eq_true rfl) dX12_place_7 (fun v2 M3 h4 => ?_)
  refine j_if_eq (tgt := 20) (pc := 10) h4 dX12_place_10 (by decide) (fun c5 => ?_) (fun c5 => ?_)
  · skip
    refine j_iconst (pc := 20) dX12_place_20 ?_
    exact j_iret (pc := 21) (jm_inL (by decide) (by decide)) rfl dX12_place_21
  · skip
    refine j_iload_n (pc := 13) dX12_place_13 rfl (q := 2) rfl ?_
    refine j_callSi1 (pc := 14) (ct_X12_isDay M3 l2 hl2) kg_1647 km_X12_isDay kg_1648 rfl rfl ⟨(Nat.le_of_ble_eq_true rfl), (Nat.le_of_ble_eq_true rfl)⟩ rfl rfl (Nat.le_of_ble_eq_true rfl) dX12_place_14 (fun v6 M7 h8 => ?_)
    refine j_if_ne (tgt := 22) (pc := 17) h8 dX12_place_17 (by decide) (fun c9 => ?_) (fun c9 => ?_)
    · skip
      refine j_iconst (pc := 20) dX12_place_20 ?_
      exact j_iret (pc := 21) (jm_inL (by decide) (by decide)) rfl dX12_place_21
    · skip
      refine j_aload_n (pc := 22) dX12_place_22 rfl (q := 0) rfl ?_
      refine j_iload_n (pc := 23) dX12_place_23 rfl (q := 2) rfl ?_
      refine j_callVv1 (pc := 24) (ct_X12_judges fu M7 l2 hl2) kg_1673 km_X12_judges kv_X12_judges rfl rfl ⟨(Nat.le_of_ble_eq_true rfl), (Nat.le_of_ble_eq_true rfl)⟩ jv2_0 jm_01 ko2_0 rfl rfl (Nat.le_of_ble_eq_true rfl) dX12_place_24 (fun v10 M11 => ?_)
      refine j_aload_n (pc := 27) dX12_place_27 rfl (q := 0) rfl ?_
      refine j_iload_n (pc := 28) dX12_place_28 rfl (q := 1) rfl ?_
      refine j_iconst (pc := 29) dX12_place_29 ?_
      refine j_callVi2 (pc := 30) (ct_X12_placeOf fu M11 l1 0 hl1 (jm_inL (by decide) (by decide))) kg_1681 km_X12_placeOf kv_X12_placeOf rfl rfl ⟨(Nat.le_of_ble_eq_true rfl), (Nat.le_of_ble_eq_true rfl)⟩ jv2_0 jm_01 ko2_0 rfl rfl (Nat.le_of_ble_eq_true rfl) dX12_place_30 (fun v12 M13 h14 => ?_)
      exact j_iret (pc := 33) h14 rfl dX12_place_33
abbrev rmX12_sum : Room := { frames := 8, cells := 0, slots := 0, locals := 193 }
set_option maxHeartbeats 4000000 in
set_option maxRecDepth 100000 in
theorem ct_X12_sum (fu : Nat) (M : jm_M) (l1 l2 : Int) (hl1 : jm_in l1) (hl2 : jm_in l2) : jm_Ci wd2 yX12_sum cX12_sum 3 (some .int) rmX12_sum M (fun G ad => [.ref (ad (jm_r wd2 0 0)), jm_i l1, jm_i l2]) (fX12_sum fu M l1 l2) := by
  refine jm_met_i (fun X => [(0, jm_vr wd2 X 0 0), (1, jm_i l1), (2, jm_i l2)]) (by decide) (fun _ _ => (Nat.le_of_ble_eq_true rfl)) (fun _ => rfl) (fun X => ?_)
  unfold fX12_sum
  refine j_aload_n (pc := 0) dX12_sum_0 rfl (q := 0) rfl ?_
  refine j_iconst (pc := 1) dX12_sum_1 ?_
  refine j_put (pc := 2) jv2_0 jm_01 kf_RX12_3 wI2 kp_X12_0 kx2_0_0 (jm_inL (by decide) (by decide)) rfl rfl dX12_sum_2 (fun M1 => ?_)
  refine j_aload_n (pc := 5) dX12_sum_5 rfl (q := 0) rfl ?_
  refine j_iload_n (pc := 6) dX12_sum_6 rfl (q := 1) rfl ?_
  refine j_callVi1 (pc := 7) (ct_X12_isCar M1 l1 hl1) kg_1405 km_X12_isCar kv_X12_isCar rfl rfl ⟨(Nat.le_of_ble_eq_true rfl), (Nat.le_of_ble_eq_true rfl)⟩ jv2_0 jm_01 ko2_0 rfl rfl (Nat.le_of_ble_eq_true rfl) dX12_sum_7 (fun v2 M3 h4 => ?_)
  refine j_if_eq (tgt := 20) (pc := 10) h4 dX12_sum_10 (by decide) (fun c5 => ?_) (fun c5 => ?_)
  · skip
    refine j_aload_n (pc := 20) dX12_sum_20 rfl (q := 0) rfl ?_
    refine j_callVi0 (pc := 21) (ct_X12_refuse M3 ) kg_1534 km_X12_refuse kv_X12_refuse rfl rfl ⟨(Nat.le_of_ble_eq_true rfl), (Nat.le_of_ble_eq_true rfl)⟩ jv2_0 jm_01 ko2_0 rfl rfl (Nat.le_of_ble_eq_true rfl) dX12_sum_21 (fun v6 M7 h8 => ?_)
    exact j_iret (pc := 24) h8 rfl dX12_sum_24
  · skip
    refine j_iload_n (pc := 13) dX12_sum_13 rfl (q := 2) rfl ?_
    refine j_callSi1 (pc := 14) (ct_X12_isDay M3 l2 hl2) kg_1647 km_X12_isDay kg_1648 rfl rfl ⟨(Nat.le_of_ble_eq_true rfl), (Nat.le_of_ble_eq_true rfl)⟩ rfl rfl (Nat.le_of_ble_eq_true rfl) dX12_sum_14 (fun v9 M10 h11 => ?_)
    refine j_if_ne (tgt := 25) (pc := 17) h11 dX12_sum_17 (by decide) (fun c12 => ?_) (fun c12 => ?_)
    · skip
      refine j_aload_n (pc := 20) dX12_sum_20 rfl (q := 0) rfl ?_
      refine j_callVi0 (pc := 21) (ct_X12_refuse M10 ) kg_1534 km_X12_refuse kv_X12_refuse rfl rfl ⟨(Nat.le_of_ble_eq_true rfl), (Nat.le_of_ble_eq_true rfl)⟩ jv2_0 jm_01 ko2_0 rfl rfl (Nat.le_of_ble_eq_true rfl) dX12_sum_21 (fun v13 M14 h15 => ?_)
      exact j_iret (pc := 24) h15 rfl dX12_sum_24
    · skip
      refine j_aload_n (pc := 25) dX12_sum_25 rfl (q := 0) rfl ?_
      refine j_iload_n (pc := 26) dX12_sum_26 rfl (q := 2) rfl ?_
      refine j_callVv1 (pc := 27) (ct_X12_judges fu M10 l2 hl2) kg_1673 km_X12_judges kv_X12_judges rfl rfl ⟨(Nat.le_of_ble_eq_true rfl), (Nat.le_of_ble_eq_true rfl)⟩ jv2_0 jm_01 ko2_0 rfl rfl (Nat.le_of_ble_eq_true rfl) dX12_sum_27 (fun v16 M17 => ?_)
      refine j_aload_n (pc := 30) dX12_sum_30 rfl (q := 0) rfl ?_
      refine j_getr (pc := 31) jv2_0 jm_01 kf_RX12_490 0 kg2_0_80 rfl dX12_sum_31 ?_
      refine j_iload_n (pc := 34) dX12_sum_34 rfl (q := 1) rfl ?_
      refine j_bald (pc := 35) jv2_67 jm_01 rfl (by decide) ka2_67 dX12_sum_35 (fun c18 h19 => ?_)
      refine j_if_eq (tgt := 48) (pc := 36) h19 dX12_sum_36 (by decide) (fun c20 => ?_) (fun c20 => ?_)
      · skip
        refine j_aload_n (pc := 48) dX12_sum_48 rfl (q := 0) rfl ?_
        refine j_callVi0 (pc := 49) (ct_X12_refuse M17 ) kg_1534 km_X12_refuse kv_X12_refuse rfl rfl ⟨(Nat.le_of_ble_eq_true rfl), (Nat.le_of_ble_eq_true rfl)⟩ jv2_0 jm_01 ko2_0 rfl rfl (Nat.le_of_ble_eq_true rfl) dX12_sum_49 (fun v21 M22 h23 => ?_)
        exact j_iret (pc := 52) h23 rfl dX12_sum_52
      · skip
        refine j_aload_n (pc := 39) dX12_sum_39 rfl (q := 0) rfl ?_
        refine j_getr (pc := 40) jv2_0 jm_01 kf_RX12_493 0 kg2_0_81 rfl dX12_sum_40 ?_
        refine j_iload_n (pc := 43) dX12_sum_43 rfl (q := 1) rfl ?_
        refine j_iald (pc := 44) jv2_68 jm_01 rfl (by decide) ka2_68 dX12_sum_44 (fun c24 h25 => ?_)
        refine j_goto (tgt := 52) (pc := 45) dX12_sum_45 (by decide) ?_
        exact j_iret (pc := 52) h25 rfl dX12_sum_52
abbrev rmX12_within : Room := { frames := 8, cells := 0, slots := 0, locals := 193 }
set_option maxHeartbeats 4000000 in
set_option maxRecDepth 100000 in
theorem ct_X12_within (fu : Nat) (M : jm_M) (l1 l2 : Int) (hl1 : jm_in l1) (hl2 : jm_in l2) : jm_Ci wd2 yX12_within cX12_within 3 (some .int) rmX12_within M (fun G ad => [.ref (ad (jm_r wd2 0 0)), jm_i l1, jm_i l2]) (fX12_within fu M l1 l2) := by
  refine jm_met_i (fun X => [(0, jm_vr wd2 X 0 0), (1, jm_i l1), (2, jm_i l2)]) (by decide) (fun _ _ => (Nat.le_of_ble_eq_true rfl)) (fun _ => rfl) (fun X => ?_)
  unfold fX12_within
  refine j_aload_n (pc := 0) dX12_within_0 rfl (q := 0) rfl ?_
  refine j_iconst (pc := 1) dX12_within_1 ?_
  refine j_put (pc := 2) jv2_0 jm_01 kf_RX12_3 wI2 kp_X12_0 kx2_0_0 (jm_inL (by decide) (by decide)) rfl rfl dX12_within_2 (fun M1 => ?_)
  refine j_aload_n (pc := 5) dX12_within_5 rfl (q := 0) rfl ?_
  refine j_iload_n (pc := 6) dX12_within_6 rfl (q := 1) rfl ?_
  refine j_callVi1 (pc := 7) (ct_X12_isCar M1 l1 hl1) kg_1405 km_X12_isCar kv_X12_isCar rfl rfl ⟨(Nat.le_of_ble_eq_true rfl), (Nat.le_of_ble_eq_true rfl)⟩ jv2_0 jm_01 ko2_0 rfl rfl (Nat.le_of_ble_eq_true rfl) dX12_within_7 (fun v2 M3 h4 => ?_)
  refine j_if_eq (tgt := 20) (pc := 10) h4 dX12_within_10 (by decide) (fun c5 => ?_) (fun c5 => ?_)
  · skip
    refine j_iconst (pc := 20) dX12_within_20 ?_
    exact j_iret (pc := 21) (jm_inL (by decide) (by decide)) rfl dX12_within_21
  · skip
    refine j_iload_n (pc := 13) dX12_within_13 rfl (q := 2) rfl ?_
    refine j_callSi1 (pc := 14) (ct_X12_isDay M3 l2 hl2) kg_1647 km_X12_isDay kg_1648 rfl rfl ⟨(Nat.le_of_ble_eq_true rfl), (Nat.le_of_ble_eq_true rfl)⟩ rfl rfl (Nat.le_of_ble_eq_true rfl) dX12_within_14 (fun v6 M7 h8 => ?_)
    refine j_if_ne (tgt := 22) (pc := 17) h8 dX12_within_17 (by decide) (fun c9 => ?_) (fun c9 => ?_)
    · skip
      refine j_iconst (pc := 20) dX12_within_20 ?_
      exact j_iret (pc := 21) (jm_inL (by decide) (by decide)) rfl dX12_within_21
    · skip
      refine j_aload_n (pc := 22) dX12_within_22 rfl (q := 0) rfl ?_
      refine j_iload_n (pc := 23) dX12_within_23 rfl (q := 2) rfl ?_
      refine j_callVv1 (pc := 24) (ct_X12_judges fu M7 l2 hl2) kg_1673 km_X12_judges kv_X12_judges rfl rfl ⟨(Nat.le_of_ble_eq_true rfl), (Nat.le_of_ble_eq_true rfl)⟩ jv2_0 jm_01 ko2_0 rfl rfl (Nat.le_of_ble_eq_true rfl) dX12_within_24 (fun v10 M11 => ?_)
      refine j_aload_n (pc := 27) dX12_within_27 rfl (q := 0) rfl ?_
      refine j_iload_n (pc := 28) dX12_within_28 rfl (q := 1) rfl ?_
      refine j_iconst (pc := 29) dX12_within_29 ?_
      refine j_callVi2 (pc := 30) (ct_X12_placeOf fu M11 l1 1 hl1 (jm_inL (by decide) (by decide))) kg_1681 km_X12_placeOf kv_X12_placeOf rfl rfl ⟨(Nat.le_of_ble_eq_true rfl), (Nat.le_of_ble_eq_true rfl)⟩ jv2_0 jm_01 ko2_0 rfl rfl (Nat.le_of_ble_eq_true rfl) dX12_within_30 (fun v12 M13 h14 => ?_)
      exact j_iret (pc := 33) h14 rfl dX12_within_33
abbrev rmX12_result : Room := { frames := 8, cells := 0, slots := 0, locals := 193 }
set_option maxHeartbeats 4000000 in
set_option maxRecDepth 100000 in
theorem b0X12_result_65 (X : jm_X) (fu : Nat) (k65 : jm_M → Int → jm_R) (hk65 : ∀ (M : jm_M) (l2 : Int) (hl2 : jm_in l2), jm_J wd2 (jm_qi .int) cX12_result 3 RX12 rmX12_result X M [(0, jm_vr wd2 X 0 0), (2, jm_i l2)] [] 65 (k65 M l2)) : ∀ (M : jm_M) (l2 : Int) (hl2 : jm_in l2), jm_J wd2 (jm_qi .int) cX12_result 3 RX12 rmX12_result X M [(0, jm_vr wd2 X 0 0), (2, jm_i l2)] [] 65 (gX12_result_65 fu k65 M l2) := by
  intro M l2 hl2
  unfold gX12_result_65
  refine j_iload_n (pc := 65) dX12_result_65 rfl (q := 1) rfl ?_
  refine j_aload_n (pc := 66) dX12_result_66 rfl (q := 0) rfl ?_
  refine j_geti (pc := 67) jv2_0 jm_01 kf_RX12_30 kg2_0_17 dX12_result_67 (fun h1 => ?_)
  refine j_icmp_ge (tgt := 100) (pc := 70) hl2 h1 dX12_result_70 (by decide) (fun c2 => ?_) (fun c2 => ?_)
  · skip
    refine j_aload_n (pc := 100) dX12_result_100 rfl (q := 0) rfl ?_
    refine j_geti (pc := 101) jv2_0 jm_01 kf_RX12_185 kg2_0_82 dX12_result_101 (fun h3 => ?_)
    exact j_iret (pc := 104) h3 rfl dX12_result_104
  · skip
    refine j_aload_n (pc := 73) dX12_result_73 rfl (q := 0) rfl ?_
    refine j_getr (pc := 74) jv2_0 jm_01 kf_RX12_490 0 kg2_0_80 rfl dX12_result_74 ?_
    refine j_iload_n (pc := 77) dX12_result_77 rfl (q := 1) rfl ?_
    refine j_bald (pc := 78) jv2_67 jm_01 rfl (by decide) ka2_67 dX12_result_78 (fun c4 h5 => ?_)
    refine j_if_eq (tgt := 94) (pc := 79) h5 dX12_result_79 (by decide) (fun c6 => ?_) (fun c6 => ?_)
    · skip
      refine j_iinc (pc := 94) [(0, jm_vr wd2 X 0 0)] (q := 1) dX12_result_94 rfl (by decide) (fun _ => rfl) (fun v7 h8 => ?_)
      refine j_goto (tgt := 65) (pc := 97) dX12_result_97 (by decide) ?_
      refine j_sub (pc := 65) [(0, jm_vr wd2 X 0 0), (2, jm_i v7)] [1, 0] rfl ?_
      exact hk65 M v7 h8
    · skip
      refine j_aload_n (pc := 82) dX12_result_82 rfl (q := 0) rfl ?_
      refine j_getr (pc := 83) jv2_0 jm_01 kf_RX12_508 0 kg2_0_83 rfl dX12_result_83 ?_
      refine j_aload_n (pc := 86) dX12_result_86 rfl (q := 0) rfl ?_
      refine j_iload_n (pc := 87) dX12_result_87 rfl (q := 1) rfl ?_
      refine j_iconst (pc := 88) dX12_result_88 ?_
      refine j_callVi2 (pc := 89) (ct_X12_placeOf fu M l2 0 hl2 (jm_inL (by decide) (by decide))) kg_1681 km_X12_placeOf kv_X12_placeOf rfl rfl ⟨(Nat.le_of_ble_eq_true rfl), (Nat.le_of_ble_eq_true rfl)⟩ jv2_0 jm_01 ko2_0 rfl rfl (Nat.le_of_ble_eq_true rfl) dX12_result_89 (fun v9 M10 h11 => ?_)
      refine j_iload_n (pc := 92) dX12_result_92 rfl (q := 1) rfl ?_
      refine j_iast (pc := 93) jv2_69 jm_01 rfl (by decide) wI2 ka2_69 hl2 dX12_result_93 (fun c12 M13 => ?_)
      refine j_iinc (pc := 94) [(0, jm_vr wd2 X 0 0)] (q := 1) dX12_result_94 rfl (by decide) (fun _ => rfl) (fun v14 h15 => ?_)
      refine j_goto (tgt := 65) (pc := 97) dX12_result_97 (by decide) ?_
      refine j_sub (pc := 65) [(0, jm_vr wd2 X 0 0), (2, jm_i v14)] [1, 0] rfl ?_
      exact hk65 M13 v14 h15
theorem bX12_result_65 (X : jm_X) (fu : Nat) : ∀ (n : Nat) (M : jm_M) (l2 : Int) (hl2 : jm_in l2), jm_J wd2 (jm_qi .int) cX12_result 3 RX12 rmX12_result X M [(0, jm_vr wd2 X 0 0), (2, jm_i l2)] [] 65 (fX12_result_65 fu n M l2) := by
  intro n
  induction n with
  | zero => intro M l2 hl2; exact j_none
  | succ n ih => intro M l2 hl2; exact b0X12_result_65 X fu (fX12_result_65 fu n) ih M l2 hl2
set_option maxHeartbeats 4000000 in
set_option maxRecDepth 100000 in
theorem b0X12_result_26 (X : jm_X) (fu : Nat) (k26 : jm_M → Int → jm_R) (hk26 : ∀ (M : jm_M) (l2 : Int) (hl2 : jm_in l2), jm_J wd2 (jm_qi .int) cX12_result 3 RX12 rmX12_result X M [(0, jm_vr wd2 X 0 0), (2, jm_i l2)] [] 26 (k26 M l2)) : ∀ (M : jm_M) (l2 : Int) (hl2 : jm_in l2), jm_J wd2 (jm_qi .int) cX12_result 3 RX12 rmX12_result X M [(0, jm_vr wd2 X 0 0), (2, jm_i l2)] [] 26 (gX12_result_26 fu k26 M l2) := by
  intro M l2 hl2
  unfold gX12_result_26
  refine j_iload_n (pc := 26) dX12_result_26 rfl (q := 1) rfl ?_
  refine j_aload_n (pc := 27) dX12_result_27 rfl (q := 0) rfl ?_
  refine j_geti (pc := 28) jv2_0 jm_01 kf_RX12_30 kg2_0_17 dX12_result_28 (fun h1 => ?_)
  refine j_icmp_ge (tgt := 63) (pc := 31) hl2 h1 dX12_result_31 (by decide) (fun c2 => ?_) (fun c2 => ?_)
  · skip
    refine j_iconst (pc := 63) dX12_result_63 ?_
    refine j_istore_n (pc := 64) [(2, jm_i 0), (0, jm_vr wd2 X 0 0)] dX12_result_64 rfl (by decide) rfl ?_
    refine j_sub (pc := 65) [(0, jm_vr wd2 X 0 0), (2, jm_i 0)] [1, 0] rfl ?_
    exact bX12_result_65 X fu  fu M 0 (jm_inL (by decide) (by decide))
  · skip
    refine j_aload_n (pc := 34) dX12_result_34 rfl (q := 0) rfl ?_
    refine j_dup (pc := 35) dX12_result_35 rfl ?_
    refine j_geti (pc := 36) jv2_0 jm_01 kf_RX12_185 kg2_0_82 dX12_result_36 (fun h3 => ?_)
    refine j_aload_n (pc := 39) dX12_result_39 rfl (q := 0) rfl ?_
    refine j_getr (pc := 40) jv2_0 jm_01 kf_RX12_490 0 kg2_0_80 rfl dX12_result_40 ?_
    refine j_iload_n (pc := 43) dX12_result_43 rfl (q := 1) rfl ?_
    refine j_bald (pc := 44) jv2_67 jm_01 rfl (by decide) ka2_67 dX12_result_44 (fun c4 h5 => ?_)
    refine j_if_eq (tgt := 52) (pc := 45) h5 dX12_result_45 (by decide) (fun c6 => ?_) (fun c6 => ?_)
    · skip
      refine j_iconst (pc := 52) dX12_result_52 ?_
      refine j_iadd (pc := 53) dX12_result_53 ?_
      refine j_put (pc := 54) jv2_0 jm_01 kf_RX12_185 wI2 kp_X12_82 kx2_0_82 (jm_w_in _) rfl rfl dX12_result_54 (fun M7 => ?_)
      refine j_iinc (pc := 57) [(0, jm_vr wd2 X 0 0)] (q := 1) dX12_result_57 rfl (by decide) (fun _ => rfl) (fun v8 h9 => ?_)
      refine j_goto (tgt := 26) (pc := 60) dX12_result_60 (by decide) ?_
      refine j_sub (pc := 26) [(0, jm_vr wd2 X 0 0), (2, jm_i v8)] [1, 0] rfl ?_
      exact hk26 M7 v8 h9
    · skip
      refine j_iconst (pc := 48) dX12_result_48 ?_
      refine j_goto (tgt := 53) (pc := 49) dX12_result_49 (by decide) ?_
      refine j_iadd (pc := 53) dX12_result_53 ?_
      refine j_put (pc := 54) jv2_0 jm_01 kf_RX12_185 wI2 kp_X12_82 kx2_0_82 (jm_w_in _) rfl rfl dX12_result_54 (fun M10 => ?_)
      refine j_iinc (pc := 57) [(0, jm_vr wd2 X 0 0)] (q := 1) dX12_result_57 rfl (by decide) (fun _ => rfl) (fun v11 h12 => ?_)
      refine j_goto (tgt := 26) (pc := 60) dX12_result_60 (by decide) ?_
      refine j_sub (pc := 26) [(0, jm_vr wd2 X 0 0), (2, jm_i v11)] [1, 0] rfl ?_
      exact hk26 M10 v11 h12
theorem bX12_result_26 (X : jm_X) (fu : Nat) : ∀ (n : Nat) (M : jm_M) (l2 : Int) (hl2 : jm_in l2), jm_J wd2 (jm_qi .int) cX12_result 3 RX12 rmX12_result X M [(0, jm_vr wd2 X 0 0), (2, jm_i l2)] [] 26 (fX12_result_26 fu n M l2) := by
  intro n
  induction n with
  | zero => intro M l2 hl2; exact j_none
  | succ n ih => intro M l2 hl2; exact b0X12_result_26 X fu (fX12_result_26 fu n) ih M l2 hl2
set_option maxHeartbeats 4000000 in
set_option maxRecDepth 100000 in
theorem ct_X12_result (fu : Nat) (M : jm_M) (l1 : Int) (hl1 : jm_in l1) : jm_Ci wd2 yX12_result cX12_result 3 (some .int) rmX12_result M (fun G ad => [.ref (ad (jm_r wd2 0 0)), jm_i l1]) (fX12_result fu M l1) := by
  refine jm_met_i (fun X => [(0, jm_vr wd2 X 0 0), (1, jm_i l1)]) (by decide) (fun _ _ => (Nat.le_of_ble_eq_true rfl)) (fun _ => rfl) (fun X => ?_)
  unfold fX12_result
  refine j_aload_n (pc := 0) dX12_result_0 rfl (q := 0) rfl ?_
  refine j_iconst (pc := 1) dX12_result_1 ?_
  refine j_put (pc := 2) jv2_0 jm_01 kf_RX12_3 wI2 kp_X12_0 kx2_0_0 (jm_inL (by decide) (by decide)) rfl rfl dX12_result_2 (fun M1 => ?_)
  refine j_iload_n (pc := 5) dX12_result_5 rfl (q := 1) rfl ?_
  refine j_callSi1 (pc := 6) (ct_X12_isDay M1 l1 hl1) kg_1647 km_X12_isDay kg_1648 rfl rfl ⟨(Nat.le_of_ble_eq_true rfl), (Nat.le_of_ble_eq_true rfl)⟩ rfl rfl (Nat.le_of_ble_eq_true rfl) dX12_result_6 (fun v2 M3 h4 => ?_)
  refine j_if_ne (tgt := 14) (pc := 9) h4 dX12_result_9 (by decide) (fun c5 => ?_) (fun c5 => ?_)
  · skip
    refine j_iconst (pc := 12) dX12_result_12 ?_
    exact j_iret (pc := 13) (jm_inL (by decide) (by decide)) rfl dX12_result_13
  · skip
    refine j_aload_n (pc := 14) dX12_result_14 rfl (q := 0) rfl ?_
    refine j_iload_n (pc := 15) dX12_result_15 rfl (q := 1) rfl ?_
    refine j_callVv1 (pc := 16) (ct_X12_judges fu M3 l1 hl1) kg_1673 km_X12_judges kv_X12_judges rfl rfl ⟨(Nat.le_of_ble_eq_true rfl), (Nat.le_of_ble_eq_true rfl)⟩ jv2_0 jm_01 ko2_0 rfl rfl (Nat.le_of_ble_eq_true rfl) dX12_result_16 (fun v6 M7 => ?_)
    refine j_aload_n (pc := 19) dX12_result_19 rfl (q := 0) rfl ?_
    refine j_iconst (pc := 20) dX12_result_20 ?_
    refine j_put (pc := 21) jv2_0 jm_01 kf_RX12_185 wI2 kp_X12_82 kx2_0_82 (jm_inL (by decide) (by decide)) rfl rfl dX12_result_21 (fun M8 => ?_)
    refine j_iconst (pc := 24) dX12_result_24 ?_
    refine j_istore_n (pc := 25) [(2, jm_i 0), (0, jm_vr wd2 X 0 0), (1, jm_i l1)] dX12_result_25 rfl (by decide) rfl ?_
    refine j_sub (pc := 26) [(0, jm_vr wd2 X 0 0), (2, jm_i 0)] [1, 0] rfl ?_
    exact bX12_result_26 X fu  fu M8 0 (jm_inL (by decide) (by decide))
abbrev rmX12_move : Room := { frames := 8, cells := 0, slots := 0, locals := 193 }
set_option maxHeartbeats 4000000 in
set_option maxRecDepth 100000 in
theorem ct_X12_move (fu : Nat) (M : jm_M) (l1 l2 l3 l4 : Int) (hl1 : jm_in l1) (hl2 : jm_in l2) (hl3 : jm_in l3) (hl4 : jm_in l4) : jm_Ci wd2 yX12_move cX12_move 8 (some .int) rmX12_move M (fun G ad => [.ref (ad (jm_r wd2 0 0)), jm_i l1, jm_i l2, jm_i l3, jm_i l4]) (fX12_move fu M l1 l2 l3 l4) := by
  refine jm_met_i (fun X => [(0, jm_vr wd2 X 0 0), (1, jm_i l1), (2, jm_i l2), (3, jm_i l3), (4, jm_i l4)]) (by decide) (fun _ _ => (Nat.le_of_ble_eq_true rfl)) (fun _ => rfl) (fun X => ?_)
  unfold fX12_move
  refine j_aload_n (pc := 0) dX12_move_0 rfl (q := 0) rfl ?_
  refine j_iconst (pc := 1) dX12_move_1 ?_
  refine j_put (pc := 2) jv2_0 jm_01 kf_RX12_3 wI2 kp_X12_0 kx2_0_0 (jm_inL (by decide) (by decide)) rfl rfl dX12_move_2 (fun M1 => ?_)
  refine j_aload_n (pc := 5) dX12_move_5 rfl (q := 0) rfl ?_
  refine j_iload_n (pc := 6) dX12_move_6 rfl (q := 1) rfl ?_
  refine j_callVi1 (pc := 7) (ct_X12_isCar M1 l1 hl1) kg_1405 km_X12_isCar kv_X12_isCar rfl rfl ⟨(Nat.le_of_ble_eq_true rfl), (Nat.le_of_ble_eq_true rfl)⟩ jv2_0 jm_01 ko2_0 rfl rfl (Nat.le_of_ble_eq_true rfl) dX12_move_7 (fun v2 M3 h4 => ?_)
  refine j_if_eq (tgt := 47) (pc := 10) h4 dX12_move_10 (by decide) (fun c5 => ?_) (fun c5 => ?_)
  · skip
    refine j_iconst (pc := 47) dX12_move_47 ?_
    exact j_iret (pc := 48) (jm_inL (by decide) (by decide)) rfl dX12_move_48
  · skip
    refine j_iload_n (pc := 13) dX12_move_13 rfl (q := 2) rfl ?_
    refine j_i2l (pc := 14) hl2 dX12_move_14 ?_
    refine j_lconst (pc := 15) 0 dX12_move_15 rfl ?_
    refine j_aload_n (pc := 16) dX12_move_16 rfl (q := 0) rfl ?_
    refine j_getr (pc := 17) jv2_0 jm_01 kf_RX12_139 0 kg2_0_31 rfl dX12_move_17 ?_
    refine j_iload_n (pc := 20) dX12_move_20 rfl (q := 1) rfl ?_
    refine j_iald (pc := 21) jv2_26 jm_01 rfl (by decide) ka2_26 dX12_move_21 (fun c6 h7 => ?_)
    refine j_iconst (pc := 22) dX12_move_22 ?_
    refine j_isub (pc := 23) dX12_move_23 ?_
    refine j_i2l (pc := 24) (jm_w_in _) dX12_move_24 ?_
    refine j_callSi3 (pc := 25) (ct_X12_in M3 l2 0 (jm_w ((M3 26 0 l1) - 1)) hl2 (jm_inL (by decide) (by decide)) (jm_w_in _)) kg_1347 km_X12_in kg_1348 rfl rfl ⟨(Nat.le_of_ble_eq_true rfl), (Nat.le_of_ble_eq_true rfl)⟩ rfl rfl (Nat.le_of_ble_eq_true rfl) dX12_move_25 (fun v8 M9 h10 => ?_)
    refine j_if_eq (tgt := 47) (pc := 28) h10 dX12_move_28 (by decide) (fun c11 => ?_) (fun c11 => ?_)
    · skip
      refine j_iconst (pc := 47) dX12_move_47 ?_
      exact j_iret (pc := 48) (jm_inL (by decide) (by decide)) rfl dX12_move_48
    · skip
      refine j_aload_n (pc := 31) dX12_move_31 rfl (q := 0) rfl ?_
      refine j_iload_n (pc := 32) dX12_move_32 rfl (q := 3) rfl ?_
      refine j_callVi1 (pc := 33) (ct_X12_isStopLap M9 l3 hl3) kg_1421 km_X12_isStopLap kv_X12_isStopLap rfl rfl ⟨(Nat.le_of_ble_eq_true rfl), (Nat.le_of_ble_eq_true rfl)⟩ jv2_0 jm_01 ko2_0 rfl rfl (Nat.le_of_ble_eq_true rfl) dX12_move_33 (fun v12 M13 h14 => ?_)
      refine j_if_eq (tgt := 47) (pc := 36) h14 dX12_move_36 (by decide) (fun c15 => ?_) (fun c15 => ?_)
      · skip
        refine j_iconst (pc := 47) dX12_move_47 ?_
        exact j_iret (pc := 48) (jm_inL (by decide) (by decide)) rfl dX12_move_48
      · skip
        refine j_iload (pc := 39) dX12_move_39 (q := 4) rfl ?_
        refine j_callSi1 (pc := 41) (ct_X12_isDay M13 l4 hl4) kg_1647 km_X12_isDay kg_1648 rfl rfl ⟨(Nat.le_of_ble_eq_true rfl), (Nat.le_of_ble_eq_true rfl)⟩ rfl rfl (Nat.le_of_ble_eq_true rfl) dX12_move_41 (fun v16 M17 h18 => ?_)
        refine j_if_ne (tgt := 49) (pc := 44) h18 dX12_move_44 (by decide) (fun c19 => ?_) (fun c19 => ?_)
        · skip
          refine j_iconst (pc := 47) dX12_move_47 ?_
          exact j_iret (pc := 48) (jm_inL (by decide) (by decide)) rfl dX12_move_48
        · skip
          refine j_iconst (pc := 49) dX12_move_49 ?_
          refine j_iload_n (pc := 50) dX12_move_50 rfl (q := 1) rfl ?_
          refine j_imul (pc := 51) dX12_move_51 ?_
          refine j_iload_n (pc := 52) dX12_move_52 rfl (q := 2) rfl ?_
          refine j_iadd (pc := 53) dX12_move_53 ?_
          refine j_nm (pc := 54) (jm_w_in _) (fun v20 h21 => ?_)
          refine j_istore (pc := 54) [(5, jm_i v20), (0, jm_vr wd2 X 0 0), (1, jm_i l1), (2, jm_i l2), (3, jm_i l3), (4, jm_i l4)] dX12_move_54 (by decide) rfl ?_
          refine j_aload_n (pc := 56) dX12_move_56 rfl (q := 1) rfl ?_
          refine j_getr (pc := 57) jv2_0 jm_01 kf_RX12_176 0 kg2_0_32 rfl dX12_move_57 ?_
          refine j_iload (pc := 60) dX12_move_60 (q := 0) rfl ?_
          refine j_iald (pc := 62) jv2_27 jm_01 rfl (by decide) ka2_27 dX12_move_62 (fun c22 h23 => ?_)
          refine j_nm (pc := 63) h23 (fun v24 h25 => ?_)
          refine j_istore (pc := 63) [(6, jm_i v24), (5, jm_i v20), (0, jm_vr wd2 X 0 0), (1, jm_i l1), (2, jm_i l2), (3, jm_i l3), (4, jm_i l4)] dX12_move_63 (by decide) rfl ?_
          refine j_aload_n (pc := 65) dX12_move_65 rfl (q := 2) rfl ?_
          refine j_getr (pc := 66) jv2_0 jm_01 kf_RX12_176 0 kg2_0_32 rfl dX12_move_66 ?_
          refine j_iload (pc := 69) dX12_move_69 (q := 1) rfl ?_
          refine j_iload_n (pc := 71) dX12_move_71 rfl (q := 5) rfl ?_
          refine j_iast (pc := 72) jv2_27 jm_01 rfl (by decide) wI2 ka2_27 hl3 dX12_move_72 (fun c26 M27 => ?_)
          refine j_aload_n (pc := 73) dX12_move_73 rfl (q := 2) rfl ?_
          refine j_iload (pc := 74) dX12_move_74 (q := 6) rfl ?_
          refine j_callVv1 (pc := 76) (ct_X12_judges fu M27 l4 hl4) kg_1673 km_X12_judges kv_X12_judges rfl rfl ⟨(Nat.le_of_ble_eq_true rfl), (Nat.le_of_ble_eq_true rfl)⟩ jv2_0 jm_01 ko2_0 rfl rfl (Nat.le_of_ble_eq_true rfl) dX12_move_76 (fun v28 M29 => ?_)
          refine j_aload_n (pc := 79) dX12_move_79 rfl (q := 2) rfl ?_
          refine j_getr (pc := 80) jv2_0 jm_01 kf_RX12_176 0 kg2_0_32 rfl dX12_move_80 ?_
          refine j_iload (pc := 83) dX12_move_83 (q := 1) rfl ?_
          refine j_iload (pc := 85) dX12_move_85 (q := 0) rfl ?_
          refine j_iast (pc := 87) jv2_27 jm_01 rfl (by decide) wI2 ka2_27 h25 dX12_move_87 (fun c30 M31 => ?_)
          refine j_aload_n (pc := 88) dX12_move_88 rfl (q := 2) rfl ?_
          refine j_iload_n (pc := 89) dX12_move_89 rfl (q := 3) rfl ?_
          refine j_iconst (pc := 90) dX12_move_90 ?_
          refine j_callVi2 (pc := 91) (ct_X12_placeOf fu M31 l1 0 hl1 (jm_inL (by decide) (by decide))) kg_1681 km_X12_placeOf kv_X12_placeOf rfl rfl ⟨(Nat.le_of_ble_eq_true rfl), (Nat.le_of_ble_eq_true rfl)⟩ jv2_0 jm_01 ko2_0 rfl rfl (Nat.le_of_ble_eq_true rfl) dX12_move_91 (fun v32 M33 h34 => ?_)
          refine j_istore (pc := 94) [(7, jm_i v32), (6, jm_i v24), (5, jm_i v20), (0, jm_vr wd2 X 0 0), (1, jm_i l1), (2, jm_i l2), (3, jm_i l3), (4, jm_i l4)] dX12_move_94 (by decide) rfl ?_
          refine j_iload (pc := 96) dX12_move_96 (q := 0) rfl ?_
          refine j_if_ge (tgt := 106) (pc := 98) h34 dX12_move_98 (by decide) (fun c35 => ?_) (fun c35 => ?_)
          · skip
            refine j_iload (pc := 106) dX12_move_106 (q := 0) rfl ?_
            exact j_iret (pc := 108) h34 rfl dX12_move_108
          · skip
            refine j_bipush (pc := 101) (-2) dX12_move_101 (by decide) ?_
            refine j_goto (tgt := 108) (pc := 103) dX12_move_103 (by decide) ?_
            exact j_iret (pc := 108) (jm_inL (by decide) (by decide)) rfl dX12_move_108
abbrev rmX12_isAsked : Room := { frames := 2, cells := 0, slots := 0, locals := 46 }
set_option maxHeartbeats 4000000 in
set_option maxRecDepth 100000 in
theorem ct_X12_isAsked (M : jm_M) (l1 l2 l3 : Int) (hl1 : jm_in l1) (hl2 : jm_in l2) (hl3 : jm_in l3) : jm_Ci wd2 yX12_isAsked cX12_isAsked 4 (some .boolean) rmX12_isAsked M (fun G ad => [.ref (ad (jm_r wd2 0 0)), jm_i l1, jm_i l2, jm_i l3]) (fX12_isAsked M l1 l2 l3) := by
  refine jm_met_i (fun X => [(0, jm_vr wd2 X 0 0), (1, jm_i l1), (2, jm_i l2), (3, jm_i l3)]) (by decide) (fun _ _ => (Nat.le_of_ble_eq_true rfl)) (fun _ => rfl) (fun X => ?_)
  unfold fX12_isAsked
  refine j_aload_n (pc := 0) dX12_isAsked_0 rfl (q := 0) rfl ?_
  refine j_iload_n (pc := 1) dX12_isAsked_1 rfl (q := 1) rfl ?_
  refine j_callVi1 (pc := 2) (ct_X12_isCar M l1 hl1) kg_1405 km_X12_isCar kv_X12_isCar rfl rfl ⟨(Nat.le_of_ble_eq_true rfl), (Nat.le_of_ble_eq_true rfl)⟩ jv2_0 jm_01 ko2_0 rfl rfl (Nat.le_of_ble_eq_true rfl) dX12_isAsked_2 (fun v1 M2 h3 => ?_)
  refine j_if_eq (tgt := 31) (pc := 5) h3 dX12_isAsked_5 (by decide) (fun c4 => ?_) (fun c4 => ?_)
  · skip
    refine j_iconst (pc := 31) dX12_isAsked_31 ?_
    exact j_iret (pc := 32) (jm_inL (by decide) (by decide)) rfl dX12_isAsked_32
  · skip
    refine j_iload_n (pc := 8) dX12_isAsked_8 rfl (q := 2) rfl ?_
    refine j_i2l (pc := 9) hl2 dX12_isAsked_9 ?_
    refine j_lconst (pc := 10) 0 dX12_isAsked_10 rfl ?_
    refine j_ldc2 (pc := 11) 2 kg_1345 (by decide) dX12_isAsked_11 ?_
    refine j_callSi3 (pc := 14) (ct_X12_in M2 l2 0 2 hl2 (jm_inL (by decide) (by decide)) (jm_inL (by decide) (by decide))) kg_1347 km_X12_in kg_1348 rfl rfl ⟨(Nat.le_of_ble_eq_true rfl), (Nat.le_of_ble_eq_true rfl)⟩ rfl rfl (Nat.le_of_ble_eq_true rfl) dX12_isAsked_14 (fun v5 M6 h7 => ?_)
    refine j_if_eq (tgt := 31) (pc := 17) h7 dX12_isAsked_17 (by decide) (fun c8 => ?_) (fun c8 => ?_)
    · skip
      refine j_iconst (pc := 31) dX12_isAsked_31 ?_
      exact j_iret (pc := 32) (jm_inL (by decide) (by decide)) rfl dX12_isAsked_32
    · skip
      refine j_iload_n (pc := 20) dX12_isAsked_20 rfl (q := 3) rfl ?_
      refine j_callSi1 (pc := 21) (ct_X12_isDay M6 l3 hl3) kg_1647 km_X12_isDay kg_1648 rfl rfl ⟨(Nat.le_of_ble_eq_true rfl), (Nat.le_of_ble_eq_true rfl)⟩ rfl rfl (Nat.le_of_ble_eq_true rfl) dX12_isAsked_21 (fun v9 M10 h11 => ?_)
      refine j_if_eq (tgt := 31) (pc := 24) h11 dX12_isAsked_24 (by decide) (fun c12 => ?_) (fun c12 => ?_)
      · skip
        refine j_iconst (pc := 31) dX12_isAsked_31 ?_
        exact j_iret (pc := 32) (jm_inL (by decide) (by decide)) rfl dX12_isAsked_32
      · skip
        refine j_iconst (pc := 27) dX12_isAsked_27 ?_
        refine j_goto (tgt := 32) (pc := 28) dX12_isAsked_28 (by decide) ?_
        exact j_iret (pc := 32) (jm_inL (by decide) (by decide)) rfl dX12_isAsked_32
abbrev rmX12_clears : Room := { frames := 0, cells := 0, slots := 0, locals := 0 }
set_option maxHeartbeats 4000000 in
set_option maxRecDepth 100000 in
theorem b0X12_clears_4 (X : jm_X) (fu : Nat) (k4 : jm_M → Int → Int → jm_R) (hk4 : ∀ (M : jm_M) (l1 l2 : Int) (hl1 : jm_in l1) (hl2 : jm_in l2), jm_J wd2 jm_qv cX12_clears 3 RX12 rmX12_clears X M [(0, jm_vr wd2 X 0 0), (1, jm_i l1), (2, jm_i l2)] [] 4 (k4 M l1 l2)) : ∀ (M : jm_M) (l1 l2 : Int) (hl1 : jm_in l1) (hl2 : jm_in l2), jm_J wd2 jm_qv cX12_clears 3 RX12 rmX12_clears X M [(0, jm_vr wd2 X 0 0), (1, jm_i l1), (2, jm_i l2)] [] 4 (gX12_clears_4 fu k4 M l1 l2) := by
  intro M l1 l2 hl1 hl2
  unfold gX12_clears_4
  refine j_iload_n (pc := 4) dX12_clears_4 rfl (q := 2) rfl ?_
  refine j_iconst (pc := 5) dX12_clears_5 ?_
  refine j_iload_n (pc := 6) dX12_clears_6 rfl (q := 1) rfl ?_
  refine j_imul (pc := 7) dX12_clears_7 ?_
  refine j_iconst (pc := 8) dX12_clears_8 ?_
  refine j_iadd (pc := 9) dX12_clears_9 ?_
  refine j_icmp_ge (tgt := 55) (pc := 10) hl2 (jm_w_in _) dX12_clears_10 (by decide) (fun c1 => ?_) (fun c1 => ?_)
  · skip
    refine j_aload_n (pc := 55) dX12_clears_55 rfl (q := 0) rfl ?_
    refine j_getr (pc := 56) jv2_0 jm_01 kf_RX12_520 0 kg2_0_87 rfl dX12_clears_56 ?_
    refine j_iload_n (pc := 59) dX12_clears_59 rfl (q := 1) rfl ?_
    refine j_aload_n (pc := 60) dX12_clears_60 rfl (q := 0) rfl ?_
    refine j_getr (pc := 61) jv2_0 jm_01 kf_RX12_139 0 kg2_0_31 rfl dX12_clears_61 ?_
    refine j_iload_n (pc := 64) dX12_clears_64 rfl (q := 1) rfl ?_
    refine j_iald (pc := 65) jv2_26 jm_01 rfl (by decide) ka2_26 dX12_clears_65 (fun c2 h3 => ?_)
    refine j_iast (pc := 66) jv2_73 jm_01 rfl (by decide) wI2 ka2_73 h3 dX12_clears_66 (fun c4 M5 => ?_)
    refine j_aload_n (pc := 67) dX12_clears_67 rfl (q := 0) rfl ?_
    refine j_getr (pc := 68) jv2_0 jm_01 kf_RX12_139 0 kg2_0_31 rfl dX12_clears_68 ?_
    refine j_iload_n (pc := 71) dX12_clears_71 rfl (q := 1) rfl ?_
    refine j_iconst (pc := 72) dX12_clears_72 ?_
    refine j_iast (pc := 73) jv2_26 jm_01 rfl (by decide) wI2 ka2_26 (jm_inL (by decide) (by decide)) dX12_clears_73 (fun c6 M7 => ?_)
    refine j_aload_n (pc := 74) dX12_clears_74 rfl (q := 0) rfl ?_
    refine j_getr (pc := 75) jv2_0 jm_01 kf_RX12_429 0 kg2_0_71 rfl dX12_clears_75 ?_
    refine j_iload_n (pc := 78) dX12_clears_78 rfl (q := 1) rfl ?_
    refine j_iconst (pc := 79) dX12_clears_79 ?_
    refine j_bast (pc := 80) jv2_60 jm_01 rfl (by decide) wI2 ka2_60 (jm_inL (by decide) (by decide)) dX12_clears_80 (fun c8 c10 M9 => ?_)
    exact j_vret (pc := 81) dX12_clears_81
  · skip
    refine j_aload_n (pc := 13) dX12_clears_13 rfl (q := 0) rfl ?_
    refine j_getr (pc := 14) jv2_0 jm_01 kf_RX12_511 0 kg2_0_84 rfl dX12_clears_14 ?_
    refine j_iload_n (pc := 17) dX12_clears_17 rfl (q := 2) rfl ?_
    refine j_aload_n (pc := 18) dX12_clears_18 rfl (q := 0) rfl ?_
    refine j_getr (pc := 19) jv2_0 jm_01 kf_RX12_176 0 kg2_0_32 rfl dX12_clears_19 ?_
    refine j_iload_n (pc := 22) dX12_clears_22 rfl (q := 2) rfl ?_
    refine j_iald (pc := 23) jv2_27 jm_01 rfl (by decide) ka2_27 dX12_clears_23 (fun c11 h12 => ?_)
    refine j_iast (pc := 24) jv2_70 jm_01 rfl (by decide) wI2 ka2_70 h12 dX12_clears_24 (fun c13 M14 => ?_)
    refine j_aload_n (pc := 25) dX12_clears_25 rfl (q := 0) rfl ?_
    refine j_getr (pc := 26) jv2_0 jm_01 kf_RX12_514 0 kg2_0_85 rfl dX12_clears_26 ?_
    refine j_iload_n (pc := 29) dX12_clears_29 rfl (q := 2) rfl ?_
    refine j_aload_n (pc := 30) dX12_clears_30 rfl (q := 0) rfl ?_
    refine j_getr (pc := 31) jv2_0 jm_01 kf_RX12_179 0 kg2_0_33 rfl dX12_clears_31 ?_
    refine j_iload_n (pc := 34) dX12_clears_34 rfl (q := 2) rfl ?_
    refine j_iald (pc := 35) jv2_28 jm_01 rfl (by decide) ka2_28 dX12_clears_35 (fun c15 h16 => ?_)
    refine j_iast (pc := 36) jv2_71 jm_01 rfl (by decide) wI2 ka2_71 h16 dX12_clears_36 (fun c17 M18 => ?_)
    refine j_aload_n (pc := 37) dX12_clears_37 rfl (q := 0) rfl ?_
    refine j_getr (pc := 38) jv2_0 jm_01 kf_RX12_517 0 kg2_0_86 rfl dX12_clears_38 ?_
    refine j_iload_n (pc := 41) dX12_clears_41 rfl (q := 2) rfl ?_
    refine j_aload_n (pc := 42) dX12_clears_42 rfl (q := 0) rfl ?_
    refine j_getr (pc := 43) jv2_0 jm_01 kf_RX12_182 0 kg2_0_34 rfl dX12_clears_43 ?_
    refine j_iload_n (pc := 46) dX12_clears_46 rfl (q := 2) rfl ?_
    refine j_iald (pc := 47) jv2_29 jm_01 rfl (by decide) ka2_29 dX12_clears_47 (fun c19 h20 => ?_)
    refine j_iast (pc := 48) jv2_72 jm_01 rfl (by decide) wI2 ka2_72 h20 dX12_clears_48 (fun c21 M22 => ?_)
    refine j_iinc (pc := 49) [(0, jm_vr wd2 X 0 0), (1, jm_i l1)] (q := 2) dX12_clears_49 rfl (by decide) (fun _ => rfl) (fun v23 h24 => ?_)
    refine j_goto (tgt := 4) (pc := 52) dX12_clears_52 (by decide) ?_
    refine j_sub (pc := 4) [(0, jm_vr wd2 X 0 0), (1, jm_i l1), (2, jm_i v23)] [1, 2, 0] rfl ?_
    exact hk4 M22 l1 v23 hl1 h24
theorem bX12_clears_4 (X : jm_X) (fu : Nat) : ∀ (n : Nat) (M : jm_M) (l1 l2 : Int) (hl1 : jm_in l1) (hl2 : jm_in l2), jm_J wd2 jm_qv cX12_clears 3 RX12 rmX12_clears X M [(0, jm_vr wd2 X 0 0), (1, jm_i l1), (2, jm_i l2)] [] 4 (fX12_clears_4 fu n M l1 l2) := by
  intro n
  induction n with
  | zero => intro M l1 l2 hl1 hl2; exact j_none
  | succ n ih => intro M l1 l2 hl1 hl2; exact b0X12_clears_4 X fu (fX12_clears_4 fu n) ih M l1 l2 hl1 hl2
set_option maxHeartbeats 4000000 in
set_option maxRecDepth 100000 in
theorem ct_X12_clears (fu : Nat) (M : jm_M) (l1 : Int) (hl1 : jm_in l1) : jm_Cv wd2 yX12_clears cX12_clears 3 none rmX12_clears M (fun G ad => [.ref (ad (jm_r wd2 0 0)), jm_i l1]) (fX12_clears fu M l1) := by
  refine jm_met_v (fun X => [(0, jm_vr wd2 X 0 0), (1, jm_i l1)]) (by decide) (fun _ _ => (Nat.le_of_ble_eq_true rfl)) (fun _ => rfl) (fun X => ?_)
  unfold fX12_clears
  refine j_iconst (pc := 0) dX12_clears_0 ?_
  refine j_iload_n (pc := 1) dX12_clears_1 rfl (q := 1) rfl ?_
  refine j_imul (pc := 2) dX12_clears_2 ?_
  refine j_nm (pc := 3) (jm_w_in _) (fun v1 h2 => ?_)
  refine j_istore_n (pc := 3) [(2, jm_i v1), (0, jm_vr wd2 X 0 0), (1, jm_i l1)] dX12_clears_3 rfl (by decide) rfl ?_
  refine j_sub (pc := 4) [(0, jm_vr wd2 X 0 0), (1, jm_i l1), (2, jm_i v1)] [1, 2, 0] rfl ?_
  exact bX12_clears_4 X fu  fu M l1 v1 hl1 h2
abbrev rmX12_putsBack : Room := { frames := 0, cells := 0, slots := 0, locals := 0 }
set_option maxHeartbeats 4000000 in
set_option maxRecDepth 100000 in
theorem b0X12_putsBack_4 (X : jm_X) (fu : Nat) (k4 : jm_M → Int → Int → jm_R) (hk4 : ∀ (M : jm_M) (l1 l2 : Int) (hl1 : jm_in l1) (hl2 : jm_in l2), jm_J wd2 jm_qv cX12_putsBack 3 RX12 rmX12_putsBack X M [(0, jm_vr wd2 X 0 0), (1, jm_i l1), (2, jm_i l2)] [] 4 (k4 M l1 l2)) : ∀ (M : jm_M) (l1 l2 : Int) (hl1 : jm_in l1) (hl2 : jm_in l2), jm_J wd2 jm_qv cX12_putsBack 3 RX12 rmX12_putsBack X M [(0, jm_vr wd2 X 0 0), (1, jm_i l1), (2, jm_i l2)] [] 4 (gX12_putsBack_4 fu k4 M l1 l2) := by
  intro M l1 l2 hl1 hl2
  unfold gX12_putsBack_4
  refine j_iload_n (pc := 4) dX12_putsBack_4 rfl (q := 2) rfl ?_
  refine j_iconst (pc := 5) dX12_putsBack_5 ?_
  refine j_iload_n (pc := 6) dX12_putsBack_6 rfl (q := 1) rfl ?_
  refine j_imul (pc := 7) dX12_putsBack_7 ?_
  refine j_iconst (pc := 8) dX12_putsBack_8 ?_
  refine j_iadd (pc := 9) dX12_putsBack_9 ?_
  refine j_icmp_ge (tgt := 55) (pc := 10) hl2 (jm_w_in _) dX12_putsBack_10 (by decide) (fun c1 => ?_) (fun c1 => ?_)
  · skip
    refine j_aload_n (pc := 55) dX12_putsBack_55 rfl (q := 0) rfl ?_
    refine j_getr (pc := 56) jv2_0 jm_01 kf_RX12_139 0 kg2_0_31 rfl dX12_putsBack_56 ?_
    refine j_iload_n (pc := 59) dX12_putsBack_59 rfl (q := 1) rfl ?_
    refine j_aload_n (pc := 60) dX12_putsBack_60 rfl (q := 0) rfl ?_
    refine j_getr (pc := 61) jv2_0 jm_01 kf_RX12_520 0 kg2_0_87 rfl dX12_putsBack_61 ?_
    refine j_iload_n (pc := 64) dX12_putsBack_64 rfl (q := 1) rfl ?_
    refine j_iald (pc := 65) jv2_73 jm_01 rfl (by decide) ka2_73 dX12_putsBack_65 (fun c2 h3 => ?_)
    refine j_iast (pc := 66) jv2_26 jm_01 rfl (by decide) wI2 ka2_26 h3 dX12_putsBack_66 (fun c4 M5 => ?_)
    refine j_aload_n (pc := 67) dX12_putsBack_67 rfl (q := 0) rfl ?_
    refine j_getr (pc := 68) jv2_0 jm_01 kf_RX12_429 0 kg2_0_71 rfl dX12_putsBack_68 ?_
    refine j_iload_n (pc := 71) dX12_putsBack_71 rfl (q := 1) rfl ?_
    refine j_iconst (pc := 72) dX12_putsBack_72 ?_
    refine j_bast (pc := 73) jv2_60 jm_01 rfl (by decide) wI2 ka2_60 (jm_inL (by decide) (by decide)) dX12_putsBack_73 (fun c6 c8 M7 => ?_)
    exact j_vret (pc := 74) dX12_putsBack_74
  · skip
    refine j_aload_n (pc := 13) dX12_putsBack_13 rfl (q := 0) rfl ?_
    refine j_getr (pc := 14) jv2_0 jm_01 kf_RX12_176 0 kg2_0_32 rfl dX12_putsBack_14 ?_
    refine j_iload_n (pc := 17) dX12_putsBack_17 rfl (q := 2) rfl ?_
    refine j_aload_n (pc := 18) dX12_putsBack_18 rfl (q := 0) rfl ?_
    refine j_getr (pc := 19) jv2_0 jm_01 kf_RX12_511 0 kg2_0_84 rfl dX12_putsBack_19 ?_
    refine j_iload_n (pc := 22) dX12_putsBack_22 rfl (q := 2) rfl ?_
    refine j_iald (pc := 23) jv2_70 jm_01 rfl (by decide) ka2_70 dX12_putsBack_23 (fun c9 h10 => ?_)
    refine j_iast (pc := 24) jv2_27 jm_01 rfl (by decide) wI2 ka2_27 h10 dX12_putsBack_24 (fun c11 M12 => ?_)
    refine j_aload_n (pc := 25) dX12_putsBack_25 rfl (q := 0) rfl ?_
    refine j_getr (pc := 26) jv2_0 jm_01 kf_RX12_179 0 kg2_0_33 rfl dX12_putsBack_26 ?_
    refine j_iload_n (pc := 29) dX12_putsBack_29 rfl (q := 2) rfl ?_
    refine j_aload_n (pc := 30) dX12_putsBack_30 rfl (q := 0) rfl ?_
    refine j_getr (pc := 31) jv2_0 jm_01 kf_RX12_514 0 kg2_0_85 rfl dX12_putsBack_31 ?_
    refine j_iload_n (pc := 34) dX12_putsBack_34 rfl (q := 2) rfl ?_
    refine j_iald (pc := 35) jv2_71 jm_01 rfl (by decide) ka2_71 dX12_putsBack_35 (fun c13 h14 => ?_)
    refine j_iast (pc := 36) jv2_28 jm_01 rfl (by decide) wI2 ka2_28 h14 dX12_putsBack_36 (fun c15 M16 => ?_)
    refine j_aload_n (pc := 37) dX12_putsBack_37 rfl (q := 0) rfl ?_
    refine j_getr (pc := 38) jv2_0 jm_01 kf_RX12_182 0 kg2_0_34 rfl dX12_putsBack_38 ?_
    refine j_iload_n (pc := 41) dX12_putsBack_41 rfl (q := 2) rfl ?_
    refine j_aload_n (pc := 42) dX12_putsBack_42 rfl (q := 0) rfl ?_
    refine j_getr (pc := 43) jv2_0 jm_01 kf_RX12_517 0 kg2_0_86 rfl dX12_putsBack_43 ?_
    refine j_iload_n (pc := 46) dX12_putsBack_46 rfl (q := 2) rfl ?_
    refine j_iald (pc := 47) jv2_72 jm_01 rfl (by decide) ka2_72 dX12_putsBack_47 (fun c17 h18 => ?_)
    refine j_iast (pc := 48) jv2_29 jm_01 rfl (by decide) wI2 ka2_29 h18 dX12_putsBack_48 (fun c19 M20 => ?_)
    refine j_iinc (pc := 49) [(0, jm_vr wd2 X 0 0), (1, jm_i l1)] (q := 2) dX12_putsBack_49 rfl (by decide) (fun _ => rfl) (fun v21 h22 => ?_)
    refine j_goto (tgt := 4) (pc := 52) dX12_putsBack_52 (by decide) ?_
    refine j_sub (pc := 4) [(0, jm_vr wd2 X 0 0), (1, jm_i l1), (2, jm_i v21)] [1, 2, 0] rfl ?_
    exact hk4 M20 l1 v21 hl1 h22
theorem bX12_putsBack_4 (X : jm_X) (fu : Nat) : ∀ (n : Nat) (M : jm_M) (l1 l2 : Int) (hl1 : jm_in l1) (hl2 : jm_in l2), jm_J wd2 jm_qv cX12_putsBack 3 RX12 rmX12_putsBack X M [(0, jm_vr wd2 X 0 0), (1, jm_i l1), (2, jm_i l2)] [] 4 (fX12_putsBack_4 fu n M l1 l2) := by
  intro n
  induction n with
  | zero => intro M l1 l2 hl1 hl2; exact j_none
  | succ n ih => intro M l1 l2 hl1 hl2; exact b0X12_putsBack_4 X fu (fX12_putsBack_4 fu n) ih M l1 l2 hl1 hl2
set_option maxHeartbeats 4000000 in
set_option maxRecDepth 100000 in
theorem ct_X12_putsBack (fu : Nat) (M : jm_M) (l1 : Int) (hl1 : jm_in l1) : jm_Cv wd2 yX12_putsBack cX12_putsBack 3 none rmX12_putsBack M (fun G ad => [.ref (ad (jm_r wd2 0 0)), jm_i l1]) (fX12_putsBack fu M l1) := by
  refine jm_met_v (fun X => [(0, jm_vr wd2 X 0 0), (1, jm_i l1)]) (by decide) (fun _ _ => (Nat.le_of_ble_eq_true rfl)) (fun _ => rfl) (fun X => ?_)
  unfold fX12_putsBack
  refine j_iconst (pc := 0) dX12_putsBack_0 ?_
  refine j_iload_n (pc := 1) dX12_putsBack_1 rfl (q := 1) rfl ?_
  refine j_imul (pc := 2) dX12_putsBack_2 ?_
  refine j_nm (pc := 3) (jm_w_in _) (fun v1 h2 => ?_)
  refine j_istore_n (pc := 3) [(2, jm_i v1), (0, jm_vr wd2 X 0 0), (1, jm_i l1)] dX12_putsBack_3 rfl (by decide) rfl ?_
  refine j_sub (pc := 4) [(0, jm_vr wd2 X 0 0), (1, jm_i l1), (2, jm_i v1)] [1, 2, 0] rfl ?_
  exact bX12_putsBack_4 X fu  fu M l1 v1 hl1 h2
abbrev rmX12_isAhead : Room := { frames := 0, cells := 0, slots := 0, locals := 0 }
set_option maxHeartbeats 4000000 in
set_option maxRecDepth 100000 in
theorem ct_X12_isAhead (M : jm_M) (l0 l1 l2 l3 : Int) (hl0 : jm_in l0) (hl1 : jm_in l1) (hl2 : jm_in l2) (hl3 : jm_in l3) : jm_Ci wd2 yX12_isAhead cX12_isAhead 4 (some .boolean) rmX12_isAhead M (fun G ad => [jm_i l0, jm_i l1, jm_i l2, jm_i l3]) (fX12_isAhead M l0 l1 l2 l3) := by
  refine jm_met_i (fun X => [(0, jm_i l0), (1, jm_i l1), (2, jm_i l2), (3, jm_i l3)]) (by decide) (fun _ _ => (Nat.le_of_ble_eq_true rfl)) (fun _ => rfl) (fun X => ?_)
  unfold fX12_isAhead
  refine j_iload_n (pc := 0) dX12_isAhead_0 rfl (q := 0) rfl ?_
  refine j_if_lt (tgt := 8) (pc := 1) hl0 dX12_isAhead_1 (by decide) (fun c1 => ?_) (fun c1 => ?_)
  · skip
    refine j_iload_n (pc := 8) dX12_isAhead_8 rfl (q := 0) rfl ?_
    refine j_if_lt (tgt := 16) (pc := 9) hl0 dX12_isAhead_9 (by decide) (fun c2 => ?_) (fun c2 => ?_)
    · skip
      refine j_iconst (pc := 16) dX12_isAhead_16 ?_
      exact j_iret (pc := 17) (jm_inL (by decide) (by decide)) rfl dX12_isAhead_17
    · skip
      refine j_iconst (pc := 12) dX12_isAhead_12 ?_
      refine j_goto (tgt := 17) (pc := 13) dX12_isAhead_13 (by decide) ?_
      exact j_iret (pc := 17) (jm_inL (by decide) (by decide)) rfl dX12_isAhead_17
  · skip
    refine j_iload_n (pc := 4) dX12_isAhead_4 rfl (q := 2) rfl ?_
    refine j_if_ge (tgt := 18) (pc := 5) hl2 dX12_isAhead_5 (by decide) (fun c3 => ?_) (fun c3 => ?_)
    · skip
      refine j_iload_n (pc := 18) dX12_isAhead_18 rfl (q := 0) rfl ?_
      refine j_iload_n (pc := 19) dX12_isAhead_19 rfl (q := 2) rfl ?_
      refine j_icmp_lt (tgt := 33) (pc := 20) hl0 hl2 dX12_isAhead_20 (by decide) (fun c4 => ?_) (fun c4 => ?_)
      · skip
        refine j_iconst (pc := 33) dX12_isAhead_33 ?_
        refine j_goto (tgt := 38) (pc := 34) dX12_isAhead_34 (by decide) ?_
        exact j_iret (pc := 38) (jm_inL (by decide) (by decide)) rfl dX12_isAhead_38
      · skip
        refine j_iload_n (pc := 23) dX12_isAhead_23 rfl (q := 0) rfl ?_
        refine j_iload_n (pc := 24) dX12_isAhead_24 rfl (q := 2) rfl ?_
        refine j_icmp_ne (tgt := 37) (pc := 25) hl0 hl2 dX12_isAhead_25 (by decide) (fun c5 => ?_) (fun c5 => ?_)
        · skip
          refine j_iload_n (pc := 28) dX12_isAhead_28 rfl (q := 1) rfl ?_
          refine j_iload_n (pc := 29) dX12_isAhead_29 rfl (q := 3) rfl ?_
          refine j_icmp_ge (tgt := 37) (pc := 30) hl1 hl3 dX12_isAhead_30 (by decide) (fun c6 => ?_) (fun c6 => ?_)
          · skip
            refine j_iconst (pc := 37) dX12_isAhead_37 ?_
            exact j_iret (pc := 38) (jm_inL (by decide) (by decide)) rfl dX12_isAhead_38
          · skip
            refine j_iconst (pc := 33) dX12_isAhead_33 ?_
            refine j_goto (tgt := 38) (pc := 34) dX12_isAhead_34 (by decide) ?_
            exact j_iret (pc := 38) (jm_inL (by decide) (by decide)) rfl dX12_isAhead_38
        · skip
          refine j_iconst (pc := 37) dX12_isAhead_37 ?_
          exact j_iret (pc := 38) (jm_inL (by decide) (by decide)) rfl dX12_isAhead_38
    · skip
      refine j_iload_n (pc := 8) dX12_isAhead_8 rfl (q := 0) rfl ?_
      refine j_if_lt (tgt := 16) (pc := 9) hl0 dX12_isAhead_9 (by decide) (fun c7 => ?_) (fun c7 => ?_)
      · skip
        refine j_iconst (pc := 16) dX12_isAhead_16 ?_
        exact j_iret (pc := 17) (jm_inL (by decide) (by decide)) rfl dX12_isAhead_17
      · skip
        refine j_iconst (pc := 12) dX12_isAhead_12 ?_
        refine j_goto (tgt := 17) (pc := 13) dX12_isAhead_13 (by decide) ?_
        exact j_iret (pc := 17) (jm_inL (by decide) (by decide)) rfl dX12_isAhead_17
abbrev rmX12_tries : Room := { frames := 8, cells := 0, slots := 0, locals := 193 }
set_option maxHeartbeats 4000000 in
set_option maxRecDepth 100000 in
theorem bX12_tries_82 (X : jm_X) (fu : Nat) : ∀ (M : jm_M) (l1 l4 l5 l6 l7 l8 : Int) (hl1 : jm_in l1) (hl4 : jm_in l4) (hl5 : jm_in l5) (hl6 : jm_in l6) (hl7 : jm_in l7) (hl8 : jm_in l8), jm_J wd2 jm_qv cX12_tries 9 RX12 rmX12_tries X M [(0, jm_vr wd2 X 0 0), (1, jm_i l1), (4, jm_i l4), (5, jm_i l5), (6, jm_i l6), (7, jm_i l7), (8, jm_i l8)] [] 82 (gX12_tries_82 fu M l1 l4 l5 l6 l7 l8) := by
  intro M l1 l4 l5 l6 l7 l8 hl1 hl4 hl5 hl6 hl7 hl8
  unfold gX12_tries_82
  refine j_aload_n (pc := 82) dX12_tries_82 rfl (q := 0) rfl ?_
  refine j_iconst (pc := 83) dX12_tries_83 ?_
  refine j_put (pc := 84) jv2_0 jm_01 kf_RX12_523 wI2 kp_X12_88 kx2_0_88 (jm_inL (by decide) (by decide)) rfl rfl dX12_tries_84 (fun M1 => ?_)
  refine j_aload_n (pc := 87) dX12_tries_87 rfl (q := 0) rfl ?_
  refine j_iload (pc := 88) dX12_tries_88 (q := 6) rfl ?_
  refine j_put (pc := 90) jv2_0 jm_01 kf_RX12_527 wI2 kp_X12_89 kx2_0_89 hl8 rfl rfl dX12_tries_90 (fun M2 => ?_)
  refine j_aload_n (pc := 93) dX12_tries_93 rfl (q := 0) rfl ?_
  refine j_aload_n (pc := 94) dX12_tries_94 rfl (q := 0) rfl ?_
  refine j_getr (pc := 95) jv2_0 jm_01 kf_RX12_493 0 kg2_0_81 rfl dX12_tries_95 ?_
  refine j_iload_n (pc := 98) dX12_tries_98 rfl (q := 1) rfl ?_
  refine j_iald (pc := 99) jv2_68 jm_01 rfl (by decide) ka2_68 dX12_tries_99 (fun c3 h4 => ?_)
  refine j_put (pc := 100) jv2_0 jm_01 kf_RX12_530 wI2 kp_X12_90 kx2_0_90 h4 rfl rfl dX12_tries_100 (fun M5 => ?_)
  refine j_aload_n (pc := 103) dX12_tries_103 rfl (q := 0) rfl ?_
  refine j_getr (pc := 104) jv2_0 jm_01 kf_RX12_537 0 kg2_0_91 rfl dX12_tries_104 ?_
  refine j_iconst (pc := 107) dX12_tries_107 ?_
  refine j_iload (pc := 108) dX12_tries_108 (q := 2) rfl ?_
  refine j_iast (pc := 110) jv2_74 jm_01 rfl (by decide) wI2 ka2_74 hl4 dX12_tries_110 (fun c6 M7 => ?_)
  refine j_aload_n (pc := 111) dX12_tries_111 rfl (q := 0) rfl ?_
  refine j_getr (pc := 112) jv2_0 jm_01 kf_RX12_537 0 kg2_0_91 rfl dX12_tries_112 ?_
  refine j_iconst (pc := 115) dX12_tries_115 ?_
  refine j_iload (pc := 116) dX12_tries_116 (q := 3) rfl ?_
  refine j_iast (pc := 118) jv2_74 jm_01 rfl (by decide) wI2 ka2_74 hl5 dX12_tries_118 (fun c8 M9 => ?_)
  refine j_aload_n (pc := 119) dX12_tries_119 rfl (q := 0) rfl ?_
  refine j_getr (pc := 120) jv2_0 jm_01 kf_RX12_540 0 kg2_0_92 rfl dX12_tries_120 ?_
  refine j_iconst (pc := 123) dX12_tries_123 ?_
  refine j_iload (pc := 124) dX12_tries_124 (q := 4) rfl ?_
  refine j_iast (pc := 126) jv2_75 jm_01 rfl (by decide) wI2 ka2_75 hl6 dX12_tries_126 (fun c10 M11 => ?_)
  refine j_aload_n (pc := 127) dX12_tries_127 rfl (q := 0) rfl ?_
  refine j_getr (pc := 128) jv2_0 jm_01 kf_RX12_540 0 kg2_0_92 rfl dX12_tries_128 ?_
  refine j_iconst (pc := 131) dX12_tries_131 ?_
  refine j_iload (pc := 132) dX12_tries_132 (q := 5) rfl ?_
  refine j_iast (pc := 134) jv2_75 jm_01 rfl (by decide) wI2 ka2_75 hl7 dX12_tries_134 (fun c12 M13 => ?_)
  exact j_vret (pc := 135) dX12_tries_135
set_option maxHeartbeats 4000000 in
set_option maxRecDepth 100000 in
theorem bX12_tries_40 (X : jm_X) (fu : Nat) : ∀ (M : jm_M) (l1 l2 l4 l5 l6 l7 : Int) (hl1 : jm_in l1) (hl2 : jm_in l2) (hl4 : jm_in l4) (hl5 : jm_in l5) (hl6 : jm_in l6) (hl7 : jm_in l7), jm_J wd2 jm_qv cX12_tries 9 RX12 rmX12_tries X M [(0, jm_vr wd2 X 0 0), (1, jm_i l1), (2, jm_i l2), (4, jm_i l4), (5, jm_i l5), (6, jm_i l6), (7, jm_i l7)] [] 40 (gX12_tries_40 fu M l1 l2 l4 l5 l6 l7) := by
  intro M l1 l2 l4 l5 l6 l7 hl1 hl2 hl4 hl5 hl6 hl7
  unfold gX12_tries_40
  refine j_aload_n (pc := 40) dX12_tries_40 rfl (q := 0) rfl ?_
  refine j_iload_n (pc := 41) dX12_tries_41 rfl (q := 2) rfl ?_
  refine j_callVv1 (pc := 42) (ct_X12_judges fu M l2 hl2) kg_1673 km_X12_judges kv_X12_judges rfl rfl ⟨(Nat.le_of_ble_eq_true rfl), (Nat.le_of_ble_eq_true rfl)⟩ jv2_0 jm_01 ko2_0 rfl rfl (Nat.le_of_ble_eq_true rfl) dX12_tries_42 (fun v1 M2 => ?_)
  refine j_aload_n (pc := 45) dX12_tries_45 rfl (q := 0) rfl ?_
  refine j_iload_n (pc := 46) dX12_tries_46 rfl (q := 1) rfl ?_
  refine j_iconst (pc := 47) dX12_tries_47 ?_
  refine j_callVi2 (pc := 48) (ct_X12_placeOf fu M2 l1 0 hl1 (jm_inL (by decide) (by decide))) kg_1681 km_X12_placeOf kv_X12_placeOf rfl rfl ⟨(Nat.le_of_ble_eq_true rfl), (Nat.le_of_ble_eq_true rfl)⟩ jv2_0 jm_01 ko2_0 rfl rfl (Nat.le_of_ble_eq_true rfl) dX12_tries_48 (fun v3 M4 h5 => ?_)
  refine j_istore (pc := 51) [(8, jm_i v3), (0, jm_vr wd2 X 0 0), (1, jm_i l1), (2, jm_i l2), (4, jm_i l4), (5, jm_i l5), (6, jm_i l6), (7, jm_i l7)] dX12_tries_51 (by decide) rfl ?_
  refine j_aload_n (pc := 53) dX12_tries_53 rfl (q := 1) rfl ?_
  refine j_geti (pc := 54) jv2_0 jm_01 kf_RX12_523 kg2_0_88 dX12_tries_54 (fun h6 => ?_)
  refine j_if_eq (tgt := 82) (pc := 57) h6 dX12_tries_57 (by decide) (fun c7 => ?_) (fun c7 => ?_)
  · skip
    refine j_sub (pc := 82) [(0, jm_vr wd2 X 0 0), (1, jm_i l1), (4, jm_i l4), (5, jm_i l5), (6, jm_i l6), (7, jm_i l7), (8, jm_i v3)] [1, 2, 4, 5, 6, 7, 0] rfl ?_
    exact bX12_tries_82 X fu  M4 l1 l4 l5 l6 l7 v3 hl1 hl4 hl5 hl6 hl7 h5
  · skip
    refine j_iload (pc := 60) dX12_tries_60 (q := 0) rfl ?_
    refine j_aload_n (pc := 62) dX12_tries_62 rfl (q := 1) rfl ?_
    refine j_getr (pc := 63) jv2_0 jm_01 kf_RX12_493 0 kg2_0_81 rfl dX12_tries_63 ?_
    refine j_iload_n (pc := 66) dX12_tries_66 rfl (q := 2) rfl ?_
    refine j_iald (pc := 67) jv2_68 jm_01 rfl (by decide) ka2_68 dX12_tries_67 (fun c8 h9 => ?_)
    refine j_aload_n (pc := 68) dX12_tries_68 rfl (q := 1) rfl ?_
    refine j_geti (pc := 69) jv2_0 jm_01 kf_RX12_527 kg2_0_89 dX12_tries_69 (fun h10 => ?_)
    refine j_aload_n (pc := 72) dX12_tries_72 rfl (q := 1) rfl ?_
    refine j_geti (pc := 73) jv2_0 jm_01 kf_RX12_530 kg2_0_90 dX12_tries_73 (fun h11 => ?_)
    refine j_callSi4 (pc := 76) (ct_X12_isAhead M4 v3 (M4 68 0 l1) (M4 0 0 89) (M4 0 0 90) h5 h9 h10 h11) kg_1725 km_X12_isAhead kg_1726 rfl rfl ⟨(Nat.le_of_ble_eq_true rfl), (Nat.le_of_ble_eq_true rfl)⟩ rfl rfl (Nat.le_of_ble_eq_true rfl) dX12_tries_76 (fun v12 M13 h14 => ?_)
    refine j_if_eq (tgt := 135) (pc := 79) h14 dX12_tries_79 (by decide) (fun c15 => ?_) (fun c15 => ?_)
    · skip
      exact j_vret (pc := 135) dX12_tries_135
    · skip
      refine j_sub (pc := 82) [(0, jm_vr wd2 X 0 0), (1, jm_i l1), (4, jm_i l4), (5, jm_i l5), (6, jm_i l6), (7, jm_i l7), (8, jm_i v3)] [1, 2, 4, 5, 6, 7, 0] rfl ?_
      exact bX12_tries_82 X fu  M13 l1 l4 l5 l6 l7 v3 hl1 hl4 hl5 hl6 hl7 h5
set_option maxHeartbeats 4000000 in
set_option maxRecDepth 100000 in
theorem bX12_tries_23 (X : jm_X) (fu : Nat) : ∀ (M : jm_M) (l1 l2 l3 l4 l5 l6 l7 : Int) (hl1 : jm_in l1) (hl2 : jm_in l2) (hl3 : jm_in l3) (hl4 : jm_in l4) (hl5 : jm_in l5) (hl6 : jm_in l6) (hl7 : jm_in l7), jm_J wd2 jm_qv cX12_tries 9 RX12 rmX12_tries X M [(0, jm_vr wd2 X 0 0), (1, jm_i l1), (2, jm_i l2), (3, jm_i l3), (4, jm_i l4), (5, jm_i l5), (6, jm_i l6), (7, jm_i l7)] [] 23 (gX12_tries_23 fu M l1 l2 l3 l4 l5 l6 l7) := by
  intro M l1 l2 l3 l4 l5 l6 l7 hl1 hl2 hl3 hl4 hl5 hl6 hl7
  unfold gX12_tries_23
  refine j_iload_n (pc := 23) dX12_tries_23 rfl (q := 3) rfl ?_
  refine j_iconst (pc := 24) dX12_tries_24 ?_
  refine j_icmp_le (tgt := 40) (pc := 25) hl3 (jm_inL (by decide) (by decide)) dX12_tries_25 (by decide) (fun c1 => ?_) (fun c1 => ?_)
  · skip
    refine j_sub (pc := 40) [(0, jm_vr wd2 X 0 0), (1, jm_i l1), (2, jm_i l2), (4, jm_i l4), (5, jm_i l5), (6, jm_i l6), (7, jm_i l7)] [0, 1, 2, 4, 5, 6, 7] rfl ?_
    exact bX12_tries_40 X fu  M l1 l2 l4 l5 l6 l7 hl1 hl2 hl4 hl5 hl6 hl7
  · skip
    refine j_aload_n (pc := 28) dX12_tries_28 rfl (q := 0) rfl ?_
    refine j_iload_n (pc := 29) dX12_tries_29 rfl (q := 1) rfl ?_
    refine j_iload (pc := 30) dX12_tries_30 (q := 5) rfl ?_
    refine j_iload (pc := 32) dX12_tries_32 (q := 7) rfl ?_
    refine j_sipush (pc := 34) 200 dX12_tries_34 (by decide) ?_
    refine j_callVv4 (pc := 37) (ct_X12_puts M l1 l5 l7 200 hl1 hl5 hl7 (jm_inL (by decide) (by decide))) kg_1428 km_X12_puts kv_X12_puts rfl rfl ⟨(Nat.le_of_ble_eq_true rfl), (Nat.le_of_ble_eq_true rfl)⟩ jv2_0 jm_01 ko2_0 rfl rfl (Nat.le_of_ble_eq_true rfl) dX12_tries_37 (fun v2 M3 => ?_)
    refine j_sub (pc := 40) [(0, jm_vr wd2 X 0 0), (1, jm_i l1), (2, jm_i l2), (4, jm_i l4), (5, jm_i l5), (6, jm_i l6), (7, jm_i l7)] [0, 1, 2, 4, 5, 6, 7] rfl ?_
    exact bX12_tries_40 X fu  M3 l1 l2 l4 l5 l6 l7 hl1 hl2 hl4 hl5 hl6 hl7
set_option maxHeartbeats 4000000 in
set_option maxRecDepth 100000 in
theorem ct_X12_tries (fu : Nat) (M : jm_M) (l1 l2 l3 l4 l5 l6 l7 : Int) (hl1 : jm_in l1) (hl2 : jm_in l2) (hl3 : jm_in l3) (hl4 : jm_in l4) (hl5 : jm_in l5) (hl6 : jm_in l6) (hl7 : jm_in l7) : jm_Cv wd2 yX12_tries cX12_tries 9 none rmX12_tries M (fun G ad => [.ref (ad (jm_r wd2 0 0)), jm_i l1, jm_i l2, jm_i l3, jm_i l4, jm_i l5, jm_i l6, jm_i l7]) (fX12_tries fu M l1 l2 l3 l4 l5 l6 l7) := by
  refine jm_met_v (fun X => [(0, jm_vr wd2 X 0 0), (1, jm_i l1), (2, jm_i l2), (3, jm_i l3), (4, jm_i l4), (5, jm_i l5), (6, jm_i l6), (7, jm_i l7)]) (by decide) (fun _ _ => (Nat.le_of_ble_eq_true rfl)) (fun _ => rfl) (fun X => ?_)
  unfold fX12_tries
  refine j_aload_n (pc := 0) dX12_tries_0 rfl (q := 0) rfl ?_
  refine j_getr (pc := 1) jv2_0 jm_01 kf_RX12_139 0 kg2_0_31 rfl dX12_tries_1 ?_
  refine j_iload_n (pc := 4) dX12_tries_4 rfl (q := 1) rfl ?_
  refine j_iconst (pc := 5) dX12_tries_5 ?_
  refine j_iast (pc := 6) jv2_26 jm_01 rfl (by decide) wI2 ka2_26 (jm_inL (by decide) (by decide)) dX12_tries_6 (fun c1 M2 => ?_)
  refine j_iload_n (pc := 7) dX12_tries_7 rfl (q := 3) rfl ?_
  refine j_if_le (tgt := 23) (pc := 8) hl3 dX12_tries_8 (by decide) (fun c3 => ?_) (fun c3 => ?_)
  · skip
    refine j_sub (pc := 23) [(0, jm_vr wd2 X 0 0), (1, jm_i l1), (2, jm_i l2), (3, jm_i l3), (4, jm_i l4), (5, jm_i l5), (6, jm_i l6), (7, jm_i l7)] [0, 1, 2, 3, 4, 5, 6, 7] rfl ?_
    exact bX12_tries_23 X fu  M2 l1 l2 l3 l4 l5 l6 l7 hl1 hl2 hl3 hl4 hl5 hl6 hl7
  · skip
    refine j_aload_n (pc := 11) dX12_tries_11 rfl (q := 0) rfl ?_
    refine j_iload_n (pc := 12) dX12_tries_12 rfl (q := 1) rfl ?_
    refine j_iload (pc := 13) dX12_tries_13 (q := 4) rfl ?_
    refine j_iload (pc := 15) dX12_tries_15 (q := 6) rfl ?_
    refine j_sipush (pc := 17) 200 dX12_tries_17 (by decide) ?_
    refine j_callVv4 (pc := 20) (ct_X12_puts M2 l1 l4 l6 200 hl1 hl4 hl6 (jm_inL (by decide) (by decide))) kg_1428 km_X12_puts kv_X12_puts rfl rfl ⟨(Nat.le_of_ble_eq_true rfl), (Nat.le_of_ble_eq_true rfl)⟩ jv2_0 jm_01 ko2_0 rfl rfl (Nat.le_of_ble_eq_true rfl) dX12_tries_20 (fun v4 M5 => ?_)
    refine j_sub (pc := 23) [(0, jm_vr wd2 X 0 0), (1, jm_i l1), (2, jm_i l2), (3, jm_i l3), (4, jm_i l4), (5, jm_i l5), (6, jm_i l6), (7, jm_i l7)] [0, 1, 2, 3, 4, 5, 6, 7] rfl ?_
    exact bX12_tries_23 X fu  M5 l1 l2 l3 l4 l5 l6 l7 hl1 hl2 hl3 hl4 hl5 hl6 hl7
abbrev rmX12_bests : Room := { frames := 9, cells := 0, slots := 0, locals := 221 }
set_option maxHeartbeats 4000000 in
set_option maxRecDepth 100000 in
theorem bX12_bests_109 (X : jm_X) (fu : Nat) (k13 : jm_M → Int → Int → Int → Int → jm_R) (k47 : jm_M → Int → Int → Int → Int → Int → jm_R) (k70 : jm_M → Int → Int → Int → Int → Int → Int → jm_R) (k92 : jm_M → Int → Int → Int → Int → Int → Int → Int → jm_R) (hk13 : ∀ (M : jm_M) (l1 l2 l3 l4 : Int) (hl1 : jm_in l1) (hl2 : jm_in l2) (hl3 : jm_in l3) (hl4 : jm_in l4), jm_J wd2 (jm_qi .boolean) cX12_bests 8 RX12 rmX12_bests X M [(0, jm_vr wd2 X 0 0), (1, jm_i l1), (2, jm_i l2), (3, jm_i l3), (4, jm_i l4)] [] 13 (k13 M l1 l2 l3 l4)) (hk47 : ∀ (M : jm_M) (l1 l2 l3 l4 l5 : Int) (hl1 : jm_in l1) (hl2 : jm_in l2) (hl3 : jm_in l3) (hl4 : jm_in l4) (hl5 : jm_in l5), jm_J wd2 (jm_qi .boolean) cX12_bests 8 RX12 rmX12_bests X M [(0, jm_vr wd2 X 0 0), (1, jm_i l1), (2, jm_i l2), (3, jm_i l3), (4, jm_i l4), (5, jm_i l5)] [] 47 (k47 M l1 l2 l3 l4 l5)) (hk70 : ∀ (M : jm_M) (l1 l2 l3 l4 l5 l6 : Int) (hl1 : jm_in l1) (hl2 : jm_in l2) (hl3 : jm_in l3) (hl4 : jm_in l4) (hl5 : jm_in l5) (hl6 : jm_in l6), jm_J wd2 (jm_qi .boolean) cX12_bests 8 RX12 rmX12_bests X M [(0, jm_vr wd2 X 0 0), (1, jm_i l1), (2, jm_i l2), (3, jm_i l3), (4, jm_i l4), (5, jm_i l5), (6, jm_i l6)] [] 70 (k70 M l1 l2 l3 l4 l5 l6)) (hk92 : ∀ (M : jm_M) (l1 l2 l3 l4 l5 l6 l7 : Int) (hl1 : jm_in l1) (hl2 : jm_in l2) (hl3 : jm_in l3) (hl4 : jm_in l4) (hl5 : jm_in l5) (hl6 : jm_in l6) (hl7 : jm_in l7), jm_J wd2 (jm_qi .boolean) cX12_bests 8 RX12 rmX12_bests X M [(0, jm_vr wd2 X 0 0), (1, jm_i l1), (2, jm_i l2), (3, jm_i l3), (4, jm_i l4), (5, jm_i l5), (6, jm_i l6), (7, jm_i l7)] [] 92 (k92 M l1 l2 l3 l4 l5 l6 l7)) : ∀ (M : jm_M) (l1 l2 l3 l4 l5 l6 l7 s0 s1 : Int) (hl1 : jm_in l1) (hl2 : jm_in l2) (hl3 : jm_in l3) (hl4 : jm_in l4) (hl5 : jm_in l5) (hl6 : jm_in l6) (hl7 : jm_in l7) (hs0 : jm_in s0) (hs1 : jm_in s1), jm_J wd2 (jm_qi .boolean) cX12_bests 8 RX12 rmX12_bests X M [(0, jm_vr wd2 X 0 0), (1, jm_i l1), (2, jm_i l2), (3, jm_i l3), (4, jm_i l4), (5, jm_i l5), (6, jm_i l6), (7, jm_i l7)] [jm_i s0, jm_i s1] 109 (gX12_bests_109 fu k13 k47 k70 k92 M l1 l2 l3 l4 l5 l6 l7 s0 s1) := by
  intro M l1 l2 l3 l4 l5 l6 l7 s0 s1 hl1 hl2 hl3 hl4 hl5 hl6 hl7 hs0 hs1
  unfold gX12_bests_109
  refine j_icmp_ge (tgt := 133) (pc := 109) hs1 hs0 dX12_bests_109 (by decide) (fun c1 => ?_) (fun c1 => ?_)
  · skip
    refine j_iinc (pc := 133) [(0, jm_vr wd2 X 0 0), (1, jm_i l1), (2, jm_i l2), (3, jm_i l3), (4, jm_i l4), (5, jm_i l5), (7, jm_i l7)] (q := 6) dX12_bests_133 rfl (by decide) (fun _ => rfl) (fun v2 h3 => ?_)
    refine j_goto (tgt := 70) (pc := 136) dX12_bests_136 (by decide) ?_
    refine j_sub (pc := 70) [(0, jm_vr wd2 X 0 0), (1, jm_i l1), (2, jm_i l2), (3, jm_i l3), (4, jm_i l4), (5, jm_i l5), (6, jm_i v2)] [1, 2, 3, 4, 5, 6, 0] rfl ?_
    exact hk70 M l1 l2 l3 l4 l5 v2 hl1 hl2 hl3 hl4 hl5 h3
  · skip
    refine j_aload_n (pc := 112) dX12_bests_112 rfl (q := 0) rfl ?_
    refine j_iload_n (pc := 113) dX12_bests_113 rfl (q := 1) rfl ?_
    refine j_iload_n (pc := 114) dX12_bests_114 rfl (q := 3) rfl ?_
    refine j_iload_n (pc := 115) dX12_bests_115 rfl (q := 2) rfl ?_
    refine j_iload (pc := 116) dX12_bests_116 (q := 4) rfl ?_
    refine j_iload (pc := 118) dX12_bests_118 (q := 5) rfl ?_
    refine j_iload (pc := 120) dX12_bests_120 (q := 6) rfl ?_
    refine j_iload (pc := 122) dX12_bests_122 (q := 7) rfl ?_
    refine j_callVv7 (pc := 124) (ct_X12_tries fu M l1 l3 l2 l4 l5 l6 l7 hl1 hl3 hl2 hl4 hl5 hl6 hl7) kg_1721 km_X12_tries kv_X12_tries rfl rfl ⟨(Nat.le_of_ble_eq_true rfl), (Nat.le_of_ble_eq_true rfl)⟩ jv2_0 jm_01 ko2_0 rfl rfl (Nat.le_of_ble_eq_true rfl) dX12_bests_124 (fun v4 M5 => ?_)
    refine j_iinc (pc := 127) [(0, jm_vr wd2 X 0 0), (1, jm_i l1), (2, jm_i l2), (3, jm_i l3), (4, jm_i l4), (5, jm_i l5), (6, jm_i l6)] (q := 7) dX12_bests_127 rfl (by decide) (fun _ => rfl) (fun v6 h7 => ?_)
    refine j_goto (tgt := 92) (pc := 130) dX12_bests_130 (by decide) ?_
    refine j_sub (pc := 92) [(0, jm_vr wd2 X 0 0), (1, jm_i l1), (2, jm_i l2), (3, jm_i l3), (4, jm_i l4), (5, jm_i l5), (6, jm_i l6), (7, jm_i v6)] [1, 2, 3, 4, 5, 6, 7, 0] rfl ?_
    exact hk92 M5 l1 l2 l3 l4 l5 l6 v6 hl1 hl2 hl3 hl4 hl5 hl6 h7
set_option maxHeartbeats 4000000 in
set_option maxRecDepth 100000 in
theorem b0X12_bests_92 (X : jm_X) (fu : Nat) (k13 : jm_M → Int → Int → Int → Int → jm_R) (k47 : jm_M → Int → Int → Int → Int → Int → jm_R) (k70 : jm_M → Int → Int → Int → Int → Int → Int → jm_R) (k92 : jm_M → Int → Int → Int → Int → Int → Int → Int → jm_R) (hk13 : ∀ (M : jm_M) (l1 l2 l3 l4 : Int) (hl1 : jm_in l1) (hl2 : jm_in l2) (hl3 : jm_in l3) (hl4 : jm_in l4), jm_J wd2 (jm_qi .boolean) cX12_bests 8 RX12 rmX12_bests X M [(0, jm_vr wd2 X 0 0), (1, jm_i l1), (2, jm_i l2), (3, jm_i l3), (4, jm_i l4)] [] 13 (k13 M l1 l2 l3 l4)) (hk47 : ∀ (M : jm_M) (l1 l2 l3 l4 l5 : Int) (hl1 : jm_in l1) (hl2 : jm_in l2) (hl3 : jm_in l3) (hl4 : jm_in l4) (hl5 : jm_in l5), jm_J wd2 (jm_qi .boolean) cX12_bests 8 RX12 rmX12_bests X M [(0, jm_vr wd2 X 0 0), (1, jm_i l1), (2, jm_i l2), (3, jm_i l3), (4, jm_i l4), (5, jm_i l5)] [] 47 (k47 M l1 l2 l3 l4 l5)) (hk70 : ∀ (M : jm_M) (l1 l2 l3 l4 l5 l6 : Int) (hl1 : jm_in l1) (hl2 : jm_in l2) (hl3 : jm_in l3) (hl4 : jm_in l4) (hl5 : jm_in l5) (hl6 : jm_in l6), jm_J wd2 (jm_qi .boolean) cX12_bests 8 RX12 rmX12_bests X M [(0, jm_vr wd2 X 0 0), (1, jm_i l1), (2, jm_i l2), (3, jm_i l3), (4, jm_i l4), (5, jm_i l5), (6, jm_i l6)] [] 70 (k70 M l1 l2 l3 l4 l5 l6)) (hk92 : ∀ (M : jm_M) (l1 l2 l3 l4 l5 l6 l7 : Int) (hl1 : jm_in l1) (hl2 : jm_in l2) (hl3 : jm_in l3) (hl4 : jm_in l4) (hl5 : jm_in l5) (hl6 : jm_in l6) (hl7 : jm_in l7), jm_J wd2 (jm_qi .boolean) cX12_bests 8 RX12 rmX12_bests X M [(0, jm_vr wd2 X 0 0), (1, jm_i l1), (2, jm_i l2), (3, jm_i l3), (4, jm_i l4), (5, jm_i l5), (6, jm_i l6), (7, jm_i l7)] [] 92 (k92 M l1 l2 l3 l4 l5 l6 l7)) : ∀ (M : jm_M) (l1 l2 l3 l4 l5 l6 l7 : Int) (hl1 : jm_in l1) (hl2 : jm_in l2) (hl3 : jm_in l3) (hl4 : jm_in l4) (hl5 : jm_in l5) (hl6 : jm_in l6) (hl7 : jm_in l7), jm_J wd2 (jm_qi .boolean) cX12_bests 8 RX12 rmX12_bests X M [(0, jm_vr wd2 X 0 0), (1, jm_i l1), (2, jm_i l2), (3, jm_i l3), (4, jm_i l4), (5, jm_i l5), (6, jm_i l6), (7, jm_i l7)] [] 92 (gX12_bests_92 fu k13 k47 k70 k92 M l1 l2 l3 l4 l5 l6 l7) := by
  intro M l1 l2 l3 l4 l5 l6 l7 hl1 hl2 hl3 hl4 hl5 hl6 hl7
  unfold gX12_bests_92
  refine j_iload (pc := 92) dX12_bests_92 (q := 7) rfl ?_
  refine j_iload_n (pc := 94) dX12_bests_94 rfl (q := 2) rfl ?_
  refine j_iconst (pc := 95) dX12_bests_95 ?_
  refine j_icmp_le (tgt := 108) (pc := 96) hl2 (jm_inL (by decide) (by decide)) dX12_bests_96 (by decide) (fun c1 => ?_) (fun c1 => ?_)
  · skip
    refine j_iconst (pc := 108) dX12_bests_108 ?_
    refine j_sub (pc := 109) [(0, jm_vr wd2 X 0 0), (1, jm_i l1), (2, jm_i l2), (3, jm_i l3), (4, jm_i l4), (5, jm_i l5), (6, jm_i l6), (7, jm_i l7)] [0, 1, 2, 3, 4, 5, 6, 7] rfl ?_
    exact bX12_bests_109 X fu k13 k47 k70 k92 hk13 hk47 hk70 hk92 M l1 l2 l3 l4 l5 l6 l7 1 l7 hl1 hl2 hl3 hl4 hl5 hl6 hl7 (jm_inL (by decide) (by decide)) hl7
  · skip
    refine j_aload_n (pc := 99) dX12_bests_99 rfl (q := 0) rfl ?_
    refine j_getr (pc := 100) jv2_0 jm_01 kf_RX12_133 0 kg2_0_24 rfl dX12_bests_100 ?_
    refine j_iload_n (pc := 103) dX12_bests_103 rfl (q := 1) rfl ?_
    refine j_iald (pc := 104) jv2_19 jm_01 rfl (by decide) ka2_19 dX12_bests_104 (fun c2 h3 => ?_)
    refine j_goto (tgt := 109) (pc := 105) dX12_bests_105 (by decide) ?_
    refine j_sub (pc := 109) [(0, jm_vr wd2 X 0 0), (1, jm_i l1), (2, jm_i l2), (3, jm_i l3), (4, jm_i l4), (5, jm_i l5), (6, jm_i l6), (7, jm_i l7)] [0, 1, 2, 3, 4, 5, 6, 7] rfl ?_
    exact bX12_bests_109 X fu k13 k47 k70 k92 hk13 hk47 hk70 hk92 M l1 l2 l3 l4 l5 l6 l7 (M 19 0 l1) l7 hl1 hl2 hl3 hl4 hl5 hl6 hl7 h3 hl7
theorem bX12_bests_92 (X : jm_X) (fu : Nat) (k13 : jm_M → Int → Int → Int → Int → jm_R) (k47 : jm_M → Int → Int → Int → Int → Int → jm_R) (k70 : jm_M → Int → Int → Int → Int → Int → Int → jm_R) (hk13 : ∀ (M : jm_M) (l1 l2 l3 l4 : Int) (hl1 : jm_in l1) (hl2 : jm_in l2) (hl3 : jm_in l3) (hl4 : jm_in l4), jm_J wd2 (jm_qi .boolean) cX12_bests 8 RX12 rmX12_bests X M [(0, jm_vr wd2 X 0 0), (1, jm_i l1), (2, jm_i l2), (3, jm_i l3), (4, jm_i l4)] [] 13 (k13 M l1 l2 l3 l4)) (hk47 : ∀ (M : jm_M) (l1 l2 l3 l4 l5 : Int) (hl1 : jm_in l1) (hl2 : jm_in l2) (hl3 : jm_in l3) (hl4 : jm_in l4) (hl5 : jm_in l5), jm_J wd2 (jm_qi .boolean) cX12_bests 8 RX12 rmX12_bests X M [(0, jm_vr wd2 X 0 0), (1, jm_i l1), (2, jm_i l2), (3, jm_i l3), (4, jm_i l4), (5, jm_i l5)] [] 47 (k47 M l1 l2 l3 l4 l5)) (hk70 : ∀ (M : jm_M) (l1 l2 l3 l4 l5 l6 : Int) (hl1 : jm_in l1) (hl2 : jm_in l2) (hl3 : jm_in l3) (hl4 : jm_in l4) (hl5 : jm_in l5) (hl6 : jm_in l6), jm_J wd2 (jm_qi .boolean) cX12_bests 8 RX12 rmX12_bests X M [(0, jm_vr wd2 X 0 0), (1, jm_i l1), (2, jm_i l2), (3, jm_i l3), (4, jm_i l4), (5, jm_i l5), (6, jm_i l6)] [] 70 (k70 M l1 l2 l3 l4 l5 l6)) : ∀ (n : Nat) (M : jm_M) (l1 l2 l3 l4 l5 l6 l7 : Int) (hl1 : jm_in l1) (hl2 : jm_in l2) (hl3 : jm_in l3) (hl4 : jm_in l4) (hl5 : jm_in l5) (hl6 : jm_in l6) (hl7 : jm_in l7), jm_J wd2 (jm_qi .boolean) cX12_bests 8 RX12 rmX12_bests X M [(0, jm_vr wd2 X 0 0), (1, jm_i l1), (2, jm_i l2), (3, jm_i l3), (4, jm_i l4), (5, jm_i l5), (6, jm_i l6), (7, jm_i l7)] [] 92 (fX12_bests_92 fu k13 k47 k70 n M l1 l2 l3 l4 l5 l6 l7) := by
  intro n
  induction n with
  | zero => intro M l1 l2 l3 l4 l5 l6 l7 hl1 hl2 hl3 hl4 hl5 hl6 hl7; exact j_none
  | succ n ih => intro M l1 l2 l3 l4 l5 l6 l7 hl1 hl2 hl3 hl4 hl5 hl6 hl7; exact b0X12_bests_92 X fu k13 k47 k70 (fX12_bests_92 fu k13 k47 k70 n) hk13 hk47 hk70 ih M l1 l2 l3 l4 l5 l6 l7 hl1 hl2 hl3 hl4 hl5 hl6 hl7
set_option maxHeartbeats 4000000 in
set_option maxRecDepth 100000 in
theorem b0X12_bests_70 (X : jm_X) (fu : Nat) (k13 : jm_M → Int → Int → Int → Int → jm_R) (k47 : jm_M → Int → Int → Int → Int → Int → jm_R) (k70 : jm_M → Int → Int → Int → Int → Int → Int → jm_R) (hk13 : ∀ (M : jm_M) (l1 l2 l3 l4 : Int) (hl1 : jm_in l1) (hl2 : jm_in l2) (hl3 : jm_in l3) (hl4 : jm_in l4), jm_J wd2 (jm_qi .boolean) cX12_bests 8 RX12 rmX12_bests X M [(0, jm_vr wd2 X 0 0), (1, jm_i l1), (2, jm_i l2), (3, jm_i l3), (4, jm_i l4)] [] 13 (k13 M l1 l2 l3 l4)) (hk47 : ∀ (M : jm_M) (l1 l2 l3 l4 l5 : Int) (hl1 : jm_in l1) (hl2 : jm_in l2) (hl3 : jm_in l3) (hl4 : jm_in l4) (hl5 : jm_in l5), jm_J wd2 (jm_qi .boolean) cX12_bests 8 RX12 rmX12_bests X M [(0, jm_vr wd2 X 0 0), (1, jm_i l1), (2, jm_i l2), (3, jm_i l3), (4, jm_i l4), (5, jm_i l5)] [] 47 (k47 M l1 l2 l3 l4 l5)) (hk70 : ∀ (M : jm_M) (l1 l2 l3 l4 l5 l6 : Int) (hl1 : jm_in l1) (hl2 : jm_in l2) (hl3 : jm_in l3) (hl4 : jm_in l4) (hl5 : jm_in l5) (hl6 : jm_in l6), jm_J wd2 (jm_qi .boolean) cX12_bests 8 RX12 rmX12_bests X M [(0, jm_vr wd2 X 0 0), (1, jm_i l1), (2, jm_i l2), (3, jm_i l3), (4, jm_i l4), (5, jm_i l5), (6, jm_i l6)] [] 70 (k70 M l1 l2 l3 l4 l5 l6)) : ∀ (M : jm_M) (l1 l2 l3 l4 l5 l6 : Int) (hl1 : jm_in l1) (hl2 : jm_in l2) (hl3 : jm_in l3) (hl4 : jm_in l4) (hl5 : jm_in l5) (hl6 : jm_in l6), jm_J wd2 (jm_qi .boolean) cX12_bests 8 RX12 rmX12_bests X M [(0, jm_vr wd2 X 0 0), (1, jm_i l1), (2, jm_i l2), (3, jm_i l3), (4, jm_i l4), (5, jm_i l5), (6, jm_i l6)] [] 70 (gX12_bests_70 fu k13 k47 k70 M l1 l2 l3 l4 l5 l6) := by
  intro M l1 l2 l3 l4 l5 l6 hl1 hl2 hl3 hl4 hl5 hl6
  unfold gX12_bests_70
  refine j_iload (pc := 70) dX12_bests_70 (q := 6) rfl ?_
  refine j_iload_n (pc := 72) dX12_bests_72 rfl (q := 2) rfl ?_
  refine j_if_le (tgt := 85) (pc := 73) hl2 dX12_bests_73 (by decide) (fun c1 => ?_) (fun c1 => ?_)
  · skip
    refine j_iconst (pc := 85) dX12_bests_85 ?_
    refine j_icmp_ge (tgt := 139) (pc := 86) hl6 (jm_inL (by decide) (by decide)) dX12_bests_86 (by decide) (fun c2 => ?_) (fun c2 => ?_)
    · skip
      refine j_iinc (pc := 139) [(0, jm_vr wd2 X 0 0), (1, jm_i l1), (2, jm_i l2), (3, jm_i l3), (4, jm_i l4), (6, jm_i l6)] (q := 5) dX12_bests_139 rfl (by decide) (fun _ => rfl) (fun v3 h4 => ?_)
      refine j_goto (tgt := 47) (pc := 142) dX12_bests_142 (by decide) ?_
      refine j_sub (pc := 47) [(0, jm_vr wd2 X 0 0), (1, jm_i l1), (2, jm_i l2), (3, jm_i l3), (4, jm_i l4), (5, jm_i v3)] [1, 2, 3, 4, 5, 0] rfl ?_
      exact hk47 M l1 l2 l3 l4 v3 hl1 hl2 hl3 hl4 h4
    · skip
      refine j_iconst (pc := 89) dX12_bests_89 ?_
      refine j_istore (pc := 90) [(7, jm_i 0), (0, jm_vr wd2 X 0 0), (1, jm_i l1), (2, jm_i l2), (3, jm_i l3), (4, jm_i l4), (5, jm_i l5), (6, jm_i l6)] dX12_bests_90 (by decide) rfl ?_
      refine j_sub (pc := 92) [(0, jm_vr wd2 X 0 0), (1, jm_i l1), (2, jm_i l2), (3, jm_i l3), (4, jm_i l4), (5, jm_i l5), (6, jm_i l6), (7, jm_i 0)] [1, 2, 3, 4, 5, 6, 7, 0] rfl ?_
      exact bX12_bests_92 X fu k13 k47 k70 hk13 hk47 hk70 fu M l1 l2 l3 l4 l5 l6 0 hl1 hl2 hl3 hl4 hl5 hl6 (jm_inL (by decide) (by decide))
  · skip
    refine j_aload_n (pc := 76) dX12_bests_76 rfl (q := 0) rfl ?_
    refine j_getr (pc := 77) jv2_0 jm_01 kf_RX12_133 0 kg2_0_24 rfl dX12_bests_77 ?_
    refine j_iload_n (pc := 80) dX12_bests_80 rfl (q := 1) rfl ?_
    refine j_iald (pc := 81) jv2_19 jm_01 rfl (by decide) ka2_19 dX12_bests_81 (fun c5 h6 => ?_)
    refine j_goto (tgt := 86) (pc := 82) dX12_bests_82 (by decide) ?_
    refine j_icmp_ge (tgt := 139) (pc := 86) hl6 h6 dX12_bests_86 (by decide) (fun c7 => ?_) (fun c7 => ?_)
    · skip
      refine j_iinc (pc := 139) [(0, jm_vr wd2 X 0 0), (1, jm_i l1), (2, jm_i l2), (3, jm_i l3), (4, jm_i l4), (6, jm_i l6)] (q := 5) dX12_bests_139 rfl (by decide) (fun _ => rfl) (fun v8 h9 => ?_)
      refine j_goto (tgt := 47) (pc := 142) dX12_bests_142 (by decide) ?_
      refine j_sub (pc := 47) [(0, jm_vr wd2 X 0 0), (1, jm_i l1), (2, jm_i l2), (3, jm_i l3), (4, jm_i l4), (5, jm_i v8)] [1, 2, 3, 4, 5, 0] rfl ?_
      exact hk47 M l1 l2 l3 l4 v8 hl1 hl2 hl3 hl4 h9
    · skip
      refine j_iconst (pc := 89) dX12_bests_89 ?_
      refine j_istore (pc := 90) [(7, jm_i 0), (0, jm_vr wd2 X 0 0), (1, jm_i l1), (2, jm_i l2), (3, jm_i l3), (4, jm_i l4), (5, jm_i l5), (6, jm_i l6)] dX12_bests_90 (by decide) rfl ?_
      refine j_sub (pc := 92) [(0, jm_vr wd2 X 0 0), (1, jm_i l1), (2, jm_i l2), (3, jm_i l3), (4, jm_i l4), (5, jm_i l5), (6, jm_i l6), (7, jm_i 0)] [1, 2, 3, 4, 5, 6, 7, 0] rfl ?_
      exact bX12_bests_92 X fu k13 k47 k70 hk13 hk47 hk70 fu M l1 l2 l3 l4 l5 l6 0 hl1 hl2 hl3 hl4 hl5 hl6 (jm_inL (by decide) (by decide))
theorem bX12_bests_70 (X : jm_X) (fu : Nat) (k13 : jm_M → Int → Int → Int → Int → jm_R) (k47 : jm_M → Int → Int → Int → Int → Int → jm_R) (hk13 : ∀ (M : jm_M) (l1 l2 l3 l4 : Int) (hl1 : jm_in l1) (hl2 : jm_in l2) (hl3 : jm_in l3) (hl4 : jm_in l4), jm_J wd2 (jm_qi .boolean) cX12_bests 8 RX12 rmX12_bests X M [(0, jm_vr wd2 X 0 0), (1, jm_i l1), (2, jm_i l2), (3, jm_i l3), (4, jm_i l4)] [] 13 (k13 M l1 l2 l3 l4)) (hk47 : ∀ (M : jm_M) (l1 l2 l3 l4 l5 : Int) (hl1 : jm_in l1) (hl2 : jm_in l2) (hl3 : jm_in l3) (hl4 : jm_in l4) (hl5 : jm_in l5), jm_J wd2 (jm_qi .boolean) cX12_bests 8 RX12 rmX12_bests X M [(0, jm_vr wd2 X 0 0), (1, jm_i l1), (2, jm_i l2), (3, jm_i l3), (4, jm_i l4), (5, jm_i l5)] [] 47 (k47 M l1 l2 l3 l4 l5)) : ∀ (n : Nat) (M : jm_M) (l1 l2 l3 l4 l5 l6 : Int) (hl1 : jm_in l1) (hl2 : jm_in l2) (hl3 : jm_in l3) (hl4 : jm_in l4) (hl5 : jm_in l5) (hl6 : jm_in l6), jm_J wd2 (jm_qi .boolean) cX12_bests 8 RX12 rmX12_bests X M [(0, jm_vr wd2 X 0 0), (1, jm_i l1), (2, jm_i l2), (3, jm_i l3), (4, jm_i l4), (5, jm_i l5), (6, jm_i l6)] [] 70 (fX12_bests_70 fu k13 k47 n M l1 l2 l3 l4 l5 l6) := by
  intro n
  induction n with
  | zero => intro M l1 l2 l3 l4 l5 l6 hl1 hl2 hl3 hl4 hl5 hl6; exact j_none
  | succ n ih => intro M l1 l2 l3 l4 l5 l6 hl1 hl2 hl3 hl4 hl5 hl6; exact b0X12_bests_70 X fu k13 k47 (fX12_bests_70 fu k13 k47 n) hk13 hk47 ih M l1 l2 l3 l4 l5 l6 hl1 hl2 hl3 hl4 hl5 hl6
set_option maxHeartbeats 4000000 in
set_option maxRecDepth 100000 in
theorem b0X12_bests_47 (X : jm_X) (fu : Nat) (k13 : jm_M → Int → Int → Int → Int → jm_R) (k47 : jm_M → Int → Int → Int → Int → Int → jm_R) (hk13 : ∀ (M : jm_M) (l1 l2 l3 l4 : Int) (hl1 : jm_in l1) (hl2 : jm_in l2) (hl3 : jm_in l3) (hl4 : jm_in l4), jm_J wd2 (jm_qi .boolean) cX12_bests 8 RX12 rmX12_bests X M [(0, jm_vr wd2 X 0 0), (1, jm_i l1), (2, jm_i l2), (3, jm_i l3), (4, jm_i l4)] [] 13 (k13 M l1 l2 l3 l4)) (hk47 : ∀ (M : jm_M) (l1 l2 l3 l4 l5 : Int) (hl1 : jm_in l1) (hl2 : jm_in l2) (hl3 : jm_in l3) (hl4 : jm_in l4) (hl5 : jm_in l5), jm_J wd2 (jm_qi .boolean) cX12_bests 8 RX12 rmX12_bests X M [(0, jm_vr wd2 X 0 0), (1, jm_i l1), (2, jm_i l2), (3, jm_i l3), (4, jm_i l4), (5, jm_i l5)] [] 47 (k47 M l1 l2 l3 l4 l5)) : ∀ (M : jm_M) (l1 l2 l3 l4 l5 : Int) (hl1 : jm_in l1) (hl2 : jm_in l2) (hl3 : jm_in l3) (hl4 : jm_in l4) (hl5 : jm_in l5), jm_J wd2 (jm_qi .boolean) cX12_bests 8 RX12 rmX12_bests X M [(0, jm_vr wd2 X 0 0), (1, jm_i l1), (2, jm_i l2), (3, jm_i l3), (4, jm_i l4), (5, jm_i l5)] [] 47 (gX12_bests_47 fu k13 k47 M l1 l2 l3 l4 l5) := by
  intro M l1 l2 l3 l4 l5 hl1 hl2 hl3 hl4 hl5
  unfold gX12_bests_47
  refine j_iload (pc := 47) dX12_bests_47 (q := 5) rfl ?_
  refine j_iload_n (pc := 49) dX12_bests_49 rfl (q := 2) rfl ?_
  refine j_iconst (pc := 50) dX12_bests_50 ?_
  refine j_icmp_le (tgt := 63) (pc := 51) hl2 (jm_inL (by decide) (by decide)) dX12_bests_51 (by decide) (fun c1 => ?_) (fun c1 => ?_)
  · skip
    refine j_iconst (pc := 63) dX12_bests_63 ?_
    refine j_icmp_ge (tgt := 145) (pc := 64) hl5 (jm_inL (by decide) (by decide)) dX12_bests_64 (by decide) (fun c2 => ?_) (fun c2 => ?_)
    · skip
      refine j_iinc (pc := 145) [(0, jm_vr wd2 X 0 0), (1, jm_i l1), (2, jm_i l2), (3, jm_i l3), (5, jm_i l5)] (q := 4) dX12_bests_145 rfl (by decide) (fun _ => rfl) (fun v3 h4 => ?_)
      refine j_goto (tgt := 13) (pc := 148) dX12_bests_148 (by decide) ?_
      refine j_sub (pc := 13) [(0, jm_vr wd2 X 0 0), (1, jm_i l1), (2, jm_i l2), (3, jm_i l3), (4, jm_i v3)] [1, 2, 3, 4, 0] rfl ?_
      exact hk13 M l1 l2 l3 v3 hl1 hl2 hl3 h4
    · skip
      refine j_iconst (pc := 67) dX12_bests_67 ?_
      refine j_istore (pc := 68) [(6, jm_i 0), (0, jm_vr wd2 X 0 0), (1, jm_i l1), (2, jm_i l2), (3, jm_i l3), (4, jm_i l4), (5, jm_i l5)] dX12_bests_68 (by decide) rfl ?_
      refine j_sub (pc := 70) [(0, jm_vr wd2 X 0 0), (1, jm_i l1), (2, jm_i l2), (3, jm_i l3), (4, jm_i l4), (5, jm_i l5), (6, jm_i 0)] [1, 2, 3, 4, 5, 6, 0] rfl ?_
      exact bX12_bests_70 X fu k13 k47 hk13 hk47 fu M l1 l2 l3 l4 l5 0 hl1 hl2 hl3 hl4 hl5 (jm_inL (by decide) (by decide))
  · skip
    refine j_aload_n (pc := 54) dX12_bests_54 rfl (q := 0) rfl ?_
    refine j_geti (pc := 55) jv2_0 jm_01 kf_RX12_10 kg2_0_2 dX12_bests_55 (fun h5 => ?_)
    refine j_iconst (pc := 58) dX12_bests_58 ?_
    refine j_isub (pc := 59) dX12_bests_59 ?_
    refine j_goto (tgt := 64) (pc := 60) dX12_bests_60 (by decide) ?_
    refine j_icmp_ge (tgt := 145) (pc := 64) hl5 (jm_w_in _) dX12_bests_64 (by decide) (fun c6 => ?_) (fun c6 => ?_)
    · skip
      refine j_iinc (pc := 145) [(0, jm_vr wd2 X 0 0), (1, jm_i l1), (2, jm_i l2), (3, jm_i l3), (5, jm_i l5)] (q := 4) dX12_bests_145 rfl (by decide) (fun _ => rfl) (fun v7 h8 => ?_)
      refine j_goto (tgt := 13) (pc := 148) dX12_bests_148 (by decide) ?_
      refine j_sub (pc := 13) [(0, jm_vr wd2 X 0 0), (1, jm_i l1), (2, jm_i l2), (3, jm_i l3), (4, jm_i v7)] [1, 2, 3, 4, 0] rfl ?_
      exact hk13 M l1 l2 l3 v7 hl1 hl2 hl3 h8
    · skip
      refine j_iconst (pc := 67) dX12_bests_67 ?_
      refine j_istore (pc := 68) [(6, jm_i 0), (0, jm_vr wd2 X 0 0), (1, jm_i l1), (2, jm_i l2), (3, jm_i l3), (4, jm_i l4), (5, jm_i l5)] dX12_bests_68 (by decide) rfl ?_
      refine j_sub (pc := 70) [(0, jm_vr wd2 X 0 0), (1, jm_i l1), (2, jm_i l2), (3, jm_i l3), (4, jm_i l4), (5, jm_i l5), (6, jm_i 0)] [1, 2, 3, 4, 5, 6, 0] rfl ?_
      exact bX12_bests_70 X fu k13 k47 hk13 hk47 fu M l1 l2 l3 l4 l5 0 hl1 hl2 hl3 hl4 hl5 (jm_inL (by decide) (by decide))
theorem bX12_bests_47 (X : jm_X) (fu : Nat) (k13 : jm_M → Int → Int → Int → Int → jm_R) (hk13 : ∀ (M : jm_M) (l1 l2 l3 l4 : Int) (hl1 : jm_in l1) (hl2 : jm_in l2) (hl3 : jm_in l3) (hl4 : jm_in l4), jm_J wd2 (jm_qi .boolean) cX12_bests 8 RX12 rmX12_bests X M [(0, jm_vr wd2 X 0 0), (1, jm_i l1), (2, jm_i l2), (3, jm_i l3), (4, jm_i l4)] [] 13 (k13 M l1 l2 l3 l4)) : ∀ (n : Nat) (M : jm_M) (l1 l2 l3 l4 l5 : Int) (hl1 : jm_in l1) (hl2 : jm_in l2) (hl3 : jm_in l3) (hl4 : jm_in l4) (hl5 : jm_in l5), jm_J wd2 (jm_qi .boolean) cX12_bests 8 RX12 rmX12_bests X M [(0, jm_vr wd2 X 0 0), (1, jm_i l1), (2, jm_i l2), (3, jm_i l3), (4, jm_i l4), (5, jm_i l5)] [] 47 (fX12_bests_47 fu k13 n M l1 l2 l3 l4 l5) := by
  intro n
  induction n with
  | zero => intro M l1 l2 l3 l4 l5 hl1 hl2 hl3 hl4 hl5; exact j_none
  | succ n ih => intro M l1 l2 l3 l4 l5 hl1 hl2 hl3 hl4 hl5; exact b0X12_bests_47 X fu k13 (fX12_bests_47 fu k13 n) hk13 ih M l1 l2 l3 l4 l5 hl1 hl2 hl3 hl4 hl5
set_option maxHeartbeats 4000000 in
set_option maxRecDepth 100000 in
theorem bX12_bests_29 (X : jm_X) (fu : Nat) (k13 : jm_M → Int → Int → Int → Int → jm_R) (hk13 : ∀ (M : jm_M) (l1 l2 l3 l4 : Int) (hl1 : jm_in l1) (hl2 : jm_in l2) (hl3 : jm_in l3) (hl4 : jm_in l4), jm_J wd2 (jm_qi .boolean) cX12_bests 8 RX12 rmX12_bests X M [(0, jm_vr wd2 X 0 0), (1, jm_i l1), (2, jm_i l2), (3, jm_i l3), (4, jm_i l4)] [] 13 (k13 M l1 l2 l3 l4)) : ∀ (M : jm_M) (l1 l2 l3 l4 s0 s1 : Int) (hl1 : jm_in l1) (hl2 : jm_in l2) (hl3 : jm_in l3) (hl4 : jm_in l4) (hs0 : jm_in s0) (hs1 : jm_in s1), jm_J wd2 (jm_qi .boolean) cX12_bests 8 RX12 rmX12_bests X M [(0, jm_vr wd2 X 0 0), (1, jm_i l1), (2, jm_i l2), (3, jm_i l3), (4, jm_i l4)] [jm_i s0, jm_i s1] 29 (gX12_bests_29 fu k13 M l1 l2 l3 l4 s0 s1) := by
  intro M l1 l2 l3 l4 s0 s1 hl1 hl2 hl3 hl4 hs0 hs1
  unfold gX12_bests_29
  refine j_icmp_ge (tgt := 151) (pc := 29) hs1 hs0 dX12_bests_29 (by decide) (fun c1 => ?_) (fun c1 => ?_)
  · skip
    refine j_aload_n (pc := 151) dX12_bests_151 rfl (q := 0) rfl ?_
    refine j_iload_n (pc := 152) dX12_bests_152 rfl (q := 1) rfl ?_
    refine j_callVv1 (pc := 153) (ct_X12_putsBack fu M l1 hl1) kg_1728 km_X12_putsBack kv_X12_putsBack rfl rfl ⟨(Nat.le_of_ble_eq_true rfl), (Nat.le_of_ble_eq_true rfl)⟩ jv2_0 jm_01 ko2_0 rfl rfl (Nat.le_of_ble_eq_true rfl) dX12_bests_153 (fun v2 M3 => ?_)
    refine j_aload_n (pc := 156) dX12_bests_156 rfl (q := 0) rfl ?_
    refine j_geti (pc := 157) jv2_0 jm_01 kf_RX12_523 kg2_0_88 dX12_bests_157 (fun h4 => ?_)
    exact j_zret (pc := 160) h4 dX12_bests_160
  · skip
    refine j_iload_n (pc := 32) dX12_bests_32 rfl (q := 2) rfl ?_
    refine j_iconst (pc := 33) dX12_bests_33 ?_
    refine j_icmp_le (tgt := 44) (pc := 34) hl2 (jm_inL (by decide) (by decide)) dX12_bests_34 (by decide) (fun c5 => ?_) (fun c5 => ?_)
    · skip
      refine j_iconst (pc := 44) dX12_bests_44 ?_
      refine j_istore (pc := 45) [(5, jm_i 0), (0, jm_vr wd2 X 0 0), (1, jm_i l1), (2, jm_i l2), (3, jm_i l3), (4, jm_i l4)] dX12_bests_45 (by decide) rfl ?_
      refine j_sub (pc := 47) [(0, jm_vr wd2 X 0 0), (1, jm_i l1), (2, jm_i l2), (3, jm_i l3), (4, jm_i l4), (5, jm_i 0)] [1, 2, 3, 4, 5, 0] rfl ?_
      exact bX12_bests_47 X fu k13 hk13 fu M l1 l2 l3 l4 0 hl1 hl2 hl3 hl4 (jm_inL (by decide) (by decide))
    · skip
      refine j_iload (pc := 37) dX12_bests_37 (q := 4) rfl ?_
      refine j_iconst (pc := 39) dX12_bests_39 ?_
      refine j_iadd (pc := 40) dX12_bests_40 ?_
      refine j_goto (tgt := 45) (pc := 41) dX12_bests_41 (by decide) ?_
      refine j_nm (pc := 45) (jm_w_in _) (fun v6 h7 => ?_)
      refine j_istore (pc := 45) [(5, jm_i v6), (0, jm_vr wd2 X 0 0), (1, jm_i l1), (2, jm_i l2), (3, jm_i l3), (4, jm_i l4)] dX12_bests_45 (by decide) rfl ?_
      refine j_sub (pc := 47) [(0, jm_vr wd2 X 0 0), (1, jm_i l1), (2, jm_i l2), (3, jm_i l3), (4, jm_i l4), (5, jm_i v6)] [1, 2, 3, 4, 5, 0] rfl ?_
      exact bX12_bests_47 X fu k13 hk13 fu M l1 l2 l3 l4 v6 hl1 hl2 hl3 hl4 h7
set_option maxHeartbeats 4000000 in
set_option maxRecDepth 100000 in
theorem b0X12_bests_13 (X : jm_X) (fu : Nat) (k13 : jm_M → Int → Int → Int → Int → jm_R) (hk13 : ∀ (M : jm_M) (l1 l2 l3 l4 : Int) (hl1 : jm_in l1) (hl2 : jm_in l2) (hl3 : jm_in l3) (hl4 : jm_in l4), jm_J wd2 (jm_qi .boolean) cX12_bests 8 RX12 rmX12_bests X M [(0, jm_vr wd2 X 0 0), (1, jm_i l1), (2, jm_i l2), (3, jm_i l3), (4, jm_i l4)] [] 13 (k13 M l1 l2 l3 l4)) : ∀ (M : jm_M) (l1 l2 l3 l4 : Int) (hl1 : jm_in l1) (hl2 : jm_in l2) (hl3 : jm_in l3) (hl4 : jm_in l4), jm_J wd2 (jm_qi .boolean) cX12_bests 8 RX12 rmX12_bests X M [(0, jm_vr wd2 X 0 0), (1, jm_i l1), (2, jm_i l2), (3, jm_i l3), (4, jm_i l4)] [] 13 (gX12_bests_13 fu k13 M l1 l2 l3 l4) := by
  intro M l1 l2 l3 l4 hl1 hl2 hl3 hl4
  unfold gX12_bests_13
  refine j_iload (pc := 13) dX12_bests_13 (q := 4) rfl ?_
  refine j_iload_n (pc := 15) dX12_bests_15 rfl (q := 2) rfl ?_
  refine j_if_le (tgt := 28) (pc := 16) hl2 dX12_bests_16 (by decide) (fun c1 => ?_) (fun c1 => ?_)
  · skip
    refine j_iconst (pc := 28) dX12_bests_28 ?_
    refine j_sub (pc := 29) [(0, jm_vr wd2 X 0 0), (1, jm_i l1), (2, jm_i l2), (3, jm_i l3), (4, jm_i l4)] [0, 1, 2, 3, 4] rfl ?_
    exact bX12_bests_29 X fu k13 hk13 M l1 l2 l3 l4 1 l4 hl1 hl2 hl3 hl4 (jm_inL (by decide) (by decide)) hl4
  · skip
    refine j_aload_n (pc := 19) dX12_bests_19 rfl (q := 0) rfl ?_
    refine j_geti (pc := 20) jv2_0 jm_01 kf_RX12_10 kg2_0_2 dX12_bests_20 (fun h2 => ?_)
    refine j_iconst (pc := 23) dX12_bests_23 ?_
    refine j_isub (pc := 24) dX12_bests_24 ?_
    refine j_goto (tgt := 29) (pc := 25) dX12_bests_25 (by decide) ?_
    refine j_sub (pc := 29) [(0, jm_vr wd2 X 0 0), (1, jm_i l1), (2, jm_i l2), (3, jm_i l3), (4, jm_i l4)] [0, 1, 2, 3, 4] rfl ?_
    exact bX12_bests_29 X fu k13 hk13 M l1 l2 l3 l4 (jm_w ((M 0 0 2) - 1)) l4 hl1 hl2 hl3 hl4 (jm_w_in _) hl4
theorem bX12_bests_13 (X : jm_X) (fu : Nat) : ∀ (n : Nat) (M : jm_M) (l1 l2 l3 l4 : Int) (hl1 : jm_in l1) (hl2 : jm_in l2) (hl3 : jm_in l3) (hl4 : jm_in l4), jm_J wd2 (jm_qi .boolean) cX12_bests 8 RX12 rmX12_bests X M [(0, jm_vr wd2 X 0 0), (1, jm_i l1), (2, jm_i l2), (3, jm_i l3), (4, jm_i l4)] [] 13 (fX12_bests_13 fu n M l1 l2 l3 l4) := by
  intro n
  induction n with
  | zero => intro M l1 l2 l3 l4 hl1 hl2 hl3 hl4; exact j_none
  | succ n ih => intro M l1 l2 l3 l4 hl1 hl2 hl3 hl4; exact b0X12_bests_13 X fu (fX12_bests_13 fu n) ih M l1 l2 l3 l4 hl1 hl2 hl3 hl4
set_option maxHeartbeats 4000000 in
set_option maxRecDepth 100000 in
theorem ct_X12_bests (fu : Nat) (M : jm_M) (l1 l2 l3 : Int) (hl1 : jm_in l1) (hl2 : jm_in l2) (hl3 : jm_in l3) : jm_Ci wd2 yX12_bests cX12_bests 8 (some .boolean) rmX12_bests M (fun G ad => [.ref (ad (jm_r wd2 0 0)), jm_i l1, jm_i l2, jm_i l3]) (fX12_bests fu M l1 l2 l3) := by
  refine jm_met_i (fun X => [(0, jm_vr wd2 X 0 0), (1, jm_i l1), (2, jm_i l2), (3, jm_i l3)]) (by decide) (fun _ _ => (Nat.le_of_ble_eq_true rfl)) (fun _ => rfl) (fun X => ?_)
  unfold fX12_bests
  refine j_aload_n (pc := 0) dX12_bests_0 rfl (q := 0) rfl ?_
  refine j_iconst (pc := 1) dX12_bests_1 ?_
  refine j_put (pc := 2) jv2_0 jm_01 kf_RX12_523 wI2 kp_X12_88 kx2_0_88 (jm_inL (by decide) (by decide)) rfl rfl dX12_bests_2 (fun M1 => ?_)
  refine j_aload_n (pc := 5) dX12_bests_5 rfl (q := 0) rfl ?_
  refine j_iload_n (pc := 6) dX12_bests_6 rfl (q := 1) rfl ?_
  refine j_callVv1 (pc := 7) (ct_X12_clears fu M1 l1 hl1) kg_1717 km_X12_clears kv_X12_clears rfl rfl ⟨(Nat.le_of_ble_eq_true rfl), (Nat.le_of_ble_eq_true rfl)⟩ jv2_0 jm_01 ko2_0 rfl rfl (Nat.le_of_ble_eq_true rfl) dX12_bests_7 (fun v2 M3 => ?_)
  refine j_iconst (pc := 10) dX12_bests_10 ?_
  refine j_istore (pc := 11) [(4, jm_i 0), (0, jm_vr wd2 X 0 0), (1, jm_i l1), (2, jm_i l2), (3, jm_i l3)] dX12_bests_11 (by decide) rfl ?_
  refine j_sub (pc := 13) [(0, jm_vr wd2 X 0 0), (1, jm_i l1), (2, jm_i l2), (3, jm_i l3), (4, jm_i 0)] [1, 2, 3, 4, 0] rfl ?_
  exact bX12_bests_13 X fu  fu M3 l1 l2 l3 0 hl1 hl2 hl3 (jm_inL (by decide) (by decide))
abbrev rmX12_best : Room := { frames := 10, cells := 0, slots := 0, locals := 248 }
set_option maxHeartbeats 4000000 in
set_option maxRecDepth 100000 in
theorem b0X12_best_37 (X : jm_X) (fu : Nat) (k37 : jm_M → Int → Int → jm_R) (hk37 : ∀ (M : jm_M) (l2 l4 : Int) (hl2 : jm_in l2) (hl4 : jm_in l4), jm_J wd2 (jm_qi .int) cX12_best 5 RX12 rmX12_best X M [(0, jm_vr wd2 X 0 0), (2, jm_i l2), (4, jm_i l4)] [] 37 (k37 M l2 l4)) : ∀ (M : jm_M) (l2 l4 : Int) (hl2 : jm_in l2) (hl4 : jm_in l4), jm_J wd2 (jm_qi .int) cX12_best 5 RX12 rmX12_best X M [(0, jm_vr wd2 X 0 0), (2, jm_i l2), (4, jm_i l4)] [] 37 (gX12_best_37 fu k37 M l2 l4) := by
  intro M l2 l4 hl2 hl4
  unfold gX12_best_37
  refine j_iload (pc := 37) dX12_best_37 (q := 2) rfl ?_
  refine j_iload_n (pc := 39) dX12_best_39 rfl (q := 1) rfl ?_
  refine j_icmp_ge (tgt := 83) (pc := 40) hl4 hl2 dX12_best_40 (by decide) (fun c1 => ?_) (fun c1 => ?_)
  · skip
    refine j_aload_n (pc := 83) dX12_best_83 rfl (q := 0) rfl ?_
    refine j_geti (pc := 84) jv2_0 jm_01 kf_RX12_527 kg2_0_89 dX12_best_84 (fun h2 => ?_)
    refine j_if_ge (tgt := 95) (pc := 87) h2 dX12_best_87 (by decide) (fun c3 => ?_) (fun c3 => ?_)
    · skip
      refine j_aload_n (pc := 95) dX12_best_95 rfl (q := 0) rfl ?_
      refine j_geti (pc := 96) jv2_0 jm_01 kf_RX12_527 kg2_0_89 dX12_best_96 (fun h4 => ?_)
      exact j_iret (pc := 99) h4 rfl dX12_best_99
    · skip
      refine j_bipush (pc := 90) (-2) dX12_best_90 (by decide) ?_
      refine j_goto (tgt := 99) (pc := 92) dX12_best_92 (by decide) ?_
      exact j_iret (pc := 99) (jm_inL (by decide) (by decide)) rfl dX12_best_99
  · skip
    refine j_aload_n (pc := 43) dX12_best_43 rfl (q := 0) rfl ?_
    refine j_getr (pc := 44) jv2_0 jm_01 kf_RX12_508 0 kg2_0_83 rfl dX12_best_44 ?_
    refine j_iconst (pc := 47) dX12_best_47 ?_
    refine j_iload (pc := 48) dX12_best_48 (q := 2) rfl ?_
    refine j_imul (pc := 50) dX12_best_50 ?_
    refine j_aload_n (pc := 51) dX12_best_51 rfl (q := 0) rfl ?_
    refine j_getr (pc := 52) jv2_0 jm_01 kf_RX12_537 0 kg2_0_91 rfl dX12_best_52 ?_
    refine j_iload (pc := 55) dX12_best_55 (q := 2) rfl ?_
    refine j_iald (pc := 57) jv2_74 jm_01 rfl (by decide) ka2_74 dX12_best_57 (fun c5 h6 => ?_)
    refine j_iast (pc := 58) jv2_69 jm_01 rfl (by decide) wI2 ka2_69 h6 dX12_best_58 (fun c7 M8 => ?_)
    refine j_aload_n (pc := 59) dX12_best_59 rfl (q := 0) rfl ?_
    refine j_getr (pc := 60) jv2_0 jm_01 kf_RX12_508 0 kg2_0_83 rfl dX12_best_60 ?_
    refine j_iconst (pc := 63) dX12_best_63 ?_
    refine j_iload (pc := 64) dX12_best_64 (q := 2) rfl ?_
    refine j_imul (pc := 66) dX12_best_66 ?_
    refine j_iconst (pc := 67) dX12_best_67 ?_
    refine j_iadd (pc := 68) dX12_best_68 ?_
    refine j_aload_n (pc := 69) dX12_best_69 rfl (q := 0) rfl ?_
    refine j_getr (pc := 70) jv2_0 jm_01 kf_RX12_540 0 kg2_0_92 rfl dX12_best_70 ?_
    refine j_iload (pc := 73) dX12_best_73 (q := 2) rfl ?_
    refine j_iald (pc := 75) jv2_75 jm_01 rfl (by decide) ka2_75 dX12_best_75 (fun c9 h10 => ?_)
    refine j_iast (pc := 76) jv2_69 jm_01 rfl (by decide) wI2 ka2_69 h10 dX12_best_76 (fun c11 M12 => ?_)
    refine j_iinc (pc := 77) [(0, jm_vr wd2 X 0 0), (2, jm_i l2)] (q := 2) dX12_best_77 rfl (by decide) (fun _ => rfl) (fun v13 h14 => ?_)
    refine j_goto (tgt := 37) (pc := 80) dX12_best_80 (by decide) ?_
    refine j_sub (pc := 37) [(0, jm_vr wd2 X 0 0), (2, jm_i l2), (4, jm_i v13)] [1, 2, 0] rfl ?_
    exact hk37 M12 l2 v13 hl2 h14
theorem bX12_best_37 (X : jm_X) (fu : Nat) : ∀ (n : Nat) (M : jm_M) (l2 l4 : Int) (hl2 : jm_in l2) (hl4 : jm_in l4), jm_J wd2 (jm_qi .int) cX12_best 5 RX12 rmX12_best X M [(0, jm_vr wd2 X 0 0), (2, jm_i l2), (4, jm_i l4)] [] 37 (fX12_best_37 fu n M l2 l4) := by
  intro n
  induction n with
  | zero => intro M l2 l4 hl2 hl4; exact j_none
  | succ n ih => intro M l2 l4 hl2 hl4; exact b0X12_best_37 X fu (fX12_best_37 fu n) ih M l2 l4 hl2 hl4
set_option maxHeartbeats 4000000 in
set_option maxRecDepth 100000 in
theorem ct_X12_best (fu : Nat) (M : jm_M) (l1 l2 l3 : Int) (hl1 : jm_in l1) (hl2 : jm_in l2) (hl3 : jm_in l3) : jm_Ci wd2 yX12_best cX12_best 5 (some .int) rmX12_best M (fun G ad => [.ref (ad (jm_r wd2 0 0)), jm_i l1, jm_i l2, jm_i l3]) (fX12_best fu M l1 l2 l3) := by
  refine jm_met_i (fun X => [(0, jm_vr wd2 X 0 0), (1, jm_i l1), (2, jm_i l2), (3, jm_i l3)]) (by decide) (fun _ _ => (Nat.le_of_ble_eq_true rfl)) (fun _ => rfl) (fun X => ?_)
  unfold fX12_best
  refine j_aload_n (pc := 0) dX12_best_0 rfl (q := 0) rfl ?_
  refine j_iconst (pc := 1) dX12_best_1 ?_
  refine j_put (pc := 2) jv2_0 jm_01 kf_RX12_3 wI2 kp_X12_0 kx2_0_0 (jm_inL (by decide) (by decide)) rfl rfl dX12_best_2 (fun M1 => ?_)
  refine j_aload_n (pc := 5) dX12_best_5 rfl (q := 0) rfl ?_
  refine j_iload_n (pc := 6) dX12_best_6 rfl (q := 1) rfl ?_
  refine j_iload_n (pc := 7) dX12_best_7 rfl (q := 2) rfl ?_
  refine j_iload_n (pc := 8) dX12_best_8 rfl (q := 3) rfl ?_
  refine j_callVi3 (pc := 9) (ct_X12_isAsked M1 l1 l2 l3 hl1 hl2 hl3) kg_1709 km_X12_isAsked kv_X12_isAsked rfl rfl ⟨(Nat.le_of_ble_eq_true rfl), (Nat.le_of_ble_eq_true rfl)⟩ jv2_0 jm_01 ko2_0 rfl rfl (Nat.le_of_ble_eq_true rfl) dX12_best_9 (fun v2 M3 h4 => ?_)
  refine j_if_eq (tgt := 25) (pc := 12) h4 dX12_best_12 (by decide) (fun c5 => ?_) (fun c5 => ?_)
  · skip
    refine j_iconst (pc := 25) dX12_best_25 ?_
    exact j_iret (pc := 26) (jm_inL (by decide) (by decide)) rfl dX12_best_26
  · skip
    refine j_aload_n (pc := 15) dX12_best_15 rfl (q := 0) rfl ?_
    refine j_iload_n (pc := 16) dX12_best_16 rfl (q := 1) rfl ?_
    refine j_iload_n (pc := 17) dX12_best_17 rfl (q := 2) rfl ?_
    refine j_iload_n (pc := 18) dX12_best_18 rfl (q := 3) rfl ?_
    refine j_callVi3 (pc := 19) (ct_X12_bests fu M3 l1 l2 l3 hl1 hl2 hl3) kg_1713 km_X12_bests kv_X12_bests rfl rfl ⟨(Nat.le_of_ble_eq_true rfl), (Nat.le_of_ble_eq_true rfl)⟩ jv2_0 jm_01 ko2_0 rfl rfl (Nat.le_of_ble_eq_true rfl) dX12_best_19 (fun v6 M7 h8 => ?_)
    refine j_if_ne (tgt := 27) (pc := 22) h8 dX12_best_22 (by decide) (fun c9 => ?_) (fun c9 => ?_)
    · skip
      refine j_iconst (pc := 25) dX12_best_25 ?_
      exact j_iret (pc := 26) (jm_inL (by decide) (by decide)) rfl dX12_best_26
    · skip
      refine j_aload_n (pc := 27) dX12_best_27 rfl (q := 0) rfl ?_
      refine j_iconst (pc := 28) dX12_best_28 ?_
      refine j_iload_n (pc := 29) dX12_best_29 rfl (q := 2) rfl ?_
      refine j_imul (pc := 30) dX12_best_30 ?_
      refine j_put (pc := 31) jv2_0 jm_01 kf_RX12_185 wI2 kp_X12_82 kx2_0_82 (jm_w_in _) rfl rfl dX12_best_31 (fun M10 => ?_)
      refine j_iconst (pc := 34) dX12_best_34 ?_
      refine j_istore (pc := 35) [(4, jm_i 0), (0, jm_vr wd2 X 0 0), (1, jm_i l1), (2, jm_i l2), (3, jm_i l3)] dX12_best_35 (by decide) rfl ?_
      refine j_sub (pc := 37) [(0, jm_vr wd2 X 0 0), (2, jm_i l2), (4, jm_i 0)] [1, 3, 0] rfl ?_
      exact bX12_best_37 X fu  fu M10 l2 0 hl2 (jm_inL (by decide) (by decide))
abbrev rmX12_gain : Room := { frames := 10, cells := 0, slots := 0, locals := 248 }
set_option maxHeartbeats 4000000 in
set_option maxRecDepth 100000 in
theorem bX12_gain_45 (X : jm_X) (fu : Nat) : ∀ (M : jm_M) (l1 l3 s0 : Int) (hl1 : jm_in l1) (hl3 : jm_in l3) (hs0 : jm_in s0), jm_J wd2 (jm_qi .int) cX12_gain 6 RX12 rmX12_gain X M [(0, jm_vr wd2 X 0 0), (1, jm_i l1), (3, jm_i l3)] [jm_i s0] 45 (gX12_gain_45 fu M l1 l3 s0) := by
  intro M l1 l3 s0 hl1 hl3 hs0
  unfold gX12_gain_45
  refine j_istore (pc := 45) [(4, jm_i s0), (0, jm_vr wd2 X 0 0), (1, jm_i l1), (3, jm_i l3)] dX12_gain_45 (by decide) rfl ?_
  refine j_aload_n (pc := 47) dX12_gain_47 rfl (q := 1) rfl ?_
  refine j_iload_n (pc := 48) dX12_gain_48 rfl (q := 3) rfl ?_
  refine j_callVv1 (pc := 49) (ct_X12_judges fu M l3 hl3) kg_1673 km_X12_judges kv_X12_judges rfl rfl ⟨(Nat.le_of_ble_eq_true rfl), (Nat.le_of_ble_eq_true rfl)⟩ jv2_0 jm_01 ko2_0 rfl rfl (Nat.le_of_ble_eq_true rfl) dX12_gain_49 (fun v1 M2 => ?_)
  refine j_aload_n (pc := 52) dX12_gain_52 rfl (q := 1) rfl ?_
  refine j_iload_n (pc := 53) dX12_gain_53 rfl (q := 2) rfl ?_
  refine j_iconst (pc := 54) dX12_gain_54 ?_
  refine j_callVi2 (pc := 55) (ct_X12_placeOf fu M2 l1 0 hl1 (jm_inL (by decide) (by decide))) kg_1681 km_X12_placeOf kv_X12_placeOf rfl rfl ⟨(Nat.le_of_ble_eq_true rfl), (Nat.le_of_ble_eq_true rfl)⟩ jv2_0 jm_01 ko2_0 rfl rfl (Nat.le_of_ble_eq_true rfl) dX12_gain_55 (fun v3 M4 h5 => ?_)
  refine j_istore (pc := 58) [(5, jm_i v3), (4, jm_i s0), (0, jm_vr wd2 X 0 0), (1, jm_i l1), (3, jm_i l3)] dX12_gain_58 (by decide) rfl ?_
  refine j_iconst (pc := 60) dX12_gain_60 ?_
  refine j_iload (pc := 61) dX12_gain_61 (q := 0) rfl ?_
  refine j_if_ge (tgt := 73) (pc := 63) h5 dX12_gain_63 (by decide) (fun c6 => ?_) (fun c6 => ?_)
  · skip
    refine j_iload (pc := 73) dX12_gain_73 (q := 0) rfl ?_
    refine j_iload (pc := 75) dX12_gain_75 (q := 1) rfl ?_
    refine j_isub (pc := 77) dX12_gain_77 ?_
    refine j_mmax (pc := 78) (jm_inL (by decide) (by decide)) (jm_w_in _) kg_1579 kg_61 kg_5 kg_62 ⟨(Nat.le_of_ble_eq_true rfl), (Nat.le_of_ble_eq_true rfl)⟩ (Nat.le_of_ble_eq_true rfl) dX12_gain_78 ?_
    exact j_iret (pc := 81) (jm_max_in (jm_inL (by decide) (by decide)) (jm_w_in _)) rfl dX12_gain_81
  · skip
    refine j_aload_n (pc := 66) dX12_gain_66 rfl (q := 2) rfl ?_
    refine j_geti (pc := 67) jv2_0 jm_01 kf_RX12_30 kg2_0_17 dX12_gain_67 (fun h7 => ?_)
    refine j_goto (tgt := 75) (pc := 70) dX12_gain_70 (by decide) ?_
    refine j_iload (pc := 75) dX12_gain_75 (q := 1) rfl ?_
    refine j_isub (pc := 77) dX12_gain_77 ?_
    refine j_mmax (pc := 78) (jm_inL (by decide) (by decide)) (jm_w_in _) kg_1579 kg_61 kg_5 kg_62 ⟨(Nat.le_of_ble_eq_true rfl), (Nat.le_of_ble_eq_true rfl)⟩ (Nat.le_of_ble_eq_true rfl) dX12_gain_78 ?_
    exact j_iret (pc := 81) (jm_max_in (jm_inL (by decide) (by decide)) (jm_w_in _)) rfl dX12_gain_81
set_option maxHeartbeats 4000000 in
set_option maxRecDepth 100000 in
theorem ct_X12_gain (fu : Nat) (M : jm_M) (l1 l2 l3 : Int) (hl1 : jm_in l1) (hl2 : jm_in l2) (hl3 : jm_in l3) : jm_Ci wd2 yX12_gain cX12_gain 6 (some .int) rmX12_gain M (fun G ad => [.ref (ad (jm_r wd2 0 0)), jm_i l1, jm_i l2, jm_i l3]) (fX12_gain fu M l1 l2 l3) := by
  refine jm_met_i (fun X => [(0, jm_vr wd2 X 0 0), (1, jm_i l1), (2, jm_i l2), (3, jm_i l3)]) (by decide) (fun _ _ => (Nat.le_of_ble_eq_true rfl)) (fun _ => rfl) (fun X => ?_)
  unfold fX12_gain
  refine j_aload_n (pc := 0) dX12_gain_0 rfl (q := 0) rfl ?_
  refine j_iconst (pc := 1) dX12_gain_1 ?_
  refine j_put (pc := 2) jv2_0 jm_01 kf_RX12_3 wI2 kp_X12_0 kx2_0_0 (jm_inL (by decide) (by decide)) rfl rfl dX12_gain_2 (fun M1 => ?_)
  refine j_aload_n (pc := 5) dX12_gain_5 rfl (q := 0) rfl ?_
  refine j_iload_n (pc := 6) dX12_gain_6 rfl (q := 1) rfl ?_
  refine j_iload_n (pc := 7) dX12_gain_7 rfl (q := 2) rfl ?_
  refine j_iload_n (pc := 8) dX12_gain_8 rfl (q := 3) rfl ?_
  refine j_callVi3 (pc := 9) (ct_X12_isAsked M1 l1 l2 l3 hl1 hl2 hl3) kg_1709 km_X12_isAsked kv_X12_isAsked rfl rfl ⟨(Nat.le_of_ble_eq_true rfl), (Nat.le_of_ble_eq_true rfl)⟩ jv2_0 jm_01 ko2_0 rfl rfl (Nat.le_of_ble_eq_true rfl) dX12_gain_9 (fun v2 M3 h4 => ?_)
  refine j_if_eq (tgt := 25) (pc := 12) h4 dX12_gain_12 (by decide) (fun c5 => ?_) (fun c5 => ?_)
  · skip
    refine j_iconst (pc := 25) dX12_gain_25 ?_
    exact j_iret (pc := 26) (jm_inL (by decide) (by decide)) rfl dX12_gain_26
  · skip
    refine j_aload_n (pc := 15) dX12_gain_15 rfl (q := 0) rfl ?_
    refine j_iload_n (pc := 16) dX12_gain_16 rfl (q := 1) rfl ?_
    refine j_iload_n (pc := 17) dX12_gain_17 rfl (q := 2) rfl ?_
    refine j_iload_n (pc := 18) dX12_gain_18 rfl (q := 3) rfl ?_
    refine j_callVi3 (pc := 19) (ct_X12_bests fu M3 l1 l2 l3 hl1 hl2 hl3) kg_1713 km_X12_bests kv_X12_bests rfl rfl ⟨(Nat.le_of_ble_eq_true rfl), (Nat.le_of_ble_eq_true rfl)⟩ jv2_0 jm_01 ko2_0 rfl rfl (Nat.le_of_ble_eq_true rfl) dX12_gain_19 (fun v6 M7 h8 => ?_)
    refine j_if_ne (tgt := 27) (pc := 22) h8 dX12_gain_22 (by decide) (fun c9 => ?_) (fun c9 => ?_)
    · skip
      refine j_iconst (pc := 25) dX12_gain_25 ?_
      exact j_iret (pc := 26) (jm_inL (by decide) (by decide)) rfl dX12_gain_26
    · skip
      refine j_aload_n (pc := 27) dX12_gain_27 rfl (q := 0) rfl ?_
      refine j_geti (pc := 28) jv2_0 jm_01 kf_RX12_527 kg2_0_89 dX12_gain_28 (fun h10 => ?_)
      refine j_if_ge (tgt := 41) (pc := 31) h10 dX12_gain_31 (by decide) (fun c11 => ?_) (fun c11 => ?_)
      · skip
        refine j_aload_n (pc := 41) dX12_gain_41 rfl (q := 0) rfl ?_
        refine j_geti (pc := 42) jv2_0 jm_01 kf_RX12_527 kg2_0_89 dX12_gain_42 (fun h12 => ?_)
        refine j_sub (pc := 45) [(0, jm_vr wd2 X 0 0), (1, jm_i l1), (3, jm_i l3)] [0, 1, 3] rfl ?_
        exact bX12_gain_45 X fu  M7 l1 l3 (M7 0 0 89) hl1 hl3 h12
      · skip
        refine j_aload_n (pc := 34) dX12_gain_34 rfl (q := 0) rfl ?_
        refine j_geti (pc := 35) jv2_0 jm_01 kf_RX12_30 kg2_0_17 dX12_gain_35 (fun h13 => ?_)
        refine j_goto (tgt := 45) (pc := 38) dX12_gain_38 (by decide) ?_
        refine j_sub (pc := 45) [(0, jm_vr wd2 X 0 0), (1, jm_i l1), (3, jm_i l3)] [0, 1, 3] rfl ?_
        exact bX12_gain_45 X fu  M7 l1 l3 (M7 0 0 17) hl1 hl3 h13
abbrev rmX12_option : Room := { frames := 2, cells := 0, slots := 0, locals := 46 }
set_option maxHeartbeats 4000000 in
set_option maxRecDepth 100000 in
theorem bX12_option_38 (X : jm_X) (fu : Nat) : ∀ (M : jm_M) (l1 l2 l3 s0 : Int) (hl1 : jm_in l1) (hl2 : jm_in l2) (hl3 : jm_in l3) (hs0 : jm_in s0), jm_J wd2 (jm_qi .int) cX12_option 5 RX12 rmX12_option X M [(0, jm_vr wd2 X 0 0), (1, jm_i l1), (2, jm_i l2), (3, jm_i l3)] [jm_i s0] 38 (gX12_option_38 fu M l1 l2 l3 s0) := by
  intro M l1 l2 l3 s0 hl1 hl2 hl3 hs0
  unfold gX12_option_38
  refine j_istore (pc := 38) [(4, jm_i s0), (0, jm_vr wd2 X 0 0), (1, jm_i l1), (2, jm_i l2), (3, jm_i l3)] dX12_option_38 (by decide) rfl ?_
  refine j_iload (pc := 40) dX12_option_40 (q := 0) rfl ?_
  refine j_if_eq (tgt := 55) (pc := 42) hs0 dX12_option_42 (by decide) (fun c1 => ?_) (fun c1 => ?_)
  · skip
    refine j_iconst (pc := 55) dX12_option_55 ?_
    exact j_iret (pc := 56) (jm_inL (by decide) (by decide)) rfl dX12_option_56
  · skip
    refine j_aload_n (pc := 45) dX12_option_45 rfl (q := 1) rfl ?_
    refine j_getr (pc := 46) jv2_0 jm_01 kf_RX12_39 0 kg2_0_36 rfl dX12_option_46 ?_
    refine j_iload_n (pc := 49) dX12_option_49 rfl (q := 2) rfl ?_
    refine j_iald (pc := 50) jv2_31 jm_01 rfl (by decide) ka2_31 dX12_option_50 (fun c2 h3 => ?_)
    refine j_iconst (pc := 51) dX12_option_51 ?_
    refine j_icmp_ne (tgt := 57) (pc := 52) h3 (jm_inL (by decide) (by decide)) dX12_option_52 (by decide) (fun c4 => ?_) (fun c4 => ?_)
    · skip
      refine j_iconst (pc := 55) dX12_option_55 ?_
      exact j_iret (pc := 56) (jm_inL (by decide) (by decide)) rfl dX12_option_56
    · skip
      refine j_aload_n (pc := 57) dX12_option_57 rfl (q := 1) rfl ?_
      refine j_getr (pc := 58) jv2_0 jm_01 kf_RX12_560 0 kg2_0_37 rfl dX12_option_58 ?_
      refine j_iconst (pc := 61) dX12_option_61 ?_
      refine j_iload_n (pc := 62) dX12_option_62 rfl (q := 2) rfl ?_
      refine j_imul (pc := 63) dX12_option_63 ?_
      refine j_aload_n (pc := 64) dX12_option_64 rfl (q := 1) rfl ?_
      refine j_getr (pc := 65) jv2_0 jm_01 kf_RX12_39 0 kg2_0_36 rfl dX12_option_65 ?_
      refine j_iload_n (pc := 68) dX12_option_68 rfl (q := 2) rfl ?_
      refine j_iald (pc := 69) jv2_31 jm_01 rfl (by decide) ka2_31 dX12_option_69 (fun c5 h6 => ?_)
      refine j_iadd (pc := 70) dX12_option_70 ?_
      refine j_iload_n (pc := 71) dX12_option_71 rfl (q := 3) rfl ?_
      refine j_iast (pc := 72) jv2_32 jm_01 rfl (by decide) wI2 ka2_32 hl2 dX12_option_72 (fun c7 M8 => ?_)
      refine j_aload_n (pc := 73) dX12_option_73 rfl (q := 1) rfl ?_
      refine j_getr (pc := 74) jv2_0 jm_01 kf_RX12_563 0 kg2_0_38 rfl dX12_option_74 ?_
      refine j_iconst (pc := 77) dX12_option_77 ?_
      refine j_iload_n (pc := 78) dX12_option_78 rfl (q := 2) rfl ?_
      refine j_imul (pc := 79) dX12_option_79 ?_
      refine j_aload_n (pc := 80) dX12_option_80 rfl (q := 1) rfl ?_
      refine j_getr (pc := 81) jv2_0 jm_01 kf_RX12_39 0 kg2_0_36 rfl dX12_option_81 ?_
      refine j_iload_n (pc := 84) dX12_option_84 rfl (q := 2) rfl ?_
      refine j_iald (pc := 85) jv2_31 jm_01 rfl (by decide) ka2_31 dX12_option_85 (fun c9 h10 => ?_)
      refine j_iadd (pc := 86) dX12_option_86 ?_
      refine j_iload_n (pc := 87) dX12_option_87 rfl (q := 4) rfl ?_
      refine j_iast (pc := 88) jv2_33 jm_01 rfl (by decide) wI2 ka2_33 hl3 dX12_option_88 (fun c11 M12 => ?_)
      refine j_aload_n (pc := 89) dX12_option_89 rfl (q := 1) rfl ?_
      refine j_getr (pc := 90) jv2_0 jm_01 kf_RX12_39 0 kg2_0_36 rfl dX12_option_90 ?_
      refine j_iload_n (pc := 93) dX12_option_93 rfl (q := 2) rfl ?_
      refine j_dup2 (pc := 94) dX12_option_94 rfl rfl ?_
      refine j_iald (pc := 95) jv2_31 jm_01 rfl (by decide) ka2_31 dX12_option_95 (fun c13 h14 => ?_)
      refine j_iconst (pc := 96) dX12_option_96 ?_
      refine j_iadd (pc := 97) dX12_option_97 ?_
      refine j_iast (pc := 98) jv2_31 jm_01 rfl (by decide) wI2 ka2_31 (jm_w_in _) dX12_option_98 (fun c15 M16 => ?_)
      refine j_aload_n (pc := 99) dX12_option_99 rfl (q := 1) rfl ?_
      refine j_getr (pc := 100) jv2_0 jm_01 kf_RX12_39 0 kg2_0_36 rfl dX12_option_100 ?_
      refine j_iload_n (pc := 103) dX12_option_103 rfl (q := 2) rfl ?_
      refine j_iald (pc := 104) jv2_31 jm_01 rfl (by decide) ka2_31 dX12_option_104 (fun c17 h18 => ?_)
      exact j_iret (pc := 105) h18 rfl dX12_option_105
set_option maxHeartbeats 4000000 in
set_option maxRecDepth 100000 in
theorem ct_X12_option (fu : Nat) (M : jm_M) (l1 l2 l3 : Int) (hl1 : jm_in l1) (hl2 : jm_in l2) (hl3 : jm_in l3) : jm_Ci wd2 yX12_option cX12_option 5 (some .int) rmX12_option M (fun G ad => [.ref (ad (jm_r wd2 0 0)), jm_i l1, jm_i l2, jm_i l3]) (fX12_option fu M l1 l2 l3) := by
  refine jm_met_i (fun X => [(0, jm_vr wd2 X 0 0), (1, jm_i l1), (2, jm_i l2), (3, jm_i l3)]) (by decide) (fun _ _ => (Nat.le_of_ble_eq_true rfl)) (fun _ => rfl) (fun X => ?_)
  unfold fX12_option
  refine j_aload_n (pc := 0) dX12_option_0 rfl (q := 0) rfl ?_
  refine j_iconst (pc := 1) dX12_option_1 ?_
  refine j_put (pc := 2) jv2_0 jm_01 kf_RX12_3 wI2 kp_X12_0 kx2_0_0 (jm_inL (by decide) (by decide)) rfl rfl dX12_option_2 (fun M1 => ?_)
  refine j_aload_n (pc := 5) dX12_option_5 rfl (q := 0) rfl ?_
  refine j_iload_n (pc := 6) dX12_option_6 rfl (q := 1) rfl ?_
  refine j_callVi1 (pc := 7) (ct_X12_isCar M1 l1 hl1) kg_1405 km_X12_isCar kv_X12_isCar rfl rfl ⟨(Nat.le_of_ble_eq_true rfl), (Nat.le_of_ble_eq_true rfl)⟩ jv2_0 jm_01 ko2_0 rfl rfl (Nat.le_of_ble_eq_true rfl) dX12_option_7 (fun v2 M3 h4 => ?_)
  refine j_if_eq (tgt := 37) (pc := 10) h4 dX12_option_10 (by decide) (fun c5 => ?_) (fun c5 => ?_)
  · skip
    refine j_iconst (pc := 37) dX12_option_37 ?_
    refine j_sub (pc := 38) [(0, jm_vr wd2 X 0 0), (1, jm_i l1), (2, jm_i l2), (3, jm_i l3)] [0, 1, 2, 3] rfl ?_
    exact bX12_option_38 X fu  M3 l1 l2 l3 0 hl1 hl2 hl3 (jm_inL (by decide) (by decide))
  · skip
    refine j_iload_n (pc := 13) dX12_option_13 rfl (q := 2) rfl ?_
    refine j_iconst (pc := 14) dX12_option_14 ?_
    refine j_icmp_eq (tgt := 26) (pc := 15) hl2 (jm_inL (by decide) (by decide)) dX12_option_15 (by decide) (fun c6 => ?_) (fun c6 => ?_)
    · skip
      refine j_iload_n (pc := 26) dX12_option_26 rfl (q := 3) rfl ?_
      refine j_callSi1 (pc := 27) (ct_X12_isSet M3 l3 hl3) kg_1425 km_X12_isSet kg_1426 rfl rfl ⟨(Nat.le_of_ble_eq_true rfl), (Nat.le_of_ble_eq_true rfl)⟩ rfl rfl (Nat.le_of_ble_eq_true rfl) dX12_option_27 (fun v7 M8 h9 => ?_)
      refine j_if_eq (tgt := 37) (pc := 30) h9 dX12_option_30 (by decide) (fun c10 => ?_) (fun c10 => ?_)
      · skip
        refine j_iconst (pc := 37) dX12_option_37 ?_
        refine j_sub (pc := 38) [(0, jm_vr wd2 X 0 0), (1, jm_i l1), (2, jm_i l2), (3, jm_i l3)] [0, 1, 2, 3] rfl ?_
        exact bX12_option_38 X fu  M8 l1 l2 l3 0 hl1 hl2 hl3 (jm_inL (by decide) (by decide))
      · skip
        refine j_iconst (pc := 33) dX12_option_33 ?_
        refine j_goto (tgt := 38) (pc := 34) dX12_option_34 (by decide) ?_
        refine j_sub (pc := 38) [(0, jm_vr wd2 X 0 0), (1, jm_i l1), (2, jm_i l2), (3, jm_i l3)] [0, 1, 2, 3] rfl ?_
        exact bX12_option_38 X fu  M8 l1 l2 l3 1 hl1 hl2 hl3 (jm_inL (by decide) (by decide))
    · skip
      refine j_aload_n (pc := 18) dX12_option_18 rfl (q := 0) rfl ?_
      refine j_iload_n (pc := 19) dX12_option_19 rfl (q := 2) rfl ?_
      refine j_callVi1 (pc := 20) (ct_X12_isStopLap M3 l2 hl2) kg_1421 km_X12_isStopLap kv_X12_isStopLap rfl rfl ⟨(Nat.le_of_ble_eq_true rfl), (Nat.le_of_ble_eq_true rfl)⟩ jv2_0 jm_01 ko2_0 rfl rfl (Nat.le_of_ble_eq_true rfl) dX12_option_20 (fun v11 M12 h13 => ?_)
      refine j_if_eq (tgt := 37) (pc := 23) h13 dX12_option_23 (by decide) (fun c14 => ?_) (fun c14 => ?_)
      · skip
        refine j_iconst (pc := 37) dX12_option_37 ?_
        refine j_sub (pc := 38) [(0, jm_vr wd2 X 0 0), (1, jm_i l1), (2, jm_i l2), (3, jm_i l3)] [0, 1, 2, 3] rfl ?_
        exact bX12_option_38 X fu  M12 l1 l2 l3 0 hl1 hl2 hl3 (jm_inL (by decide) (by decide))
      · skip
        refine j_iload_n (pc := 26) dX12_option_26 rfl (q := 3) rfl ?_
        refine j_callSi1 (pc := 27) (ct_X12_isSet M12 l3 hl3) kg_1425 km_X12_isSet kg_1426 rfl rfl ⟨(Nat.le_of_ble_eq_true rfl), (Nat.le_of_ble_eq_true rfl)⟩ rfl rfl (Nat.le_of_ble_eq_true rfl) dX12_option_27 (fun v15 M16 h17 => ?_)
        refine j_if_eq (tgt := 37) (pc := 30) h17 dX12_option_30 (by decide) (fun c18 => ?_) (fun c18 => ?_)
        · skip
          refine j_iconst (pc := 37) dX12_option_37 ?_
          refine j_sub (pc := 38) [(0, jm_vr wd2 X 0 0), (1, jm_i l1), (2, jm_i l2), (3, jm_i l3)] [0, 1, 2, 3] rfl ?_
          exact bX12_option_38 X fu  M16 l1 l2 l3 0 hl1 hl2 hl3 (jm_inL (by decide) (by decide))
        · skip
          refine j_iconst (pc := 33) dX12_option_33 ?_
          refine j_goto (tgt := 38) (pc := 34) dX12_option_34 (by decide) ?_
          refine j_sub (pc := 38) [(0, jm_vr wd2 X 0 0), (1, jm_i l1), (2, jm_i l2), (3, jm_i l3)] [0, 1, 2, 3] rfl ?_
          exact bX12_option_38 X fu  M16 l1 l2 l3 1 hl1 hl2 hl3 (jm_inL (by decide) (by decide))
abbrev rmX12_clear : Room := { frames := 0, cells := 0, slots := 0, locals := 0 }
set_option maxHeartbeats 4000000 in
set_option maxRecDepth 100000 in
theorem bX12_clear_34 (X : jm_X) (fu : Nat) (k9 : jm_M → Int → Int → jm_R) (hk9 : ∀ (M : jm_M) (l1 l2 : Int) (hl1 : jm_in l1) (hl2 : jm_in l2), jm_J wd2 (jm_qi .int) cX12_clear 3 RX12 rmX12_clear X M [(0, jm_vr wd2 X 0 0), (1, jm_i l1), (2, jm_i l2)] [] 9 (k9 M l1 l2)) : ∀ (M : jm_M) (l2 s0 s1 : Int) (hl2 : jm_in l2) (hs0 : jm_in s0) (hs1 : jm_in s1), jm_J wd2 (jm_qi .int) cX12_clear 3 RX12 rmX12_clear X M [(0, jm_vr wd2 X 0 0), (2, jm_i l2)] [jm_i s0, jm_i s1] 34 (gX12_clear_34 fu k9 M l2 s0 s1) := by
  intro M l2 s0 s1 hl2 hs0 hs1
  unfold gX12_clear_34
  refine j_iadd (pc := 34) dX12_clear_34 ?_
  refine j_nm (pc := 35) (jm_w_in _) (fun v1 h2 => ?_)
  refine j_istore_n (pc := 35) [(1, jm_i v1), (0, jm_vr wd2 X 0 0), (2, jm_i l2)] dX12_clear_35 rfl (by decide) rfl ?_
  refine j_aload_n (pc := 36) dX12_clear_36 rfl (q := 1) rfl ?_
  refine j_getr (pc := 37) jv2_0 jm_01 kf_RX12_39 0 kg2_0_36 rfl dX12_clear_37 ?_
  refine j_iload_n (pc := 40) dX12_clear_40 rfl (q := 2) rfl ?_
  refine j_iconst (pc := 41) dX12_clear_41 ?_
  refine j_iast (pc := 42) jv2_31 jm_01 rfl (by decide) wI2 ka2_31 (jm_inL (by decide) (by decide)) dX12_clear_42 (fun c3 M4 => ?_)
  refine j_iinc (pc := 43) [(1, jm_i v1), (0, jm_vr wd2 X 0 0)] (q := 2) dX12_clear_43 rfl (by decide) (fun _ => rfl) (fun v5 h6 => ?_)
  refine j_goto (tgt := 9) (pc := 46) dX12_clear_46 (by decide) ?_
  refine j_sub (pc := 9) [(0, jm_vr wd2 X 0 0), (1, jm_i v1), (2, jm_i v5)] [2, 1, 0] rfl ?_
  exact hk9 M4 v1 v5 h2 h6
set_option maxHeartbeats 4000000 in
set_option maxRecDepth 100000 in
theorem b0X12_clear_9 (X : jm_X) (fu : Nat) (k9 : jm_M → Int → Int → jm_R) (hk9 : ∀ (M : jm_M) (l1 l2 : Int) (hl1 : jm_in l1) (hl2 : jm_in l2), jm_J wd2 (jm_qi .int) cX12_clear 3 RX12 rmX12_clear X M [(0, jm_vr wd2 X 0 0), (1, jm_i l1), (2, jm_i l2)] [] 9 (k9 M l1 l2)) : ∀ (M : jm_M) (l1 l2 : Int) (hl1 : jm_in l1) (hl2 : jm_in l2), jm_J wd2 (jm_qi .int) cX12_clear 3 RX12 rmX12_clear X M [(0, jm_vr wd2 X 0 0), (1, jm_i l1), (2, jm_i l2)] [] 9 (gX12_clear_9 fu k9 M l1 l2) := by
  intro M l1 l2 hl1 hl2
  unfold gX12_clear_9
  refine j_iload_n (pc := 9) dX12_clear_9 rfl (q := 2) rfl ?_
  refine j_bipush (pc := 10) 6 dX12_clear_10 (by decide) ?_
  refine j_icmp_ge (tgt := 49) (pc := 12) hl2 (jm_inL (by decide) (by decide)) dX12_clear_12 (by decide) (fun c1 => ?_) (fun c1 => ?_)
  · skip
    refine j_iload_n (pc := 49) dX12_clear_49 rfl (q := 1) rfl ?_
    exact j_iret (pc := 50) hl1 rfl dX12_clear_50
  · skip
    refine j_iload_n (pc := 15) dX12_clear_15 rfl (q := 1) rfl ?_
    refine j_iload_n (pc := 16) dX12_clear_16 rfl (q := 2) rfl ?_
    refine j_aload_n (pc := 17) dX12_clear_17 rfl (q := 0) rfl ?_
    refine j_geti (pc := 18) jv2_0 jm_01 kf_RX12_30 kg2_0_17 dX12_clear_18 (fun h2 => ?_)
    refine j_icmp_ge (tgt := 33) (pc := 21) hl2 h2 dX12_clear_21 (by decide) (fun c3 => ?_) (fun c3 => ?_)
    · skip
      refine j_iconst (pc := 33) dX12_clear_33 ?_
      refine j_sub (pc := 34) [(0, jm_vr wd2 X 0 0), (2, jm_i l2)] [0, 2] rfl ?_
      exact bX12_clear_34 X fu k9 hk9 M l2 0 l1 hl2 (jm_inL (by decide) (by decide)) hl1
    · skip
      refine j_aload_n (pc := 24) dX12_clear_24 rfl (q := 0) rfl ?_
      refine j_getr (pc := 25) jv2_0 jm_01 kf_RX12_39 0 kg2_0_36 rfl dX12_clear_25 ?_
      refine j_iload_n (pc := 28) dX12_clear_28 rfl (q := 2) rfl ?_
      refine j_iald (pc := 29) jv2_31 jm_01 rfl (by decide) ka2_31 dX12_clear_29 (fun c4 h5 => ?_)
      refine j_goto (tgt := 34) (pc := 30) dX12_clear_30 (by decide) ?_
      refine j_sub (pc := 34) [(0, jm_vr wd2 X 0 0), (2, jm_i l2)] [0, 2] rfl ?_
      exact bX12_clear_34 X fu k9 hk9 M l2 (M 31 0 l2) l1 hl2 h5 hl1
theorem bX12_clear_9 (X : jm_X) (fu : Nat) : ∀ (n : Nat) (M : jm_M) (l1 l2 : Int) (hl1 : jm_in l1) (hl2 : jm_in l2), jm_J wd2 (jm_qi .int) cX12_clear 3 RX12 rmX12_clear X M [(0, jm_vr wd2 X 0 0), (1, jm_i l1), (2, jm_i l2)] [] 9 (fX12_clear_9 fu n M l1 l2) := by
  intro n
  induction n with
  | zero => intro M l1 l2 hl1 hl2; exact j_none
  | succ n ih => intro M l1 l2 hl1 hl2; exact b0X12_clear_9 X fu (fX12_clear_9 fu n) ih M l1 l2 hl1 hl2
set_option maxHeartbeats 4000000 in
set_option maxRecDepth 100000 in
theorem ct_X12_clear (fu : Nat) (M : jm_M) : jm_Ci wd2 yX12_clear cX12_clear 3 (some .int) rmX12_clear M (fun G ad => [.ref (ad (jm_r wd2 0 0))]) (fX12_clear fu M ) := by
  refine jm_met_i (fun X => [(0, jm_vr wd2 X 0 0)]) (by decide) (fun _ _ => (Nat.le_of_ble_eq_true rfl)) (fun _ => rfl) (fun X => ?_)
  unfold fX12_clear
  refine j_aload_n (pc := 0) dX12_clear_0 rfl (q := 0) rfl ?_
  refine j_iconst (pc := 1) dX12_clear_1 ?_
  refine j_put (pc := 2) jv2_0 jm_01 kf_RX12_3 wI2 kp_X12_0 kx2_0_0 (jm_inL (by decide) (by decide)) rfl rfl dX12_clear_2 (fun M1 => ?_)
  refine j_iconst (pc := 5) dX12_clear_5 ?_
  refine j_istore_n (pc := 6) [(1, jm_i 0), (0, jm_vr wd2 X 0 0)] dX12_clear_6 rfl (by decide) rfl ?_
  refine j_iconst (pc := 7) dX12_clear_7 ?_
  refine j_istore_n (pc := 8) [(2, jm_i 0), (1, jm_i 0), (0, jm_vr wd2 X 0 0)] dX12_clear_8 rfl (by decide) rfl ?_
  refine j_sub (pc := 9) [(0, jm_vr wd2 X 0 0), (1, jm_i 0), (2, jm_i 0)] [2, 1, 0] rfl ?_
  exact bX12_clear_9 X fu  fu M1 0 0 (jm_inL (by decide) (by decide)) (jm_inL (by decide) (by decide))
abbrev rmX12_chooses : Room := { frames := 1, cells := 0, slots := 0, locals := 25 }
set_option maxHeartbeats 4000000 in
set_option maxRecDepth 100000 in
theorem ct_X12_chooses (M : jm_M) (l1 l2 : Int) (hl1 : jm_in l1) (hl2 : jm_in l2) : jm_Cv wd2 yX12_chooses cX12_chooses 3 none rmX12_chooses M (fun G ad => [.ref (ad (jm_r wd2 0 0)), jm_i l1, jm_i l2]) (fX12_chooses M l1 l2) := by
  refine jm_met_v (fun X => [(0, jm_vr wd2 X 0 0), (1, jm_i l1), (2, jm_i l2)]) (by decide) (fun _ _ => (Nat.le_of_ble_eq_true rfl)) (fun _ => rfl) (fun X => ?_)
  unfold fX12_chooses
  refine j_aload_n (pc := 0) dX12_chooses_0 rfl (q := 0) rfl ?_
  refine j_getr (pc := 1) jv2_0 jm_01 kf_RX12_139 0 kg2_0_31 rfl dX12_chooses_1 ?_
  refine j_iload_n (pc := 4) dX12_chooses_4 rfl (q := 1) rfl ?_
  refine j_iconst (pc := 5) dX12_chooses_5 ?_
  refine j_iast (pc := 6) jv2_26 jm_01 rfl (by decide) wI2 ka2_26 (jm_inL (by decide) (by decide)) dX12_chooses_6 (fun c1 M2 => ?_)
  refine j_aload_n (pc := 7) dX12_chooses_7 rfl (q := 0) rfl ?_
  refine j_getr (pc := 8) jv2_0 jm_01 kf_RX12_560 0 kg2_0_37 rfl dX12_chooses_8 ?_
  refine j_iconst (pc := 11) dX12_chooses_11 ?_
  refine j_iload_n (pc := 12) dX12_chooses_12 rfl (q := 1) rfl ?_
  refine j_imul (pc := 13) dX12_chooses_13 ?_
  refine j_iload_n (pc := 14) dX12_chooses_14 rfl (q := 2) rfl ?_
  refine j_iadd (pc := 15) dX12_chooses_15 ?_
  refine j_iald (pc := 16) jv2_32 jm_01 rfl (by decide) ka2_32 dX12_chooses_16 (fun c3 h4 => ?_)
  refine j_if_lt (tgt := 48) (pc := 17) h4 dX12_chooses_17 (by decide) (fun c5 => ?_) (fun c5 => ?_)
  · skip
    exact j_vret (pc := 48) dX12_chooses_48
  · skip
    refine j_aload_n (pc := 20) dX12_chooses_20 rfl (q := 0) rfl ?_
    refine j_iload_n (pc := 21) dX12_chooses_21 rfl (q := 1) rfl ?_
    refine j_aload_n (pc := 22) dX12_chooses_22 rfl (q := 0) rfl ?_
    refine j_getr (pc := 23) jv2_0 jm_01 kf_RX12_560 0 kg2_0_37 rfl dX12_chooses_23 ?_
    refine j_iconst (pc := 26) dX12_chooses_26 ?_
    refine j_iload_n (pc := 27) dX12_chooses_27 rfl (q := 1) rfl ?_
    refine j_imul (pc := 28) dX12_chooses_28 ?_
    refine j_iload_n (pc := 29) dX12_chooses_29 rfl (q := 2) rfl ?_
    refine j_iadd (pc := 30) dX12_chooses_30 ?_
    refine j_iald (pc := 31) jv2_32 jm_01 rfl (by decide) ka2_32 dX12_chooses_31 (fun c6 h7 => ?_)
    refine j_aload_n (pc := 32) dX12_chooses_32 rfl (q := 0) rfl ?_
    refine j_getr (pc := 33) jv2_0 jm_01 kf_RX12_563 0 kg2_0_38 rfl dX12_chooses_33 ?_
    refine j_iconst (pc := 36) dX12_chooses_36 ?_
    refine j_iload_n (pc := 37) dX12_chooses_37 rfl (q := 1) rfl ?_
    refine j_imul (pc := 38) dX12_chooses_38 ?_
    refine j_iload_n (pc := 39) dX12_chooses_39 rfl (q := 2) rfl ?_
    refine j_iadd (pc := 40) dX12_chooses_40 ?_
    refine j_iald (pc := 41) jv2_33 jm_01 rfl (by decide) ka2_33 dX12_chooses_41 (fun c8 h9 => ?_)
    refine j_sipush (pc := 42) 200 dX12_chooses_42 (by decide) ?_
    refine j_callVv4 (pc := 45) (ct_X12_puts M2 l1 (M2 32 0 (jm_w ((jm_w (4 * l1)) + l2))) (M2 33 0 (jm_w ((jm_w (4 * l1)) + l2))) 200 hl1 h7 h9 (jm_inL (by decide) (by decide))) kg_1428 km_X12_puts kv_X12_puts rfl rfl ⟨(Nat.le_of_ble_eq_true rfl), (Nat.le_of_ble_eq_true rfl)⟩ jv2_0 jm_01 ko2_0 rfl rfl (Nat.le_of_ble_eq_true rfl) dX12_chooses_45 (fun v10 M11 => ?_)
    exact j_vret (pc := 48) dX12_chooses_48
abbrev rmX12_isSettled : Room := { frames := 1, cells := 0, slots := 0, locals := 23 }
set_option maxHeartbeats 4000000 in
set_option maxRecDepth 100000 in
theorem b0X12_isSettled_82 (X : jm_X) (fu : Nat) (k82 : jm_M → Int → Int → Int → Int → Int → jm_R) (hk82 : ∀ (M : jm_M) (l1 l4 l5 l6 l7 : Int) (hl1 : jm_in l1) (hl4 : jm_in l4) (hl5 : jm_in l5) (hl6 : jm_in l6) (hl7 : jm_in l7), jm_J wd2 (jm_qi .boolean) cX12_isSettled 8 RX12 rmX12_isSettled X M [(0, jm_vr wd2 X 0 0), (1, jm_i l1), (4, jm_i l4), (5, jm_i l5), (6, jm_i l6), (7, jm_i l7)] [] 82 (k82 M l1 l4 l5 l6 l7)) : ∀ (M : jm_M) (l1 l4 l5 l6 l7 : Int) (hl1 : jm_in l1) (hl4 : jm_in l4) (hl5 : jm_in l5) (hl6 : jm_in l6) (hl7 : jm_in l7), jm_J wd2 (jm_qi .boolean) cX12_isSettled 8 RX12 rmX12_isSettled X M [(0, jm_vr wd2 X 0 0), (1, jm_i l1), (4, jm_i l4), (5, jm_i l5), (6, jm_i l6), (7, jm_i l7)] [] 82 (gX12_isSettled_82 fu k82 M l1 l4 l5 l6 l7) := by
  intro M l1 l4 l5 l6 l7 hl1 hl4 hl5 hl6 hl7
  unfold gX12_isSettled_82
  refine j_iload (pc := 82) dX12_isSettled_82 (q := 5) rfl ?_
  refine j_iload (pc := 84) dX12_isSettled_84 (q := 2) rfl ?_
  refine j_icmp_ge (tgt := 149) (pc := 86) hl7 hl4 dX12_isSettled_86 (by decide) (fun c1 => ?_) (fun c1 => ?_)
  · skip
    refine j_iload (pc := 149) dX12_isSettled_149 (q := 4) rfl ?_
    exact j_zret (pc := 151) hl6 dX12_isSettled_151
  · skip
    refine j_iload (pc := 89) dX12_isSettled_89 (q := 4) rfl ?_
    refine j_if_eq (tgt := 140) (pc := 91) hl6 dX12_isSettled_91 (by decide) (fun c2 => ?_) (fun c2 => ?_)
    · skip
      refine j_iconst (pc := 140) dX12_isSettled_140 ?_
      refine j_istore (pc := 141) [(6, jm_i 0), (0, jm_vr wd2 X 0 0), (1, jm_i l1), (4, jm_i l4), (5, jm_i l5), (7, jm_i l7)] dX12_isSettled_141 (by decide) rfl ?_
      refine j_iinc (pc := 143) [(6, jm_i 0), (0, jm_vr wd2 X 0 0), (1, jm_i l1), (4, jm_i l4), (5, jm_i l5)] (q := 5) dX12_isSettled_143 rfl (by decide) (fun _ => rfl) (fun v3 h4 => ?_)
      refine j_goto (tgt := 82) (pc := 146) dX12_isSettled_146 (by decide) ?_
      refine j_sub (pc := 82) [(0, jm_vr wd2 X 0 0), (1, jm_i l1), (4, jm_i l4), (5, jm_i l5), (6, jm_i 0), (7, jm_i v3)] [2, 3, 4, 5, 1, 0] rfl ?_
      exact hk82 M l1 l4 l5 0 v3 hl1 hl4 hl5 (jm_inL (by decide) (by decide)) h4
    · skip
      refine j_aload_n (pc := 94) dX12_isSettled_94 rfl (q := 0) rfl ?_
      refine j_getr (pc := 95) jv2_0 jm_01 kf_RX12_575 0 kg2_0_95 rfl dX12_isSettled_95 ?_
      refine j_iconst (pc := 98) dX12_isSettled_98 ?_
      refine j_iload_n (pc := 99) dX12_isSettled_99 rfl (q := 1) rfl ?_
      refine j_imul (pc := 100) dX12_isSettled_100 ?_
      refine j_iload (pc := 101) dX12_isSettled_101 (q := 5) rfl ?_
      refine j_iadd (pc := 103) dX12_isSettled_103 ?_
      refine j_iald (pc := 104) jv2_78 jm_01 rfl (by decide) ka2_78 dX12_isSettled_104 (fun c5 h6 => ?_)
      refine j_aload_n (pc := 105) dX12_isSettled_105 rfl (q := 0) rfl ?_
      refine j_getr (pc := 106) jv2_0 jm_01 kf_RX12_578 0 kg2_0_96 rfl dX12_isSettled_106 ?_
      refine j_iconst (pc := 109) dX12_isSettled_109 ?_
      refine j_iload_n (pc := 110) dX12_isSettled_110 rfl (q := 1) rfl ?_
      refine j_imul (pc := 111) dX12_isSettled_111 ?_
      refine j_iload (pc := 112) dX12_isSettled_112 (q := 5) rfl ?_
      refine j_iadd (pc := 114) dX12_isSettled_114 ?_
      refine j_iald (pc := 115) jv2_79 jm_01 rfl (by decide) ka2_79 dX12_isSettled_115 (fun c7 h8 => ?_)
      refine j_aload_n (pc := 116) dX12_isSettled_116 rfl (q := 0) rfl ?_
      refine j_getr (pc := 117) jv2_0 jm_01 kf_RX12_575 0 kg2_0_95 rfl dX12_isSettled_117 ?_
      refine j_iload (pc := 120) dX12_isSettled_120 (q := 3) rfl ?_
      refine j_iald (pc := 122) jv2_78 jm_01 rfl (by decide) ka2_78 dX12_isSettled_122 (fun c9 h10 => ?_)
      refine j_aload_n (pc := 123) dX12_isSettled_123 rfl (q := 0) rfl ?_
      refine j_getr (pc := 124) jv2_0 jm_01 kf_RX12_578 0 kg2_0_96 rfl dX12_isSettled_124 ?_
      refine j_iload (pc := 127) dX12_isSettled_127 (q := 3) rfl ?_
      refine j_iald (pc := 129) jv2_79 jm_01 rfl (by decide) ka2_79 dX12_isSettled_129 (fun c11 h12 => ?_)
      refine j_callSi4 (pc := 130) (ct_X12_isAhead M (M 78 0 (jm_w ((jm_w (4 * l1)) + l7))) (M 79 0 (jm_w ((jm_w (4 * l1)) + l7))) (M 78 0 l5) (M 79 0 l5) h6 h8 h10 h12) kg_1725 km_X12_isAhead kg_1726 rfl rfl ⟨(Nat.le_of_ble_eq_true rfl), (Nat.le_of_ble_eq_true rfl)⟩ rfl rfl (Nat.le_of_ble_eq_true rfl) dX12_isSettled_130 (fun v13 M14 h15 => ?_)
      refine j_if_ne (tgt := 140) (pc := 133) h15 dX12_isSettled_133 (by decide) (fun c16 => ?_) (fun c16 => ?_)
      · skip
        refine j_iconst (pc := 136) dX12_isSettled_136 ?_
        refine j_goto (tgt := 141) (pc := 137) dX12_isSettled_137 (by decide) ?_
        refine j_istore (pc := 141) [(6, jm_i 1), (0, jm_vr wd2 X 0 0), (1, jm_i l1), (4, jm_i l4), (5, jm_i l5), (7, jm_i l7)] dX12_isSettled_141 (by decide) rfl ?_
        refine j_iinc (pc := 143) [(6, jm_i 1), (0, jm_vr wd2 X 0 0), (1, jm_i l1), (4, jm_i l4), (5, jm_i l5)] (q := 5) dX12_isSettled_143 rfl (by decide) (fun _ => rfl) (fun v17 h18 => ?_)
        refine j_goto (tgt := 82) (pc := 146) dX12_isSettled_146 (by decide) ?_
        refine j_sub (pc := 82) [(0, jm_vr wd2 X 0 0), (1, jm_i l1), (4, jm_i l4), (5, jm_i l5), (6, jm_i 1), (7, jm_i v17)] [2, 3, 4, 5, 1, 0] rfl ?_
        exact hk82 M14 l1 l4 l5 1 v17 hl1 hl4 hl5 (jm_inL (by decide) (by decide)) h18
      · skip
        refine j_iconst (pc := 140) dX12_isSettled_140 ?_
        refine j_istore (pc := 141) [(6, jm_i 0), (0, jm_vr wd2 X 0 0), (1, jm_i l1), (4, jm_i l4), (5, jm_i l5), (7, jm_i l7)] dX12_isSettled_141 (by decide) rfl ?_
        refine j_iinc (pc := 143) [(6, jm_i 0), (0, jm_vr wd2 X 0 0), (1, jm_i l1), (4, jm_i l4), (5, jm_i l5)] (q := 5) dX12_isSettled_143 rfl (by decide) (fun _ => rfl) (fun v19 h20 => ?_)
        refine j_goto (tgt := 82) (pc := 146) dX12_isSettled_146 (by decide) ?_
        refine j_sub (pc := 82) [(0, jm_vr wd2 X 0 0), (1, jm_i l1), (4, jm_i l4), (5, jm_i l5), (6, jm_i 0), (7, jm_i v19)] [2, 3, 4, 5, 1, 0] rfl ?_
        exact hk82 M14 l1 l4 l5 0 v19 hl1 hl4 hl5 (jm_inL (by decide) (by decide)) h20
theorem bX12_isSettled_82 (X : jm_X) (fu : Nat) : ∀ (n : Nat) (M : jm_M) (l1 l4 l5 l6 l7 : Int) (hl1 : jm_in l1) (hl4 : jm_in l4) (hl5 : jm_in l5) (hl6 : jm_in l6) (hl7 : jm_in l7), jm_J wd2 (jm_qi .boolean) cX12_isSettled 8 RX12 rmX12_isSettled X M [(0, jm_vr wd2 X 0 0), (1, jm_i l1), (4, jm_i l4), (5, jm_i l5), (6, jm_i l6), (7, jm_i l7)] [] 82 (fX12_isSettled_82 fu n M l1 l4 l5 l6 l7) := by
  intro n
  induction n with
  | zero => intro M l1 l4 l5 l6 l7 hl1 hl4 hl5 hl6 hl7; exact j_none
  | succ n ih => intro M l1 l4 l5 l6 l7 hl1 hl4 hl5 hl6 hl7; exact b0X12_isSettled_82 X fu (fX12_isSettled_82 fu n) ih M l1 l4 l5 l6 l7 hl1 hl4 hl5 hl6 hl7
set_option maxHeartbeats 4000000 in
set_option maxRecDepth 100000 in
theorem b0X12_isSettled_13 (X : jm_X) (fu : Nat) (k13 : jm_M → Int → Int → Int → Int → Int → Int → Int → jm_R) (hk13 : ∀ (M : jm_M) (l1 l2 l3 l4 l5 l6 l7 : Int) (hl1 : jm_in l1) (hl2 : jm_in l2) (hl3 : jm_in l3) (hl4 : jm_in l4) (hl5 : jm_in l5) (hl6 : jm_in l6) (hl7 : jm_in l7), jm_J wd2 (jm_qi .boolean) cX12_isSettled 8 RX12 rmX12_isSettled X M [(0, jm_vr wd2 X 0 0), (1, jm_i l1), (2, jm_i l2), (3, jm_i l3), (4, jm_i l4), (5, jm_i l5), (6, jm_i l6), (7, jm_i l7)] [] 13 (k13 M l1 l2 l3 l4 l5 l6 l7)) : ∀ (M : jm_M) (l1 l2 l3 l4 l5 l6 l7 : Int) (hl1 : jm_in l1) (hl2 : jm_in l2) (hl3 : jm_in l3) (hl4 : jm_in l4) (hl5 : jm_in l5) (hl6 : jm_in l6) (hl7 : jm_in l7), jm_J wd2 (jm_qi .boolean) cX12_isSettled 8 RX12 rmX12_isSettled X M [(0, jm_vr wd2 X 0 0), (1, jm_i l1), (2, jm_i l2), (3, jm_i l3), (4, jm_i l4), (5, jm_i l5), (6, jm_i l6), (7, jm_i l7)] [] 13 (gX12_isSettled_13 fu k13 M l1 l2 l3 l4 l5 l6 l7) := by
  intro M l1 l2 l3 l4 l5 l6 l7 hl1 hl2 hl3 hl4 hl5 hl6 hl7
  unfold gX12_isSettled_13
  refine j_iload (pc := 13) dX12_isSettled_13 (q := 7) rfl ?_
  refine j_iload_n (pc := 15) dX12_isSettled_15 rfl (q := 3) rfl ?_
  refine j_icmp_ge (tgt := 79) (pc := 16) hl7 hl3 dX12_isSettled_16 (by decide) (fun c1 => ?_) (fun c1 => ?_)
  · skip
    refine j_iconst (pc := 79) dX12_isSettled_79 ?_
    refine j_istore (pc := 80) [(7, jm_i 0), (0, jm_vr wd2 X 0 0), (1, jm_i l1), (2, jm_i l2), (3, jm_i l3), (4, jm_i l4), (5, jm_i l5), (6, jm_i l6)] dX12_isSettled_80 (by decide) rfl ?_
    refine j_sub (pc := 82) [(0, jm_vr wd2 X 0 0), (1, jm_i l1), (4, jm_i l4), (5, jm_i l5), (6, jm_i l6), (7, jm_i 0)] [1, 2, 5, 6, 7, 0] rfl ?_
    exact bX12_isSettled_82 X fu  fu M l1 l4 l5 l6 0 hl1 hl4 hl5 hl6 (jm_inL (by decide) (by decide))
  · skip
    refine j_iload (pc := 19) dX12_isSettled_19 (q := 6) rfl ?_
    refine j_if_eq (tgt := 70) (pc := 21) hl6 dX12_isSettled_21 (by decide) (fun c2 => ?_) (fun c2 => ?_)
    · skip
      refine j_iconst (pc := 70) dX12_isSettled_70 ?_
      refine j_istore (pc := 71) [(6, jm_i 0), (0, jm_vr wd2 X 0 0), (1, jm_i l1), (2, jm_i l2), (3, jm_i l3), (4, jm_i l4), (5, jm_i l5), (7, jm_i l7)] dX12_isSettled_71 (by decide) rfl ?_
      refine j_iinc (pc := 73) [(6, jm_i 0), (0, jm_vr wd2 X 0 0), (1, jm_i l1), (2, jm_i l2), (3, jm_i l3), (4, jm_i l4), (5, jm_i l5)] (q := 7) dX12_isSettled_73 rfl (by decide) (fun _ => rfl) (fun v3 h4 => ?_)
      refine j_goto (tgt := 13) (pc := 76) dX12_isSettled_76 (by decide) ?_
      refine j_sub (pc := 13) [(0, jm_vr wd2 X 0 0), (1, jm_i l1), (2, jm_i l2), (3, jm_i l3), (4, jm_i l4), (5, jm_i l5), (6, jm_i 0), (7, jm_i v3)] [2, 3, 4, 5, 6, 7, 1, 0] rfl ?_
      exact hk13 M l1 l2 l3 l4 l5 0 v3 hl1 hl2 hl3 hl4 hl5 (jm_inL (by decide) (by decide)) h4
    · skip
      refine j_aload_n (pc := 24) dX12_isSettled_24 rfl (q := 0) rfl ?_
      refine j_getr (pc := 25) jv2_0 jm_01 kf_RX12_569 0 kg2_0_93 rfl dX12_isSettled_25 ?_
      refine j_iconst (pc := 28) dX12_isSettled_28 ?_
      refine j_iload (pc := 29) dX12_isSettled_29 (q := 7) rfl ?_
      refine j_imul (pc := 31) dX12_isSettled_31 ?_
      refine j_iload_n (pc := 32) dX12_isSettled_32 rfl (q := 2) rfl ?_
      refine j_iadd (pc := 33) dX12_isSettled_33 ?_
      refine j_iald (pc := 34) jv2_76 jm_01 rfl (by decide) ka2_76 dX12_isSettled_34 (fun c5 h6 => ?_)
      refine j_aload_n (pc := 35) dX12_isSettled_35 rfl (q := 0) rfl ?_
      refine j_getr (pc := 36) jv2_0 jm_01 kf_RX12_572 0 kg2_0_94 rfl dX12_isSettled_36 ?_
      refine j_iconst (pc := 39) dX12_isSettled_39 ?_
      refine j_iload (pc := 40) dX12_isSettled_40 (q := 7) rfl ?_
      refine j_imul (pc := 42) dX12_isSettled_42 ?_
      refine j_iload_n (pc := 43) dX12_isSettled_43 rfl (q := 2) rfl ?_
      refine j_iadd (pc := 44) dX12_isSettled_44 ?_
      refine j_iald (pc := 45) jv2_77 jm_01 rfl (by decide) ka2_77 dX12_isSettled_45 (fun c7 h8 => ?_)
      refine j_aload_n (pc := 46) dX12_isSettled_46 rfl (q := 0) rfl ?_
      refine j_getr (pc := 47) jv2_0 jm_01 kf_RX12_569 0 kg2_0_93 rfl dX12_isSettled_47 ?_
      refine j_iload (pc := 50) dX12_isSettled_50 (q := 5) rfl ?_
      refine j_iald (pc := 52) jv2_76 jm_01 rfl (by decide) ka2_76 dX12_isSettled_52 (fun c9 h10 => ?_)
      refine j_aload_n (pc := 53) dX12_isSettled_53 rfl (q := 0) rfl ?_
      refine j_getr (pc := 54) jv2_0 jm_01 kf_RX12_572 0 kg2_0_94 rfl dX12_isSettled_54 ?_
      refine j_iload (pc := 57) dX12_isSettled_57 (q := 5) rfl ?_
      refine j_iald (pc := 59) jv2_77 jm_01 rfl (by decide) ka2_77 dX12_isSettled_59 (fun c11 h12 => ?_)
      refine j_callSi4 (pc := 60) (ct_X12_isAhead M (M 76 0 (jm_w ((jm_w (4 * l7)) + l2))) (M 77 0 (jm_w ((jm_w (4 * l7)) + l2))) (M 76 0 l5) (M 77 0 l5) h6 h8 h10 h12) kg_1725 km_X12_isAhead kg_1726 rfl rfl ⟨(Nat.le_of_ble_eq_true rfl), (Nat.le_of_ble_eq_true rfl)⟩ rfl rfl (Nat.le_of_ble_eq_true rfl) dX12_isSettled_60 (fun v13 M14 h15 => ?_)
      refine j_if_ne (tgt := 70) (pc := 63) h15 dX12_isSettled_63 (by decide) (fun c16 => ?_) (fun c16 => ?_)
      · skip
        refine j_iconst (pc := 66) dX12_isSettled_66 ?_
        refine j_goto (tgt := 71) (pc := 67) dX12_isSettled_67 (by decide) ?_
        refine j_istore (pc := 71) [(6, jm_i 1), (0, jm_vr wd2 X 0 0), (1, jm_i l1), (2, jm_i l2), (3, jm_i l3), (4, jm_i l4), (5, jm_i l5), (7, jm_i l7)] dX12_isSettled_71 (by decide) rfl ?_
        refine j_iinc (pc := 73) [(6, jm_i 1), (0, jm_vr wd2 X 0 0), (1, jm_i l1), (2, jm_i l2), (3, jm_i l3), (4, jm_i l4), (5, jm_i l5)] (q := 7) dX12_isSettled_73 rfl (by decide) (fun _ => rfl) (fun v17 h18 => ?_)
        refine j_goto (tgt := 13) (pc := 76) dX12_isSettled_76 (by decide) ?_
        refine j_sub (pc := 13) [(0, jm_vr wd2 X 0 0), (1, jm_i l1), (2, jm_i l2), (3, jm_i l3), (4, jm_i l4), (5, jm_i l5), (6, jm_i 1), (7, jm_i v17)] [2, 3, 4, 5, 6, 7, 1, 0] rfl ?_
        exact hk13 M14 l1 l2 l3 l4 l5 1 v17 hl1 hl2 hl3 hl4 hl5 (jm_inL (by decide) (by decide)) h18
      · skip
        refine j_iconst (pc := 70) dX12_isSettled_70 ?_
        refine j_istore (pc := 71) [(6, jm_i 0), (0, jm_vr wd2 X 0 0), (1, jm_i l1), (2, jm_i l2), (3, jm_i l3), (4, jm_i l4), (5, jm_i l5), (7, jm_i l7)] dX12_isSettled_71 (by decide) rfl ?_
        refine j_iinc (pc := 73) [(6, jm_i 0), (0, jm_vr wd2 X 0 0), (1, jm_i l1), (2, jm_i l2), (3, jm_i l3), (4, jm_i l4), (5, jm_i l5)] (q := 7) dX12_isSettled_73 rfl (by decide) (fun _ => rfl) (fun v19 h20 => ?_)
        refine j_goto (tgt := 13) (pc := 76) dX12_isSettled_76 (by decide) ?_
        refine j_sub (pc := 13) [(0, jm_vr wd2 X 0 0), (1, jm_i l1), (2, jm_i l2), (3, jm_i l3), (4, jm_i l4), (5, jm_i l5), (6, jm_i 0), (7, jm_i v19)] [2, 3, 4, 5, 6, 7, 1, 0] rfl ?_
        exact hk13 M14 l1 l2 l3 l4 l5 0 v19 hl1 hl2 hl3 hl4 hl5 (jm_inL (by decide) (by decide)) h20
theorem bX12_isSettled_13 (X : jm_X) (fu : Nat) : ∀ (n : Nat) (M : jm_M) (l1 l2 l3 l4 l5 l6 l7 : Int) (hl1 : jm_in l1) (hl2 : jm_in l2) (hl3 : jm_in l3) (hl4 : jm_in l4) (hl5 : jm_in l5) (hl6 : jm_in l6) (hl7 : jm_in l7), jm_J wd2 (jm_qi .boolean) cX12_isSettled 8 RX12 rmX12_isSettled X M [(0, jm_vr wd2 X 0 0), (1, jm_i l1), (2, jm_i l2), (3, jm_i l3), (4, jm_i l4), (5, jm_i l5), (6, jm_i l6), (7, jm_i l7)] [] 13 (fX12_isSettled_13 fu n M l1 l2 l3 l4 l5 l6 l7) := by
  intro n
  induction n with
  | zero => intro M l1 l2 l3 l4 l5 l6 l7 hl1 hl2 hl3 hl4 hl5 hl6 hl7; exact j_none
  | succ n ih => intro M l1 l2 l3 l4 l5 l6 l7 hl1 hl2 hl3 hl4 hl5 hl6 hl7; exact b0X12_isSettled_13 X fu (fX12_isSettled_13 fu n) ih M l1 l2 l3 l4 l5 l6 l7 hl1 hl2 hl3 hl4 hl5 hl6 hl7
set_option maxHeartbeats 4000000 in
set_option maxRecDepth 100000 in
theorem ct_X12_isSettled (fu : Nat) (M : jm_M) (l1 l2 l3 l4 : Int) (hl1 : jm_in l1) (hl2 : jm_in l2) (hl3 : jm_in l3) (hl4 : jm_in l4) : jm_Ci wd2 yX12_isSettled cX12_isSettled 8 (some .boolean) rmX12_isSettled M (fun G ad => [.ref (ad (jm_r wd2 0 0)), jm_i l1, jm_i l2, jm_i l3, jm_i l4]) (fX12_isSettled fu M l1 l2 l3 l4) := by
  refine jm_met_i (fun X => [(0, jm_vr wd2 X 0 0), (1, jm_i l1), (2, jm_i l2), (3, jm_i l3), (4, jm_i l4)]) (by decide) (fun _ _ => (Nat.le_of_ble_eq_true rfl)) (fun _ => rfl) (fun X => ?_)
  unfold fX12_isSettled
  refine j_iconst (pc := 0) dX12_isSettled_0 ?_
  refine j_iload_n (pc := 1) dX12_isSettled_1 rfl (q := 1) rfl ?_
  refine j_imul (pc := 2) dX12_isSettled_2 ?_
  refine j_iload_n (pc := 3) dX12_isSettled_3 rfl (q := 2) rfl ?_
  refine j_iadd (pc := 4) dX12_isSettled_4 ?_
  refine j_nm (pc := 5) (jm_w_in _) (fun v1 h2 => ?_)
  refine j_istore (pc := 5) [(5, jm_i v1), (0, jm_vr wd2 X 0 0), (1, jm_i l1), (2, jm_i l2), (3, jm_i l3), (4, jm_i l4)] dX12_isSettled_5 (by decide) rfl ?_
  refine j_iconst (pc := 7) dX12_isSettled_7 ?_
  refine j_istore (pc := 8) [(6, jm_i 1), (5, jm_i v1), (0, jm_vr wd2 X 0 0), (1, jm_i l1), (2, jm_i l2), (3, jm_i l3), (4, jm_i l4)] dX12_isSettled_8 (by decide) rfl ?_
  refine j_iconst (pc := 10) dX12_isSettled_10 ?_
  refine j_istore (pc := 11) [(7, jm_i 0), (6, jm_i 1), (5, jm_i v1), (0, jm_vr wd2 X 0 0), (1, jm_i l1), (2, jm_i l2), (3, jm_i l3), (4, jm_i l4)] dX12_isSettled_11 (by decide) rfl ?_
  refine j_sub (pc := 13) [(0, jm_vr wd2 X 0 0), (1, jm_i l1), (2, jm_i l2), (3, jm_i l3), (4, jm_i l4), (5, jm_i v1), (6, jm_i 1), (7, jm_i 0)] [3, 4, 5, 6, 7, 2, 1, 0] rfl ?_
  exact bX12_isSettled_13 X fu  fu M l1 l2 l3 l4 v1 1 0 hl1 hl2 hl3 hl4 h2 (jm_inL (by decide) (by decide)) (jm_inL (by decide) (by decide))
abbrev rmX12_settle : Room := { frames := 8, cells := 0, slots := 0, locals := 193 }
set_option maxHeartbeats 4000000 in
set_option maxRecDepth 100000 in
theorem b0X12_settle_221 (X : jm_X) (fu : Nat) (k207 : jm_M → Int → Int → Int → jm_R) (k221 : jm_M → Int → Int → Int → Int → jm_R) (hk207 : ∀ (M : jm_M) (l1 l2 l4 : Int) (hl1 : jm_in l1) (hl2 : jm_in l2) (hl4 : jm_in l4), jm_J wd2 (jm_qi .int) cX12_settle 6 RX12 rmX12_settle X M [(0, jm_vr wd2 X 0 0), (1, jm_i l1), (2, jm_i l2), (4, jm_i l4)] [] 207 (k207 M l1 l2 l4)) (hk221 : ∀ (M : jm_M) (l1 l2 l4 l5 : Int) (hl1 : jm_in l1) (hl2 : jm_in l2) (hl4 : jm_in l4) (hl5 : jm_in l5), jm_J wd2 (jm_qi .int) cX12_settle 6 RX12 rmX12_settle X M [(0, jm_vr wd2 X 0 0), (1, jm_i l1), (2, jm_i l2), (4, jm_i l4), (5, jm_i l5)] [] 221 (k221 M l1 l2 l4 l5)) : ∀ (M : jm_M) (l1 l2 l4 l5 : Int) (hl1 : jm_in l1) (hl2 : jm_in l2) (hl4 : jm_in l4) (hl5 : jm_in l5), jm_J wd2 (jm_qi .int) cX12_settle 6 RX12 rmX12_settle X M [(0, jm_vr wd2 X 0 0), (1, jm_i l1), (2, jm_i l2), (4, jm_i l4), (5, jm_i l5)] [] 221 (gX12_settle_221 fu k207 k221 M l1 l2 l4 l5) := by
  intro M l1 l2 l4 l5 hl1 hl2 hl4 hl5
  unfold gX12_settle_221
  refine j_iload (pc := 221) dX12_settle_221 (q := 4) rfl ?_
  refine j_aload_n (pc := 223) dX12_settle_223 rfl (q := 0) rfl ?_
  refine j_getr (pc := 224) jv2_0 jm_01 kf_RX12_39 0 kg2_0_36 rfl dX12_settle_224 ?_
  refine j_iload_n (pc := 227) dX12_settle_227 rfl (q := 2) rfl ?_
  refine j_iald (pc := 228) jv2_31 jm_01 rfl (by decide) ka2_31 dX12_settle_228 (fun c1 h2 => ?_)
  refine j_icmp_ge (tgt := 270) (pc := 229) hl5 h2 dX12_settle_229 (by decide) (fun c3 => ?_) (fun c3 => ?_)
  · skip
    refine j_iinc (pc := 270) [(0, jm_vr wd2 X 0 0), (1, jm_i l1), (2, jm_i l2), (5, jm_i l5)] (q := 3) dX12_settle_270 rfl (by decide) (fun _ => rfl) (fun v4 h5 => ?_)
    refine j_goto (tgt := 207) (pc := 273) dX12_settle_273 (by decide) ?_
    refine j_sub (pc := 207) [(0, jm_vr wd2 X 0 0), (1, jm_i l1), (2, jm_i l2), (4, jm_i v4)] [1, 2, 3, 0] rfl ?_
    exact hk207 M l1 l2 v4 hl1 hl2 h5
  · skip
    refine j_aload_n (pc := 232) dX12_settle_232 rfl (q := 0) rfl ?_
    refine j_iload (pc := 233) dX12_settle_233 (q := 3) rfl ?_
    refine j_iload (pc := 235) dX12_settle_235 (q := 4) rfl ?_
    refine j_aload_n (pc := 237) dX12_settle_237 rfl (q := 0) rfl ?_
    refine j_getr (pc := 238) jv2_0 jm_01 kf_RX12_39 0 kg2_0_36 rfl dX12_settle_238 ?_
    refine j_iload_n (pc := 241) dX12_settle_241 rfl (q := 1) rfl ?_
    refine j_iald (pc := 242) jv2_31 jm_01 rfl (by decide) ka2_31 dX12_settle_242 (fun c6 h7 => ?_)
    refine j_aload_n (pc := 243) dX12_settle_243 rfl (q := 0) rfl ?_
    refine j_getr (pc := 244) jv2_0 jm_01 kf_RX12_39 0 kg2_0_36 rfl dX12_settle_244 ?_
    refine j_iload_n (pc := 247) dX12_settle_247 rfl (q := 2) rfl ?_
    refine j_iald (pc := 248) jv2_31 jm_01 rfl (by decide) ka2_31 dX12_settle_248 (fun c8 h9 => ?_)
    refine j_callVi4 (pc := 249) (ct_X12_isSettled fu M l4 l5 (M 31 0 l1) (M 31 0 l2) hl4 hl5 h7 h9) kg_1752 km_X12_isSettled kv_X12_isSettled rfl rfl ⟨(Nat.le_of_ble_eq_true rfl), (Nat.le_of_ble_eq_true rfl)⟩ jv2_0 jm_01 ko2_0 rfl rfl (Nat.le_of_ble_eq_true rfl) dX12_settle_249 (fun v10 M11 h12 => ?_)
    refine j_if_eq (tgt := 264) (pc := 252) h12 dX12_settle_252 (by decide) (fun c13 => ?_) (fun c13 => ?_)
    · skip
      refine j_iinc (pc := 264) [(0, jm_vr wd2 X 0 0), (1, jm_i l1), (2, jm_i l2), (4, jm_i l4)] (q := 4) dX12_settle_264 rfl (by decide) (fun _ => rfl) (fun v14 h15 => ?_)
      refine j_goto (tgt := 221) (pc := 267) dX12_settle_267 (by decide) ?_
      refine j_sub (pc := 221) [(0, jm_vr wd2 X 0 0), (1, jm_i l1), (2, jm_i l2), (4, jm_i l4), (5, jm_i v14)] [1, 2, 3, 4, 0] rfl ?_
      exact hk221 M11 l1 l2 l4 v14 hl1 hl2 hl4 h15
    · skip
      refine j_bipush (pc := 255) 10 dX12_settle_255 (by decide) ?_
      refine j_iload (pc := 257) dX12_settle_257 (q := 3) rfl ?_
      refine j_imul (pc := 259) dX12_settle_259 ?_
      refine j_iload (pc := 260) dX12_settle_260 (q := 4) rfl ?_
      refine j_iadd (pc := 262) dX12_settle_262 ?_
      exact j_iret (pc := 263) (jm_w_in _) rfl dX12_settle_263
theorem bX12_settle_221 (X : jm_X) (fu : Nat) (k207 : jm_M → Int → Int → Int → jm_R) (hk207 : ∀ (M : jm_M) (l1 l2 l4 : Int) (hl1 : jm_in l1) (hl2 : jm_in l2) (hl4 : jm_in l4), jm_J wd2 (jm_qi .int) cX12_settle 6 RX12 rmX12_settle X M [(0, jm_vr wd2 X 0 0), (1, jm_i l1), (2, jm_i l2), (4, jm_i l4)] [] 207 (k207 M l1 l2 l4)) : ∀ (n : Nat) (M : jm_M) (l1 l2 l4 l5 : Int) (hl1 : jm_in l1) (hl2 : jm_in l2) (hl4 : jm_in l4) (hl5 : jm_in l5), jm_J wd2 (jm_qi .int) cX12_settle 6 RX12 rmX12_settle X M [(0, jm_vr wd2 X 0 0), (1, jm_i l1), (2, jm_i l2), (4, jm_i l4), (5, jm_i l5)] [] 221 (fX12_settle_221 fu k207 n M l1 l2 l4 l5) := by
  intro n
  induction n with
  | zero => intro M l1 l2 l4 l5 hl1 hl2 hl4 hl5; exact j_none
  | succ n ih => intro M l1 l2 l4 l5 hl1 hl2 hl4 hl5; exact b0X12_settle_221 X fu k207 (fX12_settle_221 fu k207 n) hk207 ih M l1 l2 l4 l5 hl1 hl2 hl4 hl5
set_option maxHeartbeats 4000000 in
set_option maxRecDepth 100000 in
theorem b0X12_settle_207 (X : jm_X) (fu : Nat) (k207 : jm_M → Int → Int → Int → jm_R) (hk207 : ∀ (M : jm_M) (l1 l2 l4 : Int) (hl1 : jm_in l1) (hl2 : jm_in l2) (hl4 : jm_in l4), jm_J wd2 (jm_qi .int) cX12_settle 6 RX12 rmX12_settle X M [(0, jm_vr wd2 X 0 0), (1, jm_i l1), (2, jm_i l2), (4, jm_i l4)] [] 207 (k207 M l1 l2 l4)) : ∀ (M : jm_M) (l1 l2 l4 : Int) (hl1 : jm_in l1) (hl2 : jm_in l2) (hl4 : jm_in l4), jm_J wd2 (jm_qi .int) cX12_settle 6 RX12 rmX12_settle X M [(0, jm_vr wd2 X 0 0), (1, jm_i l1), (2, jm_i l2), (4, jm_i l4)] [] 207 (gX12_settle_207 fu k207 M l1 l2 l4) := by
  intro M l1 l2 l4 hl1 hl2 hl4
  unfold gX12_settle_207
  refine j_iload (pc := 207) dX12_settle_207 (q := 3) rfl ?_
  refine j_aload_n (pc := 209) dX12_settle_209 rfl (q := 0) rfl ?_
  refine j_getr (pc := 210) jv2_0 jm_01 kf_RX12_39 0 kg2_0_36 rfl dX12_settle_210 ?_
  refine j_iload_n (pc := 213) dX12_settle_213 rfl (q := 1) rfl ?_
  refine j_iald (pc := 214) jv2_31 jm_01 rfl (by decide) ka2_31 dX12_settle_214 (fun c1 h2 => ?_)
  refine j_icmp_ge (tgt := 276) (pc := 215) hl4 h2 dX12_settle_215 (by decide) (fun c3 => ?_) (fun c3 => ?_)
  · skip
    refine j_bipush (pc := 276) (-2) dX12_settle_276 (by decide) ?_
    exact j_iret (pc := 278) (jm_inL (by decide) (by decide)) rfl dX12_settle_278
  · skip
    refine j_iconst (pc := 218) dX12_settle_218 ?_
    refine j_istore (pc := 219) [(5, jm_i 0), (0, jm_vr wd2 X 0 0), (1, jm_i l1), (2, jm_i l2), (4, jm_i l4)] dX12_settle_219 (by decide) rfl ?_
    refine j_sub (pc := 221) [(0, jm_vr wd2 X 0 0), (1, jm_i l1), (2, jm_i l2), (4, jm_i l4), (5, jm_i 0)] [1, 2, 3, 4, 0] rfl ?_
    exact bX12_settle_221 X fu k207 hk207 fu M l1 l2 l4 0 hl1 hl2 hl4 (jm_inL (by decide) (by decide))
theorem bX12_settle_207 (X : jm_X) (fu : Nat) : ∀ (n : Nat) (M : jm_M) (l1 l2 l4 : Int) (hl1 : jm_in l1) (hl2 : jm_in l2) (hl4 : jm_in l4), jm_J wd2 (jm_qi .int) cX12_settle 6 RX12 rmX12_settle X M [(0, jm_vr wd2 X 0 0), (1, jm_i l1), (2, jm_i l2), (4, jm_i l4)] [] 207 (fX12_settle_207 fu n M l1 l2 l4) := by
  intro n
  induction n with
  | zero => intro M l1 l2 l4 hl1 hl2 hl4; exact j_none
  | succ n ih => intro M l1 l2 l4 hl1 hl2 hl4; exact b0X12_settle_207 X fu (fX12_settle_207 fu n) ih M l1 l2 l4 hl1 hl2 hl4
set_option maxHeartbeats 4000000 in
set_option maxRecDepth 100000 in
theorem b0X12_settle_80 (X : jm_X) (fu : Nat) (k66 : jm_M → Int → Int → Int → Int → jm_R) (k80 : jm_M → Int → Int → Int → Int → Int → jm_R) (hk66 : ∀ (M : jm_M) (l1 l2 l3 l4 : Int) (hl1 : jm_in l1) (hl2 : jm_in l2) (hl3 : jm_in l3) (hl4 : jm_in l4), jm_J wd2 (jm_qi .int) cX12_settle 6 RX12 rmX12_settle X M [(0, jm_vr wd2 X 0 0), (1, jm_i l1), (2, jm_i l2), (3, jm_i l3), (4, jm_i l4)] [] 66 (k66 M l1 l2 l3 l4)) (hk80 : ∀ (M : jm_M) (l1 l2 l3 l4 l5 : Int) (hl1 : jm_in l1) (hl2 : jm_in l2) (hl3 : jm_in l3) (hl4 : jm_in l4) (hl5 : jm_in l5), jm_J wd2 (jm_qi .int) cX12_settle 6 RX12 rmX12_settle X M [(0, jm_vr wd2 X 0 0), (1, jm_i l1), (2, jm_i l2), (3, jm_i l3), (4, jm_i l4), (5, jm_i l5)] [] 80 (k80 M l1 l2 l3 l4 l5)) : ∀ (M : jm_M) (l1 l2 l3 l4 l5 : Int) (hl1 : jm_in l1) (hl2 : jm_in l2) (hl3 : jm_in l3) (hl4 : jm_in l4) (hl5 : jm_in l5), jm_J wd2 (jm_qi .int) cX12_settle 6 RX12 rmX12_settle X M [(0, jm_vr wd2 X 0 0), (1, jm_i l1), (2, jm_i l2), (3, jm_i l3), (4, jm_i l4), (5, jm_i l5)] [] 80 (gX12_settle_80 fu k66 k80 M l1 l2 l3 l4 l5) := by
  intro M l1 l2 l3 l4 l5 hl1 hl2 hl3 hl4 hl5
  unfold gX12_settle_80
  refine j_iload (pc := 80) dX12_settle_80 (q := 5) rfl ?_
  refine j_aload_n (pc := 82) dX12_settle_82 rfl (q := 0) rfl ?_
  refine j_getr (pc := 83) jv2_0 jm_01 kf_RX12_39 0 kg2_0_36 rfl dX12_settle_83 ?_
  refine j_iload_n (pc := 86) dX12_settle_86 rfl (q := 2) rfl ?_
  refine j_iald (pc := 87) jv2_31 jm_01 rfl (by decide) ka2_31 dX12_settle_87 (fun c1 h2 => ?_)
  refine j_icmp_ge (tgt := 188) (pc := 88) hl5 h2 dX12_settle_88 (by decide) (fun c3 => ?_) (fun c3 => ?_)
  · skip
    refine j_iinc (pc := 188) [(0, jm_vr wd2 X 0 0), (1, jm_i l1), (2, jm_i l2), (3, jm_i l3), (5, jm_i l5)] (q := 4) dX12_settle_188 rfl (by decide) (fun _ => rfl) (fun v4 h5 => ?_)
    refine j_goto (tgt := 66) (pc := 191) dX12_settle_191 (by decide) ?_
    refine j_sub (pc := 66) [(0, jm_vr wd2 X 0 0), (1, jm_i l1), (2, jm_i l2), (3, jm_i l3), (4, jm_i v4)] [1, 2, 3, 4, 0] rfl ?_
    exact hk66 M l1 l2 l3 v4 hl1 hl2 hl3 h5
  · skip
    refine j_aload_n (pc := 91) dX12_settle_91 rfl (q := 0) rfl ?_
    refine j_iload_n (pc := 92) dX12_settle_92 rfl (q := 1) rfl ?_
    refine j_iload (pc := 93) dX12_settle_93 (q := 4) rfl ?_
    refine j_callVv2 (pc := 95) (ct_X12_chooses M l1 l4 hl1 hl4) kg_1748 km_X12_chooses kv_X12_chooses rfl rfl ⟨(Nat.le_of_ble_eq_true rfl), (Nat.le_of_ble_eq_true rfl)⟩ jv2_0 jm_01 ko2_0 rfl rfl (Nat.le_of_ble_eq_true rfl) dX12_settle_95 (fun v6 M7 => ?_)
    refine j_aload_n (pc := 98) dX12_settle_98 rfl (q := 0) rfl ?_
    refine j_iload_n (pc := 99) dX12_settle_99 rfl (q := 2) rfl ?_
    refine j_iload (pc := 100) dX12_settle_100 (q := 5) rfl ?_
    refine j_callVv2 (pc := 102) (ct_X12_chooses M7 l2 l5 hl2 hl5) kg_1748 km_X12_chooses kv_X12_chooses rfl rfl ⟨(Nat.le_of_ble_eq_true rfl), (Nat.le_of_ble_eq_true rfl)⟩ jv2_0 jm_01 ko2_0 rfl rfl (Nat.le_of_ble_eq_true rfl) dX12_settle_102 (fun v8 M9 => ?_)
    refine j_aload_n (pc := 105) dX12_settle_105 rfl (q := 0) rfl ?_
    refine j_iload_n (pc := 106) dX12_settle_106 rfl (q := 3) rfl ?_
    refine j_callVv1 (pc := 107) (ct_X12_judges fu M9 l3 hl3) kg_1673 km_X12_judges kv_X12_judges rfl rfl ⟨(Nat.le_of_ble_eq_true rfl), (Nat.le_of_ble_eq_true rfl)⟩ jv2_0 jm_01 ko2_0 rfl rfl (Nat.le_of_ble_eq_true rfl) dX12_settle_107 (fun v10 M11 => ?_)
    refine j_aload_n (pc := 110) dX12_settle_110 rfl (q := 0) rfl ?_
    refine j_getr (pc := 111) jv2_0 jm_01 kf_RX12_569 0 kg2_0_93 rfl dX12_settle_111 ?_
    refine j_iconst (pc := 114) dX12_settle_114 ?_
    refine j_iload (pc := 115) dX12_settle_115 (q := 4) rfl ?_
    refine j_imul (pc := 117) dX12_settle_117 ?_
    refine j_iload (pc := 118) dX12_settle_118 (q := 5) rfl ?_
    refine j_iadd (pc := 120) dX12_settle_120 ?_
    refine j_aload_n (pc := 121) dX12_settle_121 rfl (q := 0) rfl ?_
    refine j_iload_n (pc := 122) dX12_settle_122 rfl (q := 1) rfl ?_
    refine j_iconst (pc := 123) dX12_settle_123 ?_
    refine j_callVi2 (pc := 124) (ct_X12_placeOf fu M11 l1 0 hl1 (jm_inL (by decide) (by decide))) kg_1681 km_X12_placeOf kv_X12_placeOf rfl rfl ⟨(Nat.le_of_ble_eq_true rfl), (Nat.le_of_ble_eq_true rfl)⟩ jv2_0 jm_01 ko2_0 rfl rfl (Nat.le_of_ble_eq_true rfl) dX12_settle_124 (fun v12 M13 h14 => ?_)
    refine j_iast (pc := 127) jv2_76 jm_01 rfl (by decide) wI2 ka2_76 h14 dX12_settle_127 (fun c15 M16 => ?_)
    refine j_aload_n (pc := 128) dX12_settle_128 rfl (q := 0) rfl ?_
    refine j_getr (pc := 129) jv2_0 jm_01 kf_RX12_572 0 kg2_0_94 rfl dX12_settle_129 ?_
    refine j_iconst (pc := 132) dX12_settle_132 ?_
    refine j_iload (pc := 133) dX12_settle_133 (q := 4) rfl ?_
    refine j_imul (pc := 135) dX12_settle_135 ?_
    refine j_iload (pc := 136) dX12_settle_136 (q := 5) rfl ?_
    refine j_iadd (pc := 138) dX12_settle_138 ?_
    refine j_aload_n (pc := 139) dX12_settle_139 rfl (q := 0) rfl ?_
    refine j_getr (pc := 140) jv2_0 jm_01 kf_RX12_493 0 kg2_0_81 rfl dX12_settle_140 ?_
    refine j_iload_n (pc := 143) dX12_settle_143 rfl (q := 1) rfl ?_
    refine j_iald (pc := 144) jv2_68 jm_01 rfl (by decide) ka2_68 dX12_settle_144 (fun c17 h18 => ?_)
    refine j_iast (pc := 145) jv2_77 jm_01 rfl (by decide) wI2 ka2_77 h18 dX12_settle_145 (fun c19 M20 => ?_)
    refine j_aload_n (pc := 146) dX12_settle_146 rfl (q := 0) rfl ?_
    refine j_getr (pc := 147) jv2_0 jm_01 kf_RX12_575 0 kg2_0_95 rfl dX12_settle_147 ?_
    refine j_iconst (pc := 150) dX12_settle_150 ?_
    refine j_iload (pc := 151) dX12_settle_151 (q := 4) rfl ?_
    refine j_imul (pc := 153) dX12_settle_153 ?_
    refine j_iload (pc := 154) dX12_settle_154 (q := 5) rfl ?_
    refine j_iadd (pc := 156) dX12_settle_156 ?_
    refine j_aload_n (pc := 157) dX12_settle_157 rfl (q := 0) rfl ?_
    refine j_iload_n (pc := 158) dX12_settle_158 rfl (q := 2) rfl ?_
    refine j_iconst (pc := 159) dX12_settle_159 ?_
    refine j_callVi2 (pc := 160) (ct_X12_placeOf fu M20 l2 0 hl2 (jm_inL (by decide) (by decide))) kg_1681 km_X12_placeOf kv_X12_placeOf rfl rfl ⟨(Nat.le_of_ble_eq_true rfl), (Nat.le_of_ble_eq_true rfl)⟩ jv2_0 jm_01 ko2_0 rfl rfl (Nat.le_of_ble_eq_true rfl) dX12_settle_160 (fun v21 M22 h23 => ?_)
    refine j_iast (pc := 163) jv2_78 jm_01 rfl (by decide) wI2 ka2_78 h23 dX12_settle_163 (fun c24 M25 => ?_)
    refine j_aload_n (pc := 164) dX12_settle_164 rfl (q := 0) rfl ?_
    refine j_getr (pc := 165) jv2_0 jm_01 kf_RX12_578 0 kg2_0_96 rfl dX12_settle_165 ?_
    refine j_iconst (pc := 168) dX12_settle_168 ?_
    refine j_iload (pc := 169) dX12_settle_169 (q := 4) rfl ?_
    refine j_imul (pc := 171) dX12_settle_171 ?_
    refine j_iload (pc := 172) dX12_settle_172 (q := 5) rfl ?_
    refine j_iadd (pc := 174) dX12_settle_174 ?_
    refine j_aload_n (pc := 175) dX12_settle_175 rfl (q := 0) rfl ?_
    refine j_getr (pc := 176) jv2_0 jm_01 kf_RX12_493 0 kg2_0_81 rfl dX12_settle_176 ?_
    refine j_iload_n (pc := 179) dX12_settle_179 rfl (q := 2) rfl ?_
    refine j_iald (pc := 180) jv2_68 jm_01 rfl (by decide) ka2_68 dX12_settle_180 (fun c26 h27 => ?_)
    refine j_iast (pc := 181) jv2_79 jm_01 rfl (by decide) wI2 ka2_79 h27 dX12_settle_181 (fun c28 M29 => ?_)
    refine j_iinc (pc := 182) [(0, jm_vr wd2 X 0 0), (1, jm_i l1), (2, jm_i l2), (3, jm_i l3), (4, jm_i l4)] (q := 5) dX12_settle_182 rfl (by decide) (fun _ => rfl) (fun v30 h31 => ?_)
    refine j_goto (tgt := 80) (pc := 185) dX12_settle_185 (by decide) ?_
    refine j_sub (pc := 80) [(0, jm_vr wd2 X 0 0), (1, jm_i l1), (2, jm_i l2), (3, jm_i l3), (4, jm_i l4), (5, jm_i v30)] [1, 2, 3, 4, 5, 0] rfl ?_
    exact hk80 M29 l1 l2 l3 l4 v30 hl1 hl2 hl3 hl4 h31
theorem bX12_settle_80 (X : jm_X) (fu : Nat) (k66 : jm_M → Int → Int → Int → Int → jm_R) (hk66 : ∀ (M : jm_M) (l1 l2 l3 l4 : Int) (hl1 : jm_in l1) (hl2 : jm_in l2) (hl3 : jm_in l3) (hl4 : jm_in l4), jm_J wd2 (jm_qi .int) cX12_settle 6 RX12 rmX12_settle X M [(0, jm_vr wd2 X 0 0), (1, jm_i l1), (2, jm_i l2), (3, jm_i l3), (4, jm_i l4)] [] 66 (k66 M l1 l2 l3 l4)) : ∀ (n : Nat) (M : jm_M) (l1 l2 l3 l4 l5 : Int) (hl1 : jm_in l1) (hl2 : jm_in l2) (hl3 : jm_in l3) (hl4 : jm_in l4) (hl5 : jm_in l5), jm_J wd2 (jm_qi .int) cX12_settle 6 RX12 rmX12_settle X M [(0, jm_vr wd2 X 0 0), (1, jm_i l1), (2, jm_i l2), (3, jm_i l3), (4, jm_i l4), (5, jm_i l5)] [] 80 (fX12_settle_80 fu k66 n M l1 l2 l3 l4 l5) := by
  intro n
  induction n with
  | zero => intro M l1 l2 l3 l4 l5 hl1 hl2 hl3 hl4 hl5; exact j_none
  | succ n ih => intro M l1 l2 l3 l4 l5 hl1 hl2 hl3 hl4 hl5; exact b0X12_settle_80 X fu k66 (fX12_settle_80 fu k66 n) hk66 ih M l1 l2 l3 l4 l5 hl1 hl2 hl3 hl4 hl5
set_option maxHeartbeats 4000000 in
set_option maxRecDepth 100000 in
theorem b0X12_settle_66 (X : jm_X) (fu : Nat) (k66 : jm_M → Int → Int → Int → Int → jm_R) (hk66 : ∀ (M : jm_M) (l1 l2 l3 l4 : Int) (hl1 : jm_in l1) (hl2 : jm_in l2) (hl3 : jm_in l3) (hl4 : jm_in l4), jm_J wd2 (jm_qi .int) cX12_settle 6 RX12 rmX12_settle X M [(0, jm_vr wd2 X 0 0), (1, jm_i l1), (2, jm_i l2), (3, jm_i l3), (4, jm_i l4)] [] 66 (k66 M l1 l2 l3 l4)) : ∀ (M : jm_M) (l1 l2 l3 l4 : Int) (hl1 : jm_in l1) (hl2 : jm_in l2) (hl3 : jm_in l3) (hl4 : jm_in l4), jm_J wd2 (jm_qi .int) cX12_settle 6 RX12 rmX12_settle X M [(0, jm_vr wd2 X 0 0), (1, jm_i l1), (2, jm_i l2), (3, jm_i l3), (4, jm_i l4)] [] 66 (gX12_settle_66 fu k66 M l1 l2 l3 l4) := by
  intro M l1 l2 l3 l4 hl1 hl2 hl3 hl4
  unfold gX12_settle_66
  refine j_iload (pc := 66) dX12_settle_66 (q := 4) rfl ?_
  refine j_aload_n (pc := 68) dX12_settle_68 rfl (q := 0) rfl ?_
  refine j_getr (pc := 69) jv2_0 jm_01 kf_RX12_39 0 kg2_0_36 rfl dX12_settle_69 ?_
  refine j_iload_n (pc := 72) dX12_settle_72 rfl (q := 1) rfl ?_
  refine j_iald (pc := 73) jv2_31 jm_01 rfl (by decide) ka2_31 dX12_settle_73 (fun c1 h2 => ?_)
  refine j_icmp_ge (tgt := 194) (pc := 74) hl4 h2 dX12_settle_74 (by decide) (fun c3 => ?_) (fun c3 => ?_)
  · skip
    refine j_aload_n (pc := 194) dX12_settle_194 rfl (q := 0) rfl ?_
    refine j_iload_n (pc := 195) dX12_settle_195 rfl (q := 1) rfl ?_
    refine j_callVv1 (pc := 196) (ct_X12_putsBack fu M l1 hl1) kg_1728 km_X12_putsBack kv_X12_putsBack rfl rfl ⟨(Nat.le_of_ble_eq_true rfl), (Nat.le_of_ble_eq_true rfl)⟩ jv2_0 jm_01 ko2_0 rfl rfl (Nat.le_of_ble_eq_true rfl) dX12_settle_196 (fun v4 M5 => ?_)
    refine j_aload_n (pc := 199) dX12_settle_199 rfl (q := 0) rfl ?_
    refine j_iload_n (pc := 200) dX12_settle_200 rfl (q := 2) rfl ?_
    refine j_callVv1 (pc := 201) (ct_X12_putsBack fu M5 l2 hl2) kg_1728 km_X12_putsBack kv_X12_putsBack rfl rfl ⟨(Nat.le_of_ble_eq_true rfl), (Nat.le_of_ble_eq_true rfl)⟩ jv2_0 jm_01 ko2_0 rfl rfl (Nat.le_of_ble_eq_true rfl) dX12_settle_201 (fun v6 M7 => ?_)
    refine j_iconst (pc := 204) dX12_settle_204 ?_
    refine j_istore (pc := 205) [(4, jm_i 0), (0, jm_vr wd2 X 0 0), (1, jm_i l1), (2, jm_i l2), (3, jm_i l3)] dX12_settle_205 (by decide) rfl ?_
    refine j_sub (pc := 207) [(0, jm_vr wd2 X 0 0), (1, jm_i l1), (2, jm_i l2), (4, jm_i 0)] [1, 2, 3, 0] rfl ?_
    exact bX12_settle_207 X fu  fu M7 l1 l2 0 hl1 hl2 (jm_inL (by decide) (by decide))
  · skip
    refine j_iconst (pc := 77) dX12_settle_77 ?_
    refine j_istore (pc := 78) [(5, jm_i 0), (0, jm_vr wd2 X 0 0), (1, jm_i l1), (2, jm_i l2), (3, jm_i l3), (4, jm_i l4)] dX12_settle_78 (by decide) rfl ?_
    refine j_sub (pc := 80) [(0, jm_vr wd2 X 0 0), (1, jm_i l1), (2, jm_i l2), (3, jm_i l3), (4, jm_i l4), (5, jm_i 0)] [1, 2, 3, 4, 5, 0] rfl ?_
    exact bX12_settle_80 X fu k66 hk66 fu M l1 l2 l3 l4 0 hl1 hl2 hl3 hl4 (jm_inL (by decide) (by decide))
theorem bX12_settle_66 (X : jm_X) (fu : Nat) : ∀ (n : Nat) (M : jm_M) (l1 l2 l3 l4 : Int) (hl1 : jm_in l1) (hl2 : jm_in l2) (hl3 : jm_in l3) (hl4 : jm_in l4), jm_J wd2 (jm_qi .int) cX12_settle 6 RX12 rmX12_settle X M [(0, jm_vr wd2 X 0 0), (1, jm_i l1), (2, jm_i l2), (3, jm_i l3), (4, jm_i l4)] [] 66 (fX12_settle_66 fu n M l1 l2 l3 l4) := by
  intro n
  induction n with
  | zero => intro M l1 l2 l3 l4 hl1 hl2 hl3 hl4; exact j_none
  | succ n ih => intro M l1 l2 l3 l4 hl1 hl2 hl3 hl4; exact b0X12_settle_66 X fu (fX12_settle_66 fu n) ih M l1 l2 l3 l4 hl1 hl2 hl3 hl4
set_option maxHeartbeats 4000000 in
set_option maxRecDepth 100000 in
theorem ct_X12_settle (fu : Nat) (M : jm_M) (l1 l2 l3 : Int) (hl1 : jm_in l1) (hl2 : jm_in l2) (hl3 : jm_in l3) : jm_Ci wd2 yX12_settle cX12_settle 6 (some .int) rmX12_settle M (fun G ad => [.ref (ad (jm_r wd2 0 0)), jm_i l1, jm_i l2, jm_i l3]) (fX12_settle fu M l1 l2 l3) := by
  refine jm_met_i (fun X => [(0, jm_vr wd2 X 0 0), (1, jm_i l1), (2, jm_i l2), (3, jm_i l3)]) (by decide) (fun _ _ => (Nat.le_of_ble_eq_true rfl)) (fun _ => rfl) (fun X => ?_)
  unfold fX12_settle
  refine j_aload_n (pc := 0) dX12_settle_0 rfl (q := 0) rfl ?_
  refine j_iconst (pc := 1) dX12_settle_1 ?_
  refine j_put (pc := 2) jv2_0 jm_01 kf_RX12_3 wI2 kp_X12_0 kx2_0_0 (jm_inL (by decide) (by decide)) rfl rfl dX12_settle_2 (fun M1 => ?_)
  refine j_aload_n (pc := 5) dX12_settle_5 rfl (q := 0) rfl ?_
  refine j_iload_n (pc := 6) dX12_settle_6 rfl (q := 1) rfl ?_
  refine j_callVi1 (pc := 7) (ct_X12_isCar M1 l1 hl1) kg_1405 km_X12_isCar kv_X12_isCar rfl rfl ⟨(Nat.le_of_ble_eq_true rfl), (Nat.le_of_ble_eq_true rfl)⟩ jv2_0 jm_01 ko2_0 rfl rfl (Nat.le_of_ble_eq_true rfl) dX12_settle_7 (fun v2 M3 h4 => ?_)
  refine j_if_eq (tgt := 51) (pc := 10) h4 dX12_settle_10 (by decide) (fun c5 => ?_) (fun c5 => ?_)
  · skip
    refine j_iconst (pc := 51) dX12_settle_51 ?_
    exact j_iret (pc := 52) (jm_inL (by decide) (by decide)) rfl dX12_settle_52
  · skip
    refine j_aload_n (pc := 13) dX12_settle_13 rfl (q := 0) rfl ?_
    refine j_iload_n (pc := 14) dX12_settle_14 rfl (q := 2) rfl ?_
    refine j_callVi1 (pc := 15) (ct_X12_isCar M3 l2 hl2) kg_1405 km_X12_isCar kv_X12_isCar rfl rfl ⟨(Nat.le_of_ble_eq_true rfl), (Nat.le_of_ble_eq_true rfl)⟩ jv2_0 jm_01 ko2_0 rfl rfl (Nat.le_of_ble_eq_true rfl) dX12_settle_15 (fun v6 M7 h8 => ?_)
    refine j_if_eq (tgt := 51) (pc := 18) h8 dX12_settle_18 (by decide) (fun c9 => ?_) (fun c9 => ?_)
    · skip
      refine j_iconst (pc := 51) dX12_settle_51 ?_
      exact j_iret (pc := 52) (jm_inL (by decide) (by decide)) rfl dX12_settle_52
    · skip
      refine j_iload_n (pc := 21) dX12_settle_21 rfl (q := 1) rfl ?_
      refine j_iload_n (pc := 22) dX12_settle_22 rfl (q := 2) rfl ?_
      refine j_icmp_eq (tgt := 51) (pc := 23) hl1 hl2 dX12_settle_23 (by decide) (fun c10 => ?_) (fun c10 => ?_)
      · skip
        refine j_iconst (pc := 51) dX12_settle_51 ?_
        exact j_iret (pc := 52) (jm_inL (by decide) (by decide)) rfl dX12_settle_52
      · skip
        refine j_iload_n (pc := 26) dX12_settle_26 rfl (q := 3) rfl ?_
        refine j_callSi1 (pc := 27) (ct_X12_isDay M7 l3 hl3) kg_1647 km_X12_isDay kg_1648 rfl rfl ⟨(Nat.le_of_ble_eq_true rfl), (Nat.le_of_ble_eq_true rfl)⟩ rfl rfl (Nat.le_of_ble_eq_true rfl) dX12_settle_27 (fun v11 M12 h13 => ?_)
        refine j_if_eq (tgt := 51) (pc := 30) h13 dX12_settle_30 (by decide) (fun c14 => ?_) (fun c14 => ?_)
        · skip
          refine j_iconst (pc := 51) dX12_settle_51 ?_
          exact j_iret (pc := 52) (jm_inL (by decide) (by decide)) rfl dX12_settle_52
        · skip
          refine j_aload_n (pc := 33) dX12_settle_33 rfl (q := 0) rfl ?_
          refine j_getr (pc := 34) jv2_0 jm_01 kf_RX12_39 0 kg2_0_36 rfl dX12_settle_34 ?_
          refine j_iload_n (pc := 37) dX12_settle_37 rfl (q := 1) rfl ?_
          refine j_iald (pc := 38) jv2_31 jm_01 rfl (by decide) ka2_31 dX12_settle_38 (fun c15 h16 => ?_)
          refine j_if_eq (tgt := 51) (pc := 39) h16 dX12_settle_39 (by decide) (fun c17 => ?_) (fun c17 => ?_)
          · skip
            refine j_iconst (pc := 51) dX12_settle_51 ?_
            exact j_iret (pc := 52) (jm_inL (by decide) (by decide)) rfl dX12_settle_52
          · skip
            refine j_aload_n (pc := 42) dX12_settle_42 rfl (q := 0) rfl ?_
            refine j_getr (pc := 43) jv2_0 jm_01 kf_RX12_39 0 kg2_0_36 rfl dX12_settle_43 ?_
            refine j_iload_n (pc := 46) dX12_settle_46 rfl (q := 2) rfl ?_
            refine j_iald (pc := 47) jv2_31 jm_01 rfl (by decide) ka2_31 dX12_settle_47 (fun c18 h19 => ?_)
            refine j_if_ne (tgt := 53) (pc := 48) h19 dX12_settle_48 (by decide) (fun c20 => ?_) (fun c20 => ?_)
            · skip
              refine j_iconst (pc := 51) dX12_settle_51 ?_
              exact j_iret (pc := 52) (jm_inL (by decide) (by decide)) rfl dX12_settle_52
            · skip
              refine j_aload_n (pc := 53) dX12_settle_53 rfl (q := 0) rfl ?_
              refine j_iload_n (pc := 54) dX12_settle_54 rfl (q := 1) rfl ?_
              refine j_callVv1 (pc := 55) (ct_X12_clears fu M12 l1 hl1) kg_1717 km_X12_clears kv_X12_clears rfl rfl ⟨(Nat.le_of_ble_eq_true rfl), (Nat.le_of_ble_eq_true rfl)⟩ jv2_0 jm_01 ko2_0 rfl rfl (Nat.le_of_ble_eq_true rfl) dX12_settle_55 (fun v21 M22 => ?_)
              refine j_aload_n (pc := 58) dX12_settle_58 rfl (q := 0) rfl ?_
              refine j_iload_n (pc := 59) dX12_settle_59 rfl (q := 2) rfl ?_
              refine j_callVv1 (pc := 60) (ct_X12_clears fu M22 l2 hl2) kg_1717 km_X12_clears kv_X12_clears rfl rfl ⟨(Nat.le_of_ble_eq_true rfl), (Nat.le_of_ble_eq_true rfl)⟩ jv2_0 jm_01 ko2_0 rfl rfl (Nat.le_of_ble_eq_true rfl) dX12_settle_60 (fun v23 M24 => ?_)
              refine j_iconst (pc := 63) dX12_settle_63 ?_
              refine j_istore (pc := 64) [(4, jm_i 0), (0, jm_vr wd2 X 0 0), (1, jm_i l1), (2, jm_i l2), (3, jm_i l3)] dX12_settle_64 (by decide) rfl ?_
              refine j_sub (pc := 66) [(0, jm_vr wd2 X 0 0), (1, jm_i l1), (2, jm_i l2), (3, jm_i l3), (4, jm_i 0)] [1, 2, 3, 4, 0] rfl ?_
              exact bX12_settle_66 X fu  fu M24 l1 l2 l3 0 hl1 hl2 hl3 (jm_inL (by decide) (by decide))
abbrev rmX12_lost : Room := { frames := 1, cells := 0, slots := 0, locals := 25 }
set_option maxHeartbeats 4000000 in
set_option maxRecDepth 100000 in
theorem ct_X12_lost (M : jm_M) (l1 l2 : Int) (hl1 : jm_in l1) (hl2 : jm_in l2) : jm_Ci wd2 yX12_lost cX12_lost 3 (some .boolean) rmX12_lost M (fun G ad => [.ref (ad (jm_r wd2 0 0)), jm_i l1, jm_i l2]) (fX12_lost M l1 l2) := by
  refine jm_met_i (fun X => [(0, jm_vr wd2 X 0 0), (1, jm_i l1), (2, jm_i l2)]) (by decide) (fun _ _ => (Nat.le_of_ble_eq_true rfl)) (fun _ => rfl) (fun X => ?_)
  unfold fX12_lost
  refine j_aload_n (pc := 0) dX12_lost_0 rfl (q := 0) rfl ?_
  refine j_iconst (pc := 1) dX12_lost_1 ?_
  refine j_put (pc := 2) jv2_0 jm_01 kf_RX12_3 wI2 kp_X12_0 kx2_0_0 (jm_inL (by decide) (by decide)) rfl rfl dX12_lost_2 (fun M1 => ?_)
  refine j_iload_n (pc := 5) dX12_lost_5 rfl (q := 1) rfl ?_
  refine j_i2l (pc := 6) hl1 dX12_lost_6 ?_
  refine j_lconst (pc := 7) 0 dX12_lost_7 rfl ?_
  refine j_aload_n (pc := 8) dX12_lost_8 rfl (q := 0) rfl ?_
  refine j_geti (pc := 9) jv2_0 jm_01 kf_RX12_7 kg2_0_1 dX12_lost_9 (fun h2 => ?_)
  refine j_iconst (pc := 12) dX12_lost_12 ?_
  refine j_isub (pc := 13) dX12_lost_13 ?_
  refine j_i2l (pc := 14) (jm_w_in _) dX12_lost_14 ?_
  refine j_callSi3 (pc := 15) (ct_X12_in M1 l1 0 (jm_w ((M1 0 0 1) - 2)) hl1 (jm_inL (by decide) (by decide)) (jm_w_in _)) kg_1347 km_X12_in kg_1348 rfl rfl ⟨(Nat.le_of_ble_eq_true rfl), (Nat.le_of_ble_eq_true rfl)⟩ rfl rfl (Nat.le_of_ble_eq_true rfl) dX12_lost_15 (fun v3 M4 h5 => ?_)
  refine j_if_ne (tgt := 23) (pc := 18) h5 dX12_lost_18 (by decide) (fun c6 => ?_) (fun c6 => ?_)
  · skip
    refine j_iconst (pc := 21) dX12_lost_21 ?_
    exact j_iret (pc := 22) (jm_inL (by decide) (by decide)) rfl dX12_lost_22
  · skip
    refine j_aload_n (pc := 23) dX12_lost_23 rfl (q := 0) rfl ?_
    refine j_getr (pc := 24) jv2_0 jm_01 kf_RX12_20 0 kg2_0_5 rfl dX12_lost_24 ?_
    refine j_iload_n (pc := 27) dX12_lost_27 rfl (q := 1) rfl ?_
    refine j_iload_n (pc := 28) dX12_lost_28 rfl (q := 2) rfl ?_
    refine j_bast (pc := 29) jv2_3 jm_01 rfl (by decide) wI2 ka2_3 hl2 dX12_lost_29 (fun c7 c9 M8 => ?_)
    refine j_iconst (pc := 30) dX12_lost_30 ?_
    exact j_iret (pc := 31) (jm_inL (by decide) (by decide)) rfl dX12_lost_31
abbrev rmX12_knownOf : Room := { frames := 0, cells := 0, slots := 0, locals := 0 }
set_option maxHeartbeats 4000000 in
set_option maxRecDepth 100000 in
theorem bX12_knownOf_160 (X : jm_X) (fu : Nat) : ∀ (M : jm_M) (l1 l2 l6 : Int) (hl1 : jm_in l1) (hl2 : jm_in l2) (hl6 : jm_in l6), jm_J wd2 (jm_qi .int) cX12_knownOf 7 RX12 rmX12_knownOf X M [(0, jm_vr wd2 X 0 0), (1, jm_i l1), (2, jm_i l2), (6, jm_i l6)] [] 160 (gX12_knownOf_160 fu M l1 l2 l6) := by
  intro M l1 l2 l6 hl1 hl2 hl6
  unfold gX12_knownOf_160
  refine j_iload (pc := 160) dX12_knownOf_160 (q := 3) rfl ?_
  refine j_if_ge (tgt := 177) (pc := 162) hl6 dX12_knownOf_162 (by decide) (fun c1 => ?_) (fun c1 => ?_)
  · skip
    refine j_aload_n (pc := 177) dX12_knownOf_177 rfl (q := 0) rfl ?_
    refine j_getr (pc := 178) jv2_0 jm_01 kf_RX12_363 0 kg2_0_65 rfl dX12_knownOf_178 ?_
    refine j_bipush (pc := 181) 60 dX12_knownOf_181 (by decide) ?_
    refine j_iload_n (pc := 183) dX12_knownOf_183 rfl (q := 1) rfl ?_
    refine j_imul (pc := 184) dX12_knownOf_184 ?_
    refine j_iload (pc := 185) dX12_knownOf_185 (q := 3) rfl ?_
    refine j_iadd (pc := 187) dX12_knownOf_187 ?_
    refine j_iald (pc := 188) jv2_55 jm_01 rfl (by decide) ka2_55 dX12_knownOf_188 (fun c2 h3 => ?_)
    refine j_sipush (pc := 189) 1000 dX12_knownOf_189 (by decide) ?_
    refine j_iload_n (pc := 192) dX12_knownOf_192 rfl (q := 2) rfl ?_
    refine j_iload (pc := 193) dX12_knownOf_193 (q := 3) rfl ?_
    refine j_isub (pc := 195) dX12_knownOf_195 ?_
    refine j_imul (pc := 196) dX12_knownOf_196 ?_
    refine j_iadd (pc := 197) dX12_knownOf_197 ?_
    exact j_iret (pc := 198) (jm_w_in _) rfl dX12_knownOf_198
  · skip
    refine j_aload_n (pc := 165) dX12_knownOf_165 rfl (q := 0) rfl ?_
    refine j_getr (pc := 166) jv2_0 jm_01 kf_RX12_83 0 kg2_0_7 rfl dX12_knownOf_166 ?_
    refine j_bipush (pc := 169) 6 dX12_knownOf_169 (by decide) ?_
    refine j_iald (pc := 171) jv2_5 jm_01 rfl (by decide) ka2_5 dX12_knownOf_171 (fun c4 h5 => ?_)
    refine j_iload_n (pc := 172) dX12_knownOf_172 rfl (q := 1) rfl ?_
    refine j_imul (pc := 173) dX12_knownOf_173 ?_
    refine j_goto (tgt := 189) (pc := 174) dX12_knownOf_174 (by decide) ?_
    refine j_sipush (pc := 189) 1000 dX12_knownOf_189 (by decide) ?_
    refine j_iload_n (pc := 192) dX12_knownOf_192 rfl (q := 2) rfl ?_
    refine j_iload (pc := 193) dX12_knownOf_193 (q := 3) rfl ?_
    refine j_isub (pc := 195) dX12_knownOf_195 ?_
    refine j_imul (pc := 196) dX12_knownOf_196 ?_
    refine j_iadd (pc := 197) dX12_knownOf_197 ?_
    exact j_iret (pc := 198) (jm_w_in _) rfl dX12_knownOf_198
set_option maxHeartbeats 4000000 in
set_option maxRecDepth 100000 in
theorem b0X12_knownOf_134 (X : jm_X) (fu : Nat) (k134 : jm_M → Int → Int → Int → jm_R) (hk134 : ∀ (M : jm_M) (l1 l2 l6 : Int) (hl1 : jm_in l1) (hl2 : jm_in l2) (hl6 : jm_in l6), jm_J wd2 (jm_qi .int) cX12_knownOf 7 RX12 rmX12_knownOf X M [(0, jm_vr wd2 X 0 0), (1, jm_i l1), (2, jm_i l2), (6, jm_i l6)] [] 134 (k134 M l1 l2 l6)) : ∀ (M : jm_M) (l1 l2 l6 : Int) (hl1 : jm_in l1) (hl2 : jm_in l2) (hl6 : jm_in l6), jm_J wd2 (jm_qi .int) cX12_knownOf 7 RX12 rmX12_knownOf X M [(0, jm_vr wd2 X 0 0), (1, jm_i l1), (2, jm_i l2), (6, jm_i l6)] [] 134 (gX12_knownOf_134 fu k134 M l1 l2 l6) := by
  intro M l1 l2 l6 hl1 hl2 hl6
  unfold gX12_knownOf_134
  refine j_iload (pc := 134) dX12_knownOf_134 (q := 3) rfl ?_
  refine j_if_lt (tgt := 160) (pc := 136) hl6 dX12_knownOf_136 (by decide) (fun c1 => ?_) (fun c1 => ?_)
  · skip
    refine j_sub (pc := 160) [(0, jm_vr wd2 X 0 0), (1, jm_i l1), (2, jm_i l2), (6, jm_i l6)] [0, 1, 2, 3] rfl ?_
    exact bX12_knownOf_160 X fu  M l1 l2 l6 hl1 hl2 hl6
  · skip
    refine j_aload_n (pc := 139) dX12_knownOf_139 rfl (q := 0) rfl ?_
    refine j_getr (pc := 140) jv2_0 jm_01 kf_RX12_20 0 kg2_0_5 rfl dX12_knownOf_140 ?_
    refine j_iload (pc := 143) dX12_knownOf_143 (q := 3) rfl ?_
    refine j_aload_n (pc := 145) dX12_knownOf_145 rfl (q := 0) rfl ?_
    refine j_geti (pc := 146) jv2_0 jm_01 kf_RX12_7 kg2_0_1 dX12_knownOf_146 (fun h2 => ?_)
    refine j_gd (pc := 149) (fun c3 => ?_)
    refine j_irem (pc := 149) hl6 h2 dX12_knownOf_149 c3 ?_
    refine j_bald (pc := 150) jv2_3 jm_01 rfl (by decide) ka2_3 dX12_knownOf_150 (fun c4 h5 => ?_)
    refine j_if_eq (tgt := 160) (pc := 151) h5 dX12_knownOf_151 (by decide) (fun c6 => ?_) (fun c6 => ?_)
    · skip
      refine j_sub (pc := 160) [(0, jm_vr wd2 X 0 0), (1, jm_i l1), (2, jm_i l2), (6, jm_i l6)] [0, 1, 2, 3] rfl ?_
      exact bX12_knownOf_160 X fu  M l1 l2 l6 hl1 hl2 hl6
    · skip
      refine j_iinc (pc := 154) [(0, jm_vr wd2 X 0 0), (1, jm_i l1), (2, jm_i l2)] (q := 3) dX12_knownOf_154 rfl (by decide) (fun _ => rfl) (fun v7 h8 => ?_)
      refine j_goto (tgt := 134) (pc := 157) dX12_knownOf_157 (by decide) ?_
      refine j_sub (pc := 134) [(0, jm_vr wd2 X 0 0), (1, jm_i l1), (2, jm_i l2), (6, jm_i v7)] [1, 2, 3, 0] rfl ?_
      exact hk134 M l1 l2 v7 hl1 hl2 h8
theorem bX12_knownOf_134 (X : jm_X) (fu : Nat) : ∀ (n : Nat) (M : jm_M) (l1 l2 l6 : Int) (hl1 : jm_in l1) (hl2 : jm_in l2) (hl6 : jm_in l6), jm_J wd2 (jm_qi .int) cX12_knownOf 7 RX12 rmX12_knownOf X M [(0, jm_vr wd2 X 0 0), (1, jm_i l1), (2, jm_i l2), (6, jm_i l6)] [] 134 (fX12_knownOf_134 fu n M l1 l2 l6) := by
  intro n
  induction n with
  | zero => intro M l1 l2 l6 hl1 hl2 hl6; exact j_none
  | succ n ih => intro M l1 l2 l6 hl1 hl2 hl6; exact b0X12_knownOf_134 X fu (fX12_knownOf_134 fu n) ih M l1 l2 l6 hl1 hl2 hl6
set_option maxHeartbeats 4000000 in
set_option maxRecDepth 100000 in
theorem bX12_knownOf_73 (X : jm_X) (fu : Nat) : ∀ (M : jm_M) (l1 l2 l3 l5 : Int) (hl1 : jm_in l1) (hl2 : jm_in l2) (hl3 : jm_in l3) (hl5 : jm_in l5), jm_J wd2 (jm_qi .int) cX12_knownOf 7 RX12 rmX12_knownOf X M [(0, jm_vr wd2 X 0 0), (1, jm_i l1), (2, jm_i l2), (3, jm_i l3), (5, jm_i l5)] [] 73 (gX12_knownOf_73 fu M l1 l2 l3 l5) := by
  intro M l1 l2 l3 l5 hl1 hl2 hl3 hl5
  unfold gX12_knownOf_73
  refine j_iload (pc := 73) dX12_knownOf_73 (q := 4) rfl ?_
  refine j_aload_n (pc := 75) dX12_knownOf_75 rfl (q := 0) rfl ?_
  refine j_geti (pc := 76) jv2_0 jm_01 kf_RX12_7 kg2_0_1 dX12_knownOf_76 (fun h1 => ?_)
  refine j_aload_n (pc := 79) dX12_knownOf_79 rfl (q := 0) rfl ?_
  refine j_geti (pc := 80) jv2_0 jm_01 kf_RX12_10 kg2_0_2 dX12_knownOf_80 (fun h2 => ?_)
  refine j_imul (pc := 83) dX12_knownOf_83 ?_
  refine j_icmp_eq (tgt := 102) (pc := 84) hl5 (jm_w_in _) dX12_knownOf_84 (by decide) (fun c3 => ?_) (fun c3 => ?_)
  · skip
    refine j_iconst (pc := 102) dX12_knownOf_102 ?_
    exact j_iret (pc := 103) (jm_inL (by decide) (by decide)) rfl dX12_knownOf_103
  · skip
    refine j_aload_n (pc := 87) dX12_knownOf_87 rfl (q := 0) rfl ?_
    refine j_getr (pc := 88) jv2_0 jm_01 kf_RX12_363 0 kg2_0_65 rfl dX12_knownOf_88 ?_
    refine j_bipush (pc := 91) 60 dX12_knownOf_91 (by decide) ?_
    refine j_iload_n (pc := 93) dX12_knownOf_93 rfl (q := 1) rfl ?_
    refine j_imul (pc := 94) dX12_knownOf_94 ?_
    refine j_iload (pc := 95) dX12_knownOf_95 (q := 4) rfl ?_
    refine j_iadd (pc := 97) dX12_knownOf_97 ?_
    refine j_iald (pc := 98) jv2_55 jm_01 rfl (by decide) ka2_55 dX12_knownOf_98 (fun c4 h5 => ?_)
    refine j_if_ge (tgt := 104) (pc := 99) h5 dX12_knownOf_99 (by decide) (fun c6 => ?_) (fun c6 => ?_)
    · skip
      refine j_iload_n (pc := 104) dX12_knownOf_104 rfl (q := 3) rfl ?_
      refine j_iconst (pc := 105) dX12_knownOf_105 ?_
      refine j_icmp_ne (tgt := 131) (pc := 106) hl3 (jm_inL (by decide) (by decide)) dX12_knownOf_106 (by decide) (fun c7 => ?_) (fun c7 => ?_)
      · skip
        refine j_aload_n (pc := 109) dX12_knownOf_109 rfl (q := 0) rfl ?_
        refine j_getr (pc := 110) jv2_0 jm_01 kf_RX12_363 0 kg2_0_65 rfl dX12_knownOf_110 ?_
        refine j_bipush (pc := 113) 60 dX12_knownOf_113 (by decide) ?_
        refine j_iload_n (pc := 115) dX12_knownOf_115 rfl (q := 1) rfl ?_
        refine j_imul (pc := 116) dX12_knownOf_116 ?_
        refine j_iload (pc := 117) dX12_knownOf_117 (q := 4) rfl ?_
        refine j_iadd (pc := 119) dX12_knownOf_119 ?_
        refine j_iald (pc := 120) jv2_55 jm_01 rfl (by decide) ka2_55 dX12_knownOf_120 (fun c8 h9 => ?_)
        refine j_sipush (pc := 121) 1000 dX12_knownOf_121 (by decide) ?_
        refine j_iload (pc := 124) dX12_knownOf_124 (q := 4) rfl ?_
        refine j_iload_n (pc := 126) dX12_knownOf_126 rfl (q := 2) rfl ?_
        refine j_isub (pc := 127) dX12_knownOf_127 ?_
        refine j_imul (pc := 128) dX12_knownOf_128 ?_
        refine j_isub (pc := 129) dX12_knownOf_129 ?_
        exact j_iret (pc := 130) (jm_w_in _) rfl dX12_knownOf_130
      · skip
        refine j_iload_n (pc := 131) dX12_knownOf_131 rfl (q := 2) rfl ?_
        refine j_istore (pc := 132) [(6, jm_i l2), (0, jm_vr wd2 X 0 0), (1, jm_i l1), (2, jm_i l2), (3, jm_i l3), (5, jm_i l5)] dX12_knownOf_132 (by decide) rfl ?_
        refine j_sub (pc := 134) [(0, jm_vr wd2 X 0 0), (1, jm_i l1), (2, jm_i l2), (6, jm_i l2)] [1, 2, 3, 0] rfl ?_
        exact bX12_knownOf_134 X fu  fu M l1 l2 l2 hl1 hl2 hl2
    · skip
      refine j_iconst (pc := 102) dX12_knownOf_102 ?_
      exact j_iret (pc := 103) (jm_inL (by decide) (by decide)) rfl dX12_knownOf_103
set_option maxHeartbeats 4000000 in
set_option maxRecDepth 100000 in
theorem b0X12_knownOf_38 (X : jm_X) (fu : Nat) (k38 : jm_M → Int → Int → Int → Int → jm_R) (hk38 : ∀ (M : jm_M) (l1 l2 l3 l5 : Int) (hl1 : jm_in l1) (hl2 : jm_in l2) (hl3 : jm_in l3) (hl5 : jm_in l5), jm_J wd2 (jm_qi .int) cX12_knownOf 7 RX12 rmX12_knownOf X M [(0, jm_vr wd2 X 0 0), (1, jm_i l1), (2, jm_i l2), (3, jm_i l3), (5, jm_i l5)] [] 38 (k38 M l1 l2 l3 l5)) : ∀ (M : jm_M) (l1 l2 l3 l5 : Int) (hl1 : jm_in l1) (hl2 : jm_in l2) (hl3 : jm_in l3) (hl5 : jm_in l5), jm_J wd2 (jm_qi .int) cX12_knownOf 7 RX12 rmX12_knownOf X M [(0, jm_vr wd2 X 0 0), (1, jm_i l1), (2, jm_i l2), (3, jm_i l3), (5, jm_i l5)] [] 38 (gX12_knownOf_38 fu k38 M l1 l2 l3 l5) := by
  intro M l1 l2 l3 l5 hl1 hl2 hl3 hl5
  unfold gX12_knownOf_38
  refine j_iload (pc := 38) dX12_knownOf_38 (q := 4) rfl ?_
  refine j_aload_n (pc := 40) dX12_knownOf_40 rfl (q := 0) rfl ?_
  refine j_geti (pc := 41) jv2_0 jm_01 kf_RX12_7 kg2_0_1 dX12_knownOf_41 (fun h1 => ?_)
  refine j_aload_n (pc := 44) dX12_knownOf_44 rfl (q := 0) rfl ?_
  refine j_geti (pc := 45) jv2_0 jm_01 kf_RX12_10 kg2_0_2 dX12_knownOf_45 (fun h2 => ?_)
  refine j_imul (pc := 48) dX12_knownOf_48 ?_
  refine j_icmp_ge (tgt := 73) (pc := 49) hl5 (jm_w_in _) dX12_knownOf_49 (by decide) (fun c3 => ?_) (fun c3 => ?_)
  · skip
    refine j_sub (pc := 73) [(0, jm_vr wd2 X 0 0), (1, jm_i l1), (2, jm_i l2), (3, jm_i l3), (5, jm_i l5)] [0, 1, 2, 3, 4] rfl ?_
    exact bX12_knownOf_73 X fu  M l1 l2 l3 l5 hl1 hl2 hl3 hl5
  · skip
    refine j_aload_n (pc := 52) dX12_knownOf_52 rfl (q := 0) rfl ?_
    refine j_getr (pc := 53) jv2_0 jm_01 kf_RX12_20 0 kg2_0_5 rfl dX12_knownOf_53 ?_
    refine j_iload (pc := 56) dX12_knownOf_56 (q := 4) rfl ?_
    refine j_aload_n (pc := 58) dX12_knownOf_58 rfl (q := 0) rfl ?_
    refine j_geti (pc := 59) jv2_0 jm_01 kf_RX12_7 kg2_0_1 dX12_knownOf_59 (fun h4 => ?_)
    refine j_gd (pc := 62) (fun c5 => ?_)
    refine j_irem (pc := 62) hl5 h4 dX12_knownOf_62 c5 ?_
    refine j_bald (pc := 63) jv2_3 jm_01 rfl (by decide) ka2_3 dX12_knownOf_63 (fun c6 h7 => ?_)
    refine j_if_eq (tgt := 73) (pc := 64) h7 dX12_knownOf_64 (by decide) (fun c8 => ?_) (fun c8 => ?_)
    · skip
      refine j_sub (pc := 73) [(0, jm_vr wd2 X 0 0), (1, jm_i l1), (2, jm_i l2), (3, jm_i l3), (5, jm_i l5)] [0, 1, 2, 3, 4] rfl ?_
      exact bX12_knownOf_73 X fu  M l1 l2 l3 l5 hl1 hl2 hl3 hl5
    · skip
      refine j_iinc (pc := 67) [(0, jm_vr wd2 X 0 0), (1, jm_i l1), (2, jm_i l2), (3, jm_i l3)] (q := 4) dX12_knownOf_67 rfl (by decide) (fun _ => rfl) (fun v9 h10 => ?_)
      refine j_goto (tgt := 38) (pc := 70) dX12_knownOf_70 (by decide) ?_
      refine j_sub (pc := 38) [(0, jm_vr wd2 X 0 0), (1, jm_i l1), (2, jm_i l2), (3, jm_i l3), (5, jm_i v9)] [1, 2, 3, 4, 0] rfl ?_
      exact hk38 M l1 l2 l3 v9 hl1 hl2 hl3 h10
theorem bX12_knownOf_38 (X : jm_X) (fu : Nat) : ∀ (n : Nat) (M : jm_M) (l1 l2 l3 l5 : Int) (hl1 : jm_in l1) (hl2 : jm_in l2) (hl3 : jm_in l3) (hl5 : jm_in l5), jm_J wd2 (jm_qi .int) cX12_knownOf 7 RX12 rmX12_knownOf X M [(0, jm_vr wd2 X 0 0), (1, jm_i l1), (2, jm_i l2), (3, jm_i l3), (5, jm_i l5)] [] 38 (fX12_knownOf_38 fu n M l1 l2 l3 l5) := by
  intro n
  induction n with
  | zero => intro M l1 l2 l3 l5 hl1 hl2 hl3 hl5; exact j_none
  | succ n ih => intro M l1 l2 l3 l5 hl1 hl2 hl3 hl5; exact b0X12_knownOf_38 X fu (fX12_knownOf_38 fu n) ih M l1 l2 l3 l5 hl1 hl2 hl3 hl5
set_option maxHeartbeats 4000000 in
set_option maxRecDepth 100000 in
theorem ct_X12_knownOf (fu : Nat) (M : jm_M) (l1 l2 l3 : Int) (hl1 : jm_in l1) (hl2 : jm_in l2) (hl3 : jm_in l3) : jm_Ci wd2 yX12_knownOf cX12_knownOf 7 (some .int) rmX12_knownOf M (fun G ad => [.ref (ad (jm_r wd2 0 0)), jm_i l1, jm_i l2, jm_i l3]) (fX12_knownOf fu M l1 l2 l3) := by
  refine jm_met_i (fun X => [(0, jm_vr wd2 X 0 0), (1, jm_i l1), (2, jm_i l2), (3, jm_i l3)]) (by decide) (fun _ _ => (Nat.le_of_ble_eq_true rfl)) (fun _ => rfl) (fun X => ?_)
  unfold fX12_knownOf
  refine j_aload_n (pc := 0) dX12_knownOf_0 rfl (q := 0) rfl ?_
  refine j_getr (pc := 1) jv2_0 jm_01 kf_RX12_363 0 kg2_0_65 rfl dX12_knownOf_1 ?_
  refine j_bipush (pc := 4) 60 dX12_knownOf_4 (by decide) ?_
  refine j_iload_n (pc := 6) dX12_knownOf_6 rfl (q := 1) rfl ?_
  refine j_imul (pc := 7) dX12_knownOf_7 ?_
  refine j_iload_n (pc := 8) dX12_knownOf_8 rfl (q := 2) rfl ?_
  refine j_iadd (pc := 9) dX12_knownOf_9 ?_
  refine j_iald (pc := 10) jv2_55 jm_01 rfl (by decide) ka2_55 dX12_knownOf_10 (fun c1 h2 => ?_)
  refine j_nm (pc := 11) h2 (fun v3 h4 => ?_)
  refine j_istore (pc := 11) [(4, jm_i v3), (0, jm_vr wd2 X 0 0), (1, jm_i l1), (2, jm_i l2), (3, jm_i l3)] dX12_knownOf_11 (by decide) rfl ?_
  refine j_iload (pc := 13) dX12_knownOf_13 (q := 0) rfl ?_
  refine j_if_lt (tgt := 32) (pc := 15) h4 dX12_knownOf_15 (by decide) (fun c5 => ?_) (fun c5 => ?_)
  · skip
    refine j_iload (pc := 32) dX12_knownOf_32 (q := 0) rfl ?_
    exact j_iret (pc := 34) h4 rfl dX12_knownOf_34
  · skip
    refine j_aload_n (pc := 18) dX12_knownOf_18 rfl (q := 1) rfl ?_
    refine j_getr (pc := 19) jv2_0 jm_01 kf_RX12_20 0 kg2_0_5 rfl dX12_knownOf_19 ?_
    refine j_iload_n (pc := 22) dX12_knownOf_22 rfl (q := 3) rfl ?_
    refine j_aload_n (pc := 23) dX12_knownOf_23 rfl (q := 1) rfl ?_
    refine j_geti (pc := 24) jv2_0 jm_01 kf_RX12_7 kg2_0_1 dX12_knownOf_24 (fun h6 => ?_)
    refine j_gd (pc := 27) (fun c7 => ?_)
    refine j_irem (pc := 27) hl2 h6 dX12_knownOf_27 c7 ?_
    refine j_bald (pc := 28) jv2_3 jm_01 rfl (by decide) ka2_3 dX12_knownOf_28 (fun c8 h9 => ?_)
    refine j_if_ne (tgt := 35) (pc := 29) h9 dX12_knownOf_29 (by decide) (fun c10 => ?_) (fun c10 => ?_)
    · skip
      refine j_iload (pc := 32) dX12_knownOf_32 (q := 0) rfl ?_
      exact j_iret (pc := 34) h4 rfl dX12_knownOf_34
    · skip
      refine j_iload_n (pc := 35) dX12_knownOf_35 rfl (q := 3) rfl ?_
      refine j_istore (pc := 36) [(5, jm_i l2), (4, jm_i v3), (0, jm_vr wd2 X 0 0), (1, jm_i l1), (2, jm_i l2), (3, jm_i l3)] dX12_knownOf_36 (by decide) rfl ?_
      refine j_sub (pc := 38) [(0, jm_vr wd2 X 0 0), (1, jm_i l1), (2, jm_i l2), (3, jm_i l3), (5, jm_i l2)] [2, 3, 4, 5, 0] rfl ?_
      exact bX12_knownOf_38 X fu  fu M l1 l2 l3 l2 hl1 hl2 hl3 hl2
abbrev rmX12_known : Room := { frames := 7, cells := 0, slots := 0, locals := 170 }
set_option maxHeartbeats 4000000 in
set_option maxRecDepth 100000 in
theorem ct_X12_known (fu : Nat) (M : jm_M) (l1 l2 l3 l4 : Int) (hl1 : jm_in l1) (hl2 : jm_in l2) (hl3 : jm_in l3) (hl4 : jm_in l4) : jm_Ci wd2 yX12_known cX12_known 5 (some .int) rmX12_known M (fun G ad => [.ref (ad (jm_r wd2 0 0)), jm_i l1, jm_i l2, jm_i l3, jm_i l4]) (fX12_known fu M l1 l2 l3 l4) := by
  refine jm_met_i (fun X => [(0, jm_vr wd2 X 0 0), (1, jm_i l1), (2, jm_i l2), (3, jm_i l3), (4, jm_i l4)]) (by decide) (fun _ _ => (Nat.le_of_ble_eq_true rfl)) (fun _ => rfl) (fun X => ?_)
  unfold fX12_known
  refine j_aload_n (pc := 0) dX12_known_0 rfl (q := 0) rfl ?_
  refine j_iconst (pc := 1) dX12_known_1 ?_
  refine j_put (pc := 2) jv2_0 jm_01 kf_RX12_3 wI2 kp_X12_0 kx2_0_0 (jm_inL (by decide) (by decide)) rfl rfl dX12_known_2 (fun M1 => ?_)
  refine j_aload_n (pc := 5) dX12_known_5 rfl (q := 0) rfl ?_
  refine j_iload_n (pc := 6) dX12_known_6 rfl (q := 1) rfl ?_
  refine j_callVi1 (pc := 7) (ct_X12_isCar M1 l1 hl1) kg_1405 km_X12_isCar kv_X12_isCar rfl rfl ⟨(Nat.le_of_ble_eq_true rfl), (Nat.le_of_ble_eq_true rfl)⟩ jv2_0 jm_01 ko2_0 rfl rfl (Nat.le_of_ble_eq_true rfl) dX12_known_7 (fun v2 M3 h4 => ?_)
  refine j_if_eq (tgt := 40) (pc := 10) h4 dX12_known_10 (by decide) (fun c5 => ?_) (fun c5 => ?_)
  · skip
    refine j_iconst (pc := 40) dX12_known_40 ?_
    exact j_iret (pc := 41) (jm_inL (by decide) (by decide)) rfl dX12_known_41
  · skip
    refine j_aload_n (pc := 13) dX12_known_13 rfl (q := 0) rfl ?_
    refine j_iload_n (pc := 14) dX12_known_14 rfl (q := 2) rfl ?_
    refine j_callVi1 (pc := 15) (ct_X12_isLap M3 l2 hl2) kg_1413 km_X12_isLap kv_X12_isLap rfl rfl ⟨(Nat.le_of_ble_eq_true rfl), (Nat.le_of_ble_eq_true rfl)⟩ jv2_0 jm_01 ko2_0 rfl rfl (Nat.le_of_ble_eq_true rfl) dX12_known_15 (fun v6 M7 h8 => ?_)
    refine j_if_eq (tgt := 40) (pc := 18) h8 dX12_known_18 (by decide) (fun c9 => ?_) (fun c9 => ?_)
    · skip
      refine j_iconst (pc := 40) dX12_known_40 ?_
      exact j_iret (pc := 41) (jm_inL (by decide) (by decide)) rfl dX12_known_41
    · skip
      refine j_aload_n (pc := 21) dX12_known_21 rfl (q := 0) rfl ?_
      refine j_iload_n (pc := 22) dX12_known_22 rfl (q := 3) rfl ?_
      refine j_callVi1 (pc := 23) (ct_X12_isSector M7 l3 hl3) kg_1360 km_X12_isSector kv_X12_isSector rfl rfl ⟨(Nat.le_of_ble_eq_true rfl), (Nat.le_of_ble_eq_true rfl)⟩ jv2_0 jm_01 ko2_0 rfl rfl (Nat.le_of_ble_eq_true rfl) dX12_known_23 (fun v10 M11 h12 => ?_)
      refine j_if_eq (tgt := 40) (pc := 26) h12 dX12_known_26 (by decide) (fun c13 => ?_) (fun c13 => ?_)
      · skip
        refine j_iconst (pc := 40) dX12_known_40 ?_
        exact j_iret (pc := 41) (jm_inL (by decide) (by decide)) rfl dX12_known_41
      · skip
        refine j_iload (pc := 29) dX12_known_29 (q := 4) rfl ?_
        refine j_i2l (pc := 31) hl4 dX12_known_31 ?_
        refine j_lconst (pc := 32) 0 dX12_known_32 rfl ?_
        refine j_lconst (pc := 33) 1 dX12_known_33 rfl ?_
        refine j_callSi3 (pc := 34) (ct_X12_in M11 l4 0 1 hl4 (jm_inL (by decide) (by decide)) (jm_inL (by decide) (by decide))) kg_1347 km_X12_in kg_1348 rfl rfl ⟨(Nat.le_of_ble_eq_true rfl), (Nat.le_of_ble_eq_true rfl)⟩ rfl rfl (Nat.le_of_ble_eq_true rfl) dX12_known_34 (fun v14 M15 h16 => ?_)
        refine j_if_ne (tgt := 42) (pc := 37) h16 dX12_known_37 (by decide) (fun c17 => ?_) (fun c17 => ?_)
        · skip
          refine j_iconst (pc := 40) dX12_known_40 ?_
          exact j_iret (pc := 41) (jm_inL (by decide) (by decide)) rfl dX12_known_41
        · skip
          refine j_aload_n (pc := 42) dX12_known_42 rfl (q := 0) rfl ?_
          refine j_callVv0 (pc := 43) (ct_X12_runs fu M15 ) kg_1538 km_X12_runs kv_X12_runs rfl rfl ⟨(Nat.le_of_ble_eq_true rfl), (Nat.le_of_ble_eq_true rfl)⟩ jv2_0 jm_01 ko2_0 rfl rfl (Nat.le_of_ble_eq_true rfl) dX12_known_43 (fun v18 M19 => ?_)
          refine j_aload_n (pc := 46) dX12_known_46 rfl (q := 0) rfl ?_
          refine j_iload_n (pc := 47) dX12_known_47 rfl (q := 1) rfl ?_
          refine j_aload_n (pc := 48) dX12_known_48 rfl (q := 0) rfl ?_
          refine j_geti (pc := 49) jv2_0 jm_01 kf_RX12_7 kg2_0_1 dX12_known_49 (fun h20 => ?_)
          refine j_iload_n (pc := 52) dX12_known_52 rfl (q := 2) rfl ?_
          refine j_imul (pc := 53) dX12_known_53 ?_
          refine j_iload_n (pc := 54) dX12_known_54 rfl (q := 3) rfl ?_
          refine j_iadd (pc := 55) dX12_known_55 ?_
          refine j_iload (pc := 56) dX12_known_56 (q := 4) rfl ?_
          refine j_callVi3 (pc := 58) (ct_X12_knownOf fu M19 l1 (jm_w ((jm_w ((M19 0 0 1) * l2)) + l3)) l4 hl1 (jm_w_in _) hl4) kg_1764 km_X12_knownOf kv_X12_knownOf rfl rfl ⟨(Nat.le_of_ble_eq_true rfl), (Nat.le_of_ble_eq_true rfl)⟩ jv2_0 jm_01 ko2_0 rfl rfl (Nat.le_of_ble_eq_true rfl) dX12_known_58 (fun v21 M22 h23 => ?_)
          exact j_iret (pc := 61) h23 rfl dX12_known_61
abbrev rmX12_ahead : Room := { frames := 7, cells := 0, slots := 0, locals := 170 }
set_option maxHeartbeats 4000000 in
set_option maxRecDepth 100000 in
theorem ct_X12_ahead (fu : Nat) (M : jm_M) (l1 l2 l3 l4 : Int) (hl1 : jm_in l1) (hl2 : jm_in l2) (hl3 : jm_in l3) (hl4 : jm_in l4) : jm_Ci wd2 yX12_ahead cX12_ahead 7 (some .int) rmX12_ahead M (fun G ad => [.ref (ad (jm_r wd2 0 0)), jm_i l1, jm_i l2, jm_i l3, jm_i l4]) (fX12_ahead fu M l1 l2 l3 l4) := by
  refine jm_met_i (fun X => [(0, jm_vr wd2 X 0 0), (1, jm_i l1), (2, jm_i l2), (3, jm_i l3), (4, jm_i l4)]) (by decide) (fun _ _ => (Nat.le_of_ble_eq_true rfl)) (fun _ => rfl) (fun X => ?_)
  unfold fX12_ahead
  refine j_aload_n (pc := 0) dX12_ahead_0 rfl (q := 0) rfl ?_
  refine j_iconst (pc := 1) dX12_ahead_1 ?_
  refine j_put (pc := 2) jv2_0 jm_01 kf_RX12_3 wI2 kp_X12_0 kx2_0_0 (jm_inL (by decide) (by decide)) rfl rfl dX12_ahead_2 (fun M1 => ?_)
  refine j_aload_n (pc := 5) dX12_ahead_5 rfl (q := 0) rfl ?_
  refine j_iload_n (pc := 6) dX12_ahead_6 rfl (q := 1) rfl ?_
  refine j_callVi1 (pc := 7) (ct_X12_isCar M1 l1 hl1) kg_1405 km_X12_isCar kv_X12_isCar rfl rfl ⟨(Nat.le_of_ble_eq_true rfl), (Nat.le_of_ble_eq_true rfl)⟩ jv2_0 jm_01 ko2_0 rfl rfl (Nat.le_of_ble_eq_true rfl) dX12_ahead_7 (fun v2 M3 h4 => ?_)
  refine j_if_eq (tgt := 43) (pc := 10) h4 dX12_ahead_10 (by decide) (fun c5 => ?_) (fun c5 => ?_)
  · skip
    refine j_iconst (pc := 43) dX12_ahead_43 ?_
    exact j_iret (pc := 44) (jm_inL (by decide) (by decide)) rfl dX12_ahead_44
  · skip
    refine j_aload_n (pc := 13) dX12_ahead_13 rfl (q := 0) rfl ?_
    refine j_iload_n (pc := 14) dX12_ahead_14 rfl (q := 2) rfl ?_
    refine j_callVi1 (pc := 15) (ct_X12_isCar M3 l2 hl2) kg_1405 km_X12_isCar kv_X12_isCar rfl rfl ⟨(Nat.le_of_ble_eq_true rfl), (Nat.le_of_ble_eq_true rfl)⟩ jv2_0 jm_01 ko2_0 rfl rfl (Nat.le_of_ble_eq_true rfl) dX12_ahead_15 (fun v6 M7 h8 => ?_)
    refine j_if_eq (tgt := 43) (pc := 18) h8 dX12_ahead_18 (by decide) (fun c9 => ?_) (fun c9 => ?_)
    · skip
      refine j_iconst (pc := 43) dX12_ahead_43 ?_
      exact j_iret (pc := 44) (jm_inL (by decide) (by decide)) rfl dX12_ahead_44
    · skip
      refine j_iload_n (pc := 21) dX12_ahead_21 rfl (q := 1) rfl ?_
      refine j_iload_n (pc := 22) dX12_ahead_22 rfl (q := 2) rfl ?_
      refine j_icmp_eq (tgt := 43) (pc := 23) hl1 hl2 dX12_ahead_23 (by decide) (fun c10 => ?_) (fun c10 => ?_)
      · skip
        refine j_iconst (pc := 43) dX12_ahead_43 ?_
        exact j_iret (pc := 44) (jm_inL (by decide) (by decide)) rfl dX12_ahead_44
      · skip
        refine j_aload_n (pc := 26) dX12_ahead_26 rfl (q := 0) rfl ?_
        refine j_iload_n (pc := 27) dX12_ahead_27 rfl (q := 3) rfl ?_
        refine j_callVi1 (pc := 28) (ct_X12_isLap M7 l3 hl3) kg_1413 km_X12_isLap kv_X12_isLap rfl rfl ⟨(Nat.le_of_ble_eq_true rfl), (Nat.le_of_ble_eq_true rfl)⟩ jv2_0 jm_01 ko2_0 rfl rfl (Nat.le_of_ble_eq_true rfl) dX12_ahead_28 (fun v11 M12 h13 => ?_)
        refine j_if_eq (tgt := 43) (pc := 31) h13 dX12_ahead_31 (by decide) (fun c14 => ?_) (fun c14 => ?_)
        · skip
          refine j_iconst (pc := 43) dX12_ahead_43 ?_
          exact j_iret (pc := 44) (jm_inL (by decide) (by decide)) rfl dX12_ahead_44
        · skip
          refine j_aload_n (pc := 34) dX12_ahead_34 rfl (q := 0) rfl ?_
          refine j_iload (pc := 35) dX12_ahead_35 (q := 4) rfl ?_
          refine j_callVi1 (pc := 37) (ct_X12_isSector M12 l4 hl4) kg_1360 km_X12_isSector kv_X12_isSector rfl rfl ⟨(Nat.le_of_ble_eq_true rfl), (Nat.le_of_ble_eq_true rfl)⟩ jv2_0 jm_01 ko2_0 rfl rfl (Nat.le_of_ble_eq_true rfl) dX12_ahead_37 (fun v15 M16 h17 => ?_)
          refine j_if_ne (tgt := 45) (pc := 40) h17 dX12_ahead_40 (by decide) (fun c18 => ?_) (fun c18 => ?_)
          · skip
            refine j_iconst (pc := 43) dX12_ahead_43 ?_
            exact j_iret (pc := 44) (jm_inL (by decide) (by decide)) rfl dX12_ahead_44
          · skip
            refine j_aload_n (pc := 45) dX12_ahead_45 rfl (q := 0) rfl ?_
            refine j_callVv0 (pc := 46) (ct_X12_runs fu M16 ) kg_1538 km_X12_runs kv_X12_runs rfl rfl ⟨(Nat.le_of_ble_eq_true rfl), (Nat.le_of_ble_eq_true rfl)⟩ jv2_0 jm_01 ko2_0 rfl rfl (Nat.le_of_ble_eq_true rfl) dX12_ahead_46 (fun v19 M20 => ?_)
            refine j_aload_n (pc := 49) dX12_ahead_49 rfl (q := 0) rfl ?_
            refine j_iload_n (pc := 50) dX12_ahead_50 rfl (q := 1) rfl ?_
            refine j_aload_n (pc := 51) dX12_ahead_51 rfl (q := 0) rfl ?_
            refine j_geti (pc := 52) jv2_0 jm_01 kf_RX12_7 kg2_0_1 dX12_ahead_52 (fun h21 => ?_)
            refine j_iload_n (pc := 55) dX12_ahead_55 rfl (q := 3) rfl ?_
            refine j_imul (pc := 56) dX12_ahead_56 ?_
            refine j_iload (pc := 57) dX12_ahead_57 (q := 4) rfl ?_
            refine j_iadd (pc := 59) dX12_ahead_59 ?_
            refine j_iconst (pc := 60) dX12_ahead_60 ?_
            refine j_callVi3 (pc := 61) (ct_X12_knownOf fu M20 l1 (jm_w ((jm_w ((M20 0 0 1) * l3)) + l4)) 1 hl1 (jm_w_in _) (jm_inL (by decide) (by decide))) kg_1764 km_X12_knownOf kv_X12_knownOf rfl rfl ⟨(Nat.le_of_ble_eq_true rfl), (Nat.le_of_ble_eq_true rfl)⟩ jv2_0 jm_01 ko2_0 rfl rfl (Nat.le_of_ble_eq_true rfl) dX12_ahead_61 (fun v22 M23 h24 => ?_)
            refine j_istore (pc := 64) [(5, jm_i v22), (0, jm_vr wd2 X 0 0), (1, jm_i l1), (2, jm_i l2), (3, jm_i l3), (4, jm_i l4)] dX12_ahead_64 (by decide) rfl ?_
            refine j_aload_n (pc := 66) dX12_ahead_66 rfl (q := 1) rfl ?_
            refine j_iload_n (pc := 67) dX12_ahead_67 rfl (q := 3) rfl ?_
            refine j_aload_n (pc := 68) dX12_ahead_68 rfl (q := 1) rfl ?_
            refine j_geti (pc := 69) jv2_0 jm_01 kf_RX12_7 kg2_0_1 dX12_ahead_69 (fun h25 => ?_)
            refine j_iload_n (pc := 72) dX12_ahead_72 rfl (q := 4) rfl ?_
            refine j_imul (pc := 73) dX12_ahead_73 ?_
            refine j_iload (pc := 74) dX12_ahead_74 (q := 5) rfl ?_
            refine j_iadd (pc := 76) dX12_ahead_76 ?_
            refine j_iconst (pc := 77) dX12_ahead_77 ?_
            refine j_callVi3 (pc := 78) (ct_X12_knownOf fu M23 l2 (jm_w ((jm_w ((M23 0 0 1) * l3)) + l4)) 0 hl2 (jm_w_in _) (jm_inL (by decide) (by decide))) kg_1764 km_X12_knownOf kv_X12_knownOf rfl rfl ⟨(Nat.le_of_ble_eq_true rfl), (Nat.le_of_ble_eq_true rfl)⟩ jv2_0 jm_01 ko2_0 rfl rfl (Nat.le_of_ble_eq_true rfl) dX12_ahead_78 (fun v26 M27 h28 => ?_)
            refine j_istore (pc := 81) [(6, jm_i v26), (5, jm_i v22), (0, jm_vr wd2 X 0 0), (1, jm_i l1), (2, jm_i l2), (3, jm_i l3), (4, jm_i l4)] dX12_ahead_81 (by decide) rfl ?_
            refine j_iload (pc := 83) dX12_ahead_83 (q := 1) rfl ?_
            refine j_if_lt (tgt := 93) (pc := 85) h24 dX12_ahead_85 (by decide) (fun c29 => ?_) (fun c29 => ?_)
            · skip
              refine j_iconst (pc := 93) dX12_ahead_93 ?_
              refine j_goto (tgt := 112) (pc := 94) dX12_ahead_94 (by decide) ?_
              exact j_iret (pc := 112) (jm_inL (by decide) (by decide)) rfl dX12_ahead_112
            · skip
              refine j_iload (pc := 88) dX12_ahead_88 (q := 0) rfl ?_
              refine j_if_ge (tgt := 97) (pc := 90) h28 dX12_ahead_90 (by decide) (fun c30 => ?_) (fun c30 => ?_)
              · skip
                refine j_iload (pc := 97) dX12_ahead_97 (q := 1) rfl ?_
                refine j_iload (pc := 99) dX12_ahead_99 (q := 0) rfl ?_
                refine j_icmp_ge (tgt := 108) (pc := 101) h24 h28 dX12_ahead_101 (by decide) (fun c31 => ?_) (fun c31 => ?_)
                · skip
                  refine j_iconst (pc := 108) dX12_ahead_108 ?_
                  refine j_callSi1 (pc := 109) (ct_X12_truth M27 0 (jm_inL (by decide) (by decide))) kg_1608 km_X12_truth kg_1609 rfl rfl ⟨(Nat.le_of_ble_eq_true rfl), (Nat.le_of_ble_eq_true rfl)⟩ rfl rfl (Nat.le_of_ble_eq_true rfl) dX12_ahead_109 (fun v32 M33 h34 => ?_)
                  exact j_iret (pc := 112) h34 rfl dX12_ahead_112
                · skip
                  refine j_iconst (pc := 104) dX12_ahead_104 ?_
                  refine j_goto (tgt := 109) (pc := 105) dX12_ahead_105 (by decide) ?_
                  refine j_callSi1 (pc := 109) (ct_X12_truth M27 1 (jm_inL (by decide) (by decide))) kg_1608 km_X12_truth kg_1609 rfl rfl ⟨(Nat.le_of_ble_eq_true rfl), (Nat.le_of_ble_eq_true rfl)⟩ rfl rfl (Nat.le_of_ble_eq_true rfl) dX12_ahead_109 (fun v35 M36 h37 => ?_)
                  exact j_iret (pc := 112) h37 rfl dX12_ahead_112
              · skip
                refine j_iconst (pc := 93) dX12_ahead_93 ?_
                refine j_goto (tgt := 112) (pc := 94) dX12_ahead_94 (by decide) ?_
                exact j_iret (pc := 112) (jm_inL (by decide) (by decide)) rfl dX12_ahead_112
abbrev rmX12_toldLine : Room := { frames := 0, cells := 0, slots := 0, locals := 0 }
set_option maxHeartbeats 4000000 in
set_option maxRecDepth 100000 in
theorem b0X12_toldLine_5 (X : jm_X) (fu : Nat) (k5 : jm_M → Int → Int → Int → Int → jm_R) (hk5 : ∀ (M : jm_M) (l1 l2 l3 l4 : Int) (hl1 : jm_in l1) (hl2 : jm_in l2) (hl3 : jm_in l3) (hl4 : jm_in l4), jm_J wd2 (jm_qi .int) cX12_toldLine 6 RX12 rmX12_toldLine X M [(0, jm_vr wd2 X 0 0), (1, jm_i l1), (2, jm_i l2), (3, jm_i l3), (4, jm_i l4)] [] 5 (k5 M l1 l2 l3 l4)) : ∀ (M : jm_M) (l1 l2 l3 l4 : Int) (hl1 : jm_in l1) (hl2 : jm_in l2) (hl3 : jm_in l3) (hl4 : jm_in l4), jm_J wd2 (jm_qi .int) cX12_toldLine 6 RX12 rmX12_toldLine X M [(0, jm_vr wd2 X 0 0), (1, jm_i l1), (2, jm_i l2), (3, jm_i l3), (4, jm_i l4)] [] 5 (gX12_toldLine_5 fu k5 M l1 l2 l3 l4) := by
  intro M l1 l2 l3 l4 hl1 hl2 hl3 hl4
  unfold gX12_toldLine_5
  refine j_iload (pc := 5) dX12_toldLine_5 (q := 4) rfl ?_
  refine j_aload_n (pc := 7) dX12_toldLine_7 rfl (q := 0) rfl ?_
  refine j_geti (pc := 8) jv2_0 jm_01 kf_RX12_7 kg2_0_1 dX12_toldLine_8 (fun h1 => ?_)
  refine j_aload_n (pc := 11) dX12_toldLine_11 rfl (q := 0) rfl ?_
  refine j_geti (pc := 12) jv2_0 jm_01 kf_RX12_10 kg2_0_2 dX12_toldLine_12 (fun h2 => ?_)
  refine j_imul (pc := 15) dX12_toldLine_15 ?_
  refine j_icmp_ge (tgt := 72) (pc := 16) hl4 (jm_w_in _) dX12_toldLine_16 (by decide) (fun c3 => ?_) (fun c3 => ?_)
  · skip
    refine j_iload_n (pc := 72) dX12_toldLine_72 rfl (q := 3) rfl ?_
    exact j_iret (pc := 73) hl3 rfl dX12_toldLine_73
  · skip
    refine j_aload_n (pc := 19) dX12_toldLine_19 rfl (q := 0) rfl ?_
    refine j_getr (pc := 20) jv2_0 jm_01 kf_RX12_363 0 kg2_0_65 rfl dX12_toldLine_20 ?_
    refine j_bipush (pc := 23) 60 dX12_toldLine_23 (by decide) ?_
    refine j_iload_n (pc := 25) dX12_toldLine_25 rfl (q := 1) rfl ?_
    refine j_imul (pc := 26) dX12_toldLine_26 ?_
    refine j_iload (pc := 27) dX12_toldLine_27 (q := 4) rfl ?_
    refine j_iadd (pc := 29) dX12_toldLine_29 ?_
    refine j_iald (pc := 30) jv2_55 jm_01 rfl (by decide) ka2_55 dX12_toldLine_30 (fun c4 h5 => ?_)
    refine j_nm (pc := 31) h5 (fun v6 h7 => ?_)
    refine j_istore (pc := 31) [(5, jm_i v6), (0, jm_vr wd2 X 0 0), (1, jm_i l1), (2, jm_i l2), (3, jm_i l3), (4, jm_i l4)] dX12_toldLine_31 (by decide) rfl ?_
    refine j_iload (pc := 33) dX12_toldLine_33 (q := 0) rfl ?_
    refine j_if_lt (tgt := 64) (pc := 35) h7 dX12_toldLine_35 (by decide) (fun c8 => ?_) (fun c8 => ?_)
    · skip
      refine j_iload_n (pc := 64) dX12_toldLine_64 rfl (q := 4) rfl ?_
      refine j_istore_n (pc := 65) [(3, jm_i l3), (5, jm_i v6), (0, jm_vr wd2 X 0 0), (1, jm_i l1), (2, jm_i l2), (4, jm_i l4)] dX12_toldLine_65 rfl (by decide) rfl ?_
      refine j_iinc (pc := 66) [(3, jm_i l3), (5, jm_i v6), (0, jm_vr wd2 X 0 0), (1, jm_i l1), (2, jm_i l2)] (q := 5) dX12_toldLine_66 rfl (by decide) (fun _ => rfl) (fun v9 h10 => ?_)
      refine j_goto (tgt := 5) (pc := 69) dX12_toldLine_69 (by decide) ?_
      refine j_sub (pc := 5) [(0, jm_vr wd2 X 0 0), (1, jm_i l1), (2, jm_i l2), (3, jm_i l3), (4, jm_i v9)] [3, 4, 5, 1, 0] rfl ?_
      exact hk5 M l1 l2 l3 v9 hl1 hl2 hl3 h10
    · skip
      refine j_iload (pc := 38) dX12_toldLine_38 (q := 0) rfl ?_
      refine j_iload_n (pc := 40) dX12_toldLine_40 rfl (q := 3) rfl ?_
      refine j_icmp_gt (tgt := 64) (pc := 41) h7 hl2 dX12_toldLine_41 (by decide) (fun c11 => ?_) (fun c11 => ?_)
      · skip
        refine j_iload_n (pc := 64) dX12_toldLine_64 rfl (q := 4) rfl ?_
        refine j_istore_n (pc := 65) [(3, jm_i l3), (5, jm_i v6), (0, jm_vr wd2 X 0 0), (1, jm_i l1), (2, jm_i l2), (4, jm_i l4)] dX12_toldLine_65 rfl (by decide) rfl ?_
        refine j_iinc (pc := 66) [(3, jm_i l3), (5, jm_i v6), (0, jm_vr wd2 X 0 0), (1, jm_i l1), (2, jm_i l2)] (q := 5) dX12_toldLine_66 rfl (by decide) (fun _ => rfl) (fun v12 h13 => ?_)
        refine j_goto (tgt := 5) (pc := 69) dX12_toldLine_69 (by decide) ?_
        refine j_sub (pc := 5) [(0, jm_vr wd2 X 0 0), (1, jm_i l1), (2, jm_i l2), (3, jm_i l3), (4, jm_i v12)] [3, 4, 5, 1, 0] rfl ?_
        exact hk5 M l1 l2 l3 v12 hl1 hl2 hl3 h13
      · skip
        refine j_aload_n (pc := 44) dX12_toldLine_44 rfl (q := 1) rfl ?_
        refine j_getr (pc := 45) jv2_0 jm_01 kf_RX12_20 0 kg2_0_5 rfl dX12_toldLine_45 ?_
        refine j_iload (pc := 48) dX12_toldLine_48 (q := 5) rfl ?_
        refine j_aload_n (pc := 50) dX12_toldLine_50 rfl (q := 1) rfl ?_
        refine j_geti (pc := 51) jv2_0 jm_01 kf_RX12_7 kg2_0_1 dX12_toldLine_51 (fun h14 => ?_)
        refine j_gd (pc := 54) (fun c15 => ?_)
        refine j_irem (pc := 54) hl4 h14 dX12_toldLine_54 c15 ?_
        refine j_bald (pc := 55) jv2_3 jm_01 rfl (by decide) ka2_3 dX12_toldLine_55 (fun c16 h17 => ?_)
        refine j_if_ne (tgt := 64) (pc := 56) h17 dX12_toldLine_56 (by decide) (fun c18 => ?_) (fun c18 => ?_)
        · skip
          refine j_iload (pc := 59) dX12_toldLine_59 (q := 5) rfl ?_
          refine j_goto (tgt := 65) (pc := 61) dX12_toldLine_61 (by decide) ?_
          refine j_istore_n (pc := 65) [(3, jm_i l4), (5, jm_i v6), (0, jm_vr wd2 X 0 0), (1, jm_i l1), (2, jm_i l2), (4, jm_i l4)] dX12_toldLine_65 rfl (by decide) rfl ?_
          refine j_iinc (pc := 66) [(3, jm_i l4), (5, jm_i v6), (0, jm_vr wd2 X 0 0), (1, jm_i l1), (2, jm_i l2)] (q := 5) dX12_toldLine_66 rfl (by decide) (fun _ => rfl) (fun v19 h20 => ?_)
          refine j_goto (tgt := 5) (pc := 69) dX12_toldLine_69 (by decide) ?_
          refine j_sub (pc := 5) [(0, jm_vr wd2 X 0 0), (1, jm_i l1), (2, jm_i l2), (3, jm_i l4), (4, jm_i v19)] [3, 4, 5, 1, 0] rfl ?_
          exact hk5 M l1 l2 l4 v19 hl1 hl2 hl4 h20
        · skip
          refine j_iload_n (pc := 64) dX12_toldLine_64 rfl (q := 4) rfl ?_
          refine j_istore_n (pc := 65) [(3, jm_i l3), (5, jm_i v6), (0, jm_vr wd2 X 0 0), (1, jm_i l1), (2, jm_i l2), (4, jm_i l4)] dX12_toldLine_65 rfl (by decide) rfl ?_
          refine j_iinc (pc := 66) [(3, jm_i l3), (5, jm_i v6), (0, jm_vr wd2 X 0 0), (1, jm_i l1), (2, jm_i l2)] (q := 5) dX12_toldLine_66 rfl (by decide) (fun _ => rfl) (fun v21 h22 => ?_)
          refine j_goto (tgt := 5) (pc := 69) dX12_toldLine_69 (by decide) ?_
          refine j_sub (pc := 5) [(0, jm_vr wd2 X 0 0), (1, jm_i l1), (2, jm_i l2), (3, jm_i l3), (4, jm_i v21)] [3, 4, 5, 1, 0] rfl ?_
          exact hk5 M l1 l2 l3 v21 hl1 hl2 hl3 h22
theorem bX12_toldLine_5 (X : jm_X) (fu : Nat) : ∀ (n : Nat) (M : jm_M) (l1 l2 l3 l4 : Int) (hl1 : jm_in l1) (hl2 : jm_in l2) (hl3 : jm_in l3) (hl4 : jm_in l4), jm_J wd2 (jm_qi .int) cX12_toldLine 6 RX12 rmX12_toldLine X M [(0, jm_vr wd2 X 0 0), (1, jm_i l1), (2, jm_i l2), (3, jm_i l3), (4, jm_i l4)] [] 5 (fX12_toldLine_5 fu n M l1 l2 l3 l4) := by
  intro n
  induction n with
  | zero => intro M l1 l2 l3 l4 hl1 hl2 hl3 hl4; exact j_none
  | succ n ih => intro M l1 l2 l3 l4 hl1 hl2 hl3 hl4; exact b0X12_toldLine_5 X fu (fX12_toldLine_5 fu n) ih M l1 l2 l3 l4 hl1 hl2 hl3 hl4
set_option maxHeartbeats 4000000 in
set_option maxRecDepth 100000 in
theorem ct_X12_toldLine (fu : Nat) (M : jm_M) (l1 l2 : Int) (hl1 : jm_in l1) (hl2 : jm_in l2) : jm_Ci wd2 yX12_toldLine cX12_toldLine 6 (some .int) rmX12_toldLine M (fun G ad => [.ref (ad (jm_r wd2 0 0)), jm_i l1, jm_i l2]) (fX12_toldLine fu M l1 l2) := by
  refine jm_met_i (fun X => [(0, jm_vr wd2 X 0 0), (1, jm_i l1), (2, jm_i l2)]) (by decide) (fun _ _ => (Nat.le_of_ble_eq_true rfl)) (fun _ => rfl) (fun X => ?_)
  unfold fX12_toldLine
  refine j_iconst (pc := 0) dX12_toldLine_0 ?_
  refine j_istore_n (pc := 1) [(3, jm_i (-1)), (0, jm_vr wd2 X 0 0), (1, jm_i l1), (2, jm_i l2)] dX12_toldLine_1 rfl (by decide) rfl ?_
  refine j_iconst (pc := 2) dX12_toldLine_2 ?_
  refine j_istore (pc := 3) [(4, jm_i 0), (3, jm_i (-1)), (0, jm_vr wd2 X 0 0), (1, jm_i l1), (2, jm_i l2)] dX12_toldLine_3 (by decide) rfl ?_
  refine j_sub (pc := 5) [(0, jm_vr wd2 X 0 0), (1, jm_i l1), (2, jm_i l2), (3, jm_i (-1)), (4, jm_i 0)] [2, 3, 4, 1, 0] rfl ?_
  exact bX12_toldLine_5 X fu  fu M l1 l2 (-1) 0 hl1 hl2 (jm_inL (by decide) (by decide)) (jm_inL (by decide) (by decide))
abbrev rmX12_wall : Room := { frames := 7, cells := 0, slots := 0, locals := 170 }
set_option maxHeartbeats 4000000 in
set_option maxRecDepth 100000 in
theorem bX12_wall_97 (X : jm_X) (fu : Nat) (k57 : jm_M → Int → Int → Int → Int → Int → Int → jm_R) (hk57 : ∀ (M : jm_M) (l1 l2 l3 l4 l5 l6 : Int) (hl1 : jm_in l1) (hl2 : jm_in l2) (hl3 : jm_in l3) (hl4 : jm_in l4) (hl5 : jm_in l5) (hl6 : jm_in l6), jm_J wd2 (jm_qi .int) cX12_wall 9 RX12 rmX12_wall X M [(0, jm_vr wd2 X 0 0), (1, jm_i l1), (2, jm_i l2), (3, jm_i l3), (4, jm_i l4), (5, jm_i l5), (6, jm_i l6)] [] 57 (k57 M l1 l2 l3 l4 l5 l6)) : ∀ (M : jm_M) (l1 l2 l3 l4 l5 l6 l7 s0 : Int) (hl1 : jm_in l1) (hl2 : jm_in l2) (hl3 : jm_in l3) (hl4 : jm_in l4) (hl5 : jm_in l5) (hl6 : jm_in l6) (hl7 : jm_in l7) (hs0 : jm_in s0), jm_J wd2 (jm_qi .int) cX12_wall 9 RX12 rmX12_wall X M [(0, jm_vr wd2 X 0 0), (1, jm_i l1), (2, jm_i l2), (3, jm_i l3), (4, jm_i l4), (5, jm_i l5), (6, jm_i l6), (7, jm_i l7)] [jm_i s0] 97 (gX12_wall_97 fu k57 M l1 l2 l3 l4 l5 l6 l7 s0) := by
  intro M l1 l2 l3 l4 l5 l6 l7 s0 hl1 hl2 hl3 hl4 hl5 hl6 hl7 hs0
  unfold gX12_wall_97
  refine j_istore (pc := 97) [(8, jm_i s0), (0, jm_vr wd2 X 0 0), (1, jm_i l1), (2, jm_i l2), (3, jm_i l3), (4, jm_i l4), (5, jm_i l5), (6, jm_i l6), (7, jm_i l7)] dX12_wall_97 (by decide) rfl ?_
  refine j_iload (pc := 99) dX12_wall_99 (q := 6) rfl ?_
  refine j_iload (pc := 101) dX12_wall_101 (q := 8) rfl ?_
  refine j_iload_n (pc := 103) dX12_wall_103 rfl (q := 4) rfl ?_
  refine j_icmp_gt (tgt := 133) (pc := 104) hl7 hl3 dX12_wall_104 (by decide) (fun c1 => ?_) (fun c1 => ?_)
  · skip
    refine j_iconst (pc := 133) dX12_wall_133 ?_
    refine j_goto (tgt := 138) (pc := 134) dX12_wall_134 (by decide) ?_
    refine j_iadd (pc := 138) dX12_wall_138 ?_
    refine j_nm (pc := 139) (jm_w_in _) (fun v2 h3 => ?_)
    refine j_istore (pc := 139) [(5, jm_i v2), (8, jm_i s0), (0, jm_vr wd2 X 0 0), (1, jm_i l1), (2, jm_i l2), (3, jm_i l3), (4, jm_i l4), (6, jm_i l6), (7, jm_i l7)] dX12_wall_139 (by decide) rfl ?_
    refine j_iinc (pc := 141) [(5, jm_i v2), (8, jm_i s0), (0, jm_vr wd2 X 0 0), (1, jm_i l1), (2, jm_i l2), (3, jm_i l3), (4, jm_i l4), (7, jm_i l7)] (q := 7) dX12_wall_141 rfl (by decide) (fun _ => rfl) (fun v4 h5 => ?_)
    refine j_goto (tgt := 57) (pc := 144) dX12_wall_144 (by decide) ?_
    refine j_sub (pc := 57) [(0, jm_vr wd2 X 0 0), (1, jm_i l1), (2, jm_i l2), (3, jm_i l3), (4, jm_i l4), (5, jm_i v2), (6, jm_i v4)] [3, 4, 5, 6, 7, 1, 0] rfl ?_
    exact hk57 M l1 l2 l3 l4 v2 v4 hl1 hl2 hl3 hl4 h3 h5
  · skip
    refine j_iload (pc := 107) dX12_wall_107 (q := 8) rfl ?_
    refine j_iload_n (pc := 109) dX12_wall_109 rfl (q := 4) rfl ?_
    refine j_icmp_ne (tgt := 137) (pc := 110) hl7 hl3 dX12_wall_110 (by decide) (fun c6 => ?_) (fun c6 => ?_)
    · skip
      refine j_iload (pc := 113) dX12_wall_113 (q := 0) rfl ?_
      refine j_iload (pc := 115) dX12_wall_115 (q := 5) rfl ?_
      refine j_icmp_lt (tgt := 133) (pc := 117) hs0 hl4 dX12_wall_117 (by decide) (fun c7 => ?_) (fun c7 => ?_)
      · skip
        refine j_iconst (pc := 133) dX12_wall_133 ?_
        refine j_goto (tgt := 138) (pc := 134) dX12_wall_134 (by decide) ?_
        refine j_iadd (pc := 138) dX12_wall_138 ?_
        refine j_nm (pc := 139) (jm_w_in _) (fun v8 h9 => ?_)
        refine j_istore (pc := 139) [(5, jm_i v8), (8, jm_i s0), (0, jm_vr wd2 X 0 0), (1, jm_i l1), (2, jm_i l2), (3, jm_i l3), (4, jm_i l4), (6, jm_i l6), (7, jm_i l7)] dX12_wall_139 (by decide) rfl ?_
        refine j_iinc (pc := 141) [(5, jm_i v8), (8, jm_i s0), (0, jm_vr wd2 X 0 0), (1, jm_i l1), (2, jm_i l2), (3, jm_i l3), (4, jm_i l4), (7, jm_i l7)] (q := 7) dX12_wall_141 rfl (by decide) (fun _ => rfl) (fun v10 h11 => ?_)
        refine j_goto (tgt := 57) (pc := 144) dX12_wall_144 (by decide) ?_
        refine j_sub (pc := 57) [(0, jm_vr wd2 X 0 0), (1, jm_i l1), (2, jm_i l2), (3, jm_i l3), (4, jm_i l4), (5, jm_i v8), (6, jm_i v10)] [3, 4, 5, 6, 7, 1, 0] rfl ?_
        exact hk57 M l1 l2 l3 l4 v8 v10 hl1 hl2 hl3 hl4 h9 h11
      · skip
        refine j_iload (pc := 120) dX12_wall_120 (q := 0) rfl ?_
        refine j_iload (pc := 122) dX12_wall_122 (q := 5) rfl ?_
        refine j_icmp_ne (tgt := 137) (pc := 124) hs0 hl4 dX12_wall_124 (by decide) (fun c12 => ?_) (fun c12 => ?_)
        · skip
          refine j_iload (pc := 127) dX12_wall_127 (q := 7) rfl ?_
          refine j_iload_n (pc := 129) dX12_wall_129 rfl (q := 2) rfl ?_
          refine j_icmp_ge (tgt := 137) (pc := 130) hl6 hl1 dX12_wall_130 (by decide) (fun c13 => ?_) (fun c13 => ?_)
          · skip
            refine j_iconst (pc := 137) dX12_wall_137 ?_
            refine j_iadd (pc := 138) dX12_wall_138 ?_
            refine j_nm (pc := 139) (jm_w_in _) (fun v14 h15 => ?_)
            refine j_istore (pc := 139) [(5, jm_i v14), (8, jm_i s0), (0, jm_vr wd2 X 0 0), (1, jm_i l1), (2, jm_i l2), (3, jm_i l3), (4, jm_i l4), (6, jm_i l6), (7, jm_i l7)] dX12_wall_139 (by decide) rfl ?_
            refine j_iinc (pc := 141) [(5, jm_i v14), (8, jm_i s0), (0, jm_vr wd2 X 0 0), (1, jm_i l1), (2, jm_i l2), (3, jm_i l3), (4, jm_i l4), (7, jm_i l7)] (q := 7) dX12_wall_141 rfl (by decide) (fun _ => rfl) (fun v16 h17 => ?_)
            refine j_goto (tgt := 57) (pc := 144) dX12_wall_144 (by decide) ?_
            refine j_sub (pc := 57) [(0, jm_vr wd2 X 0 0), (1, jm_i l1), (2, jm_i l2), (3, jm_i l3), (4, jm_i l4), (5, jm_i v14), (6, jm_i v16)] [3, 4, 5, 6, 7, 1, 0] rfl ?_
            exact hk57 M l1 l2 l3 l4 v14 v16 hl1 hl2 hl3 hl4 h15 h17
          · skip
            refine j_iconst (pc := 133) dX12_wall_133 ?_
            refine j_goto (tgt := 138) (pc := 134) dX12_wall_134 (by decide) ?_
            refine j_iadd (pc := 138) dX12_wall_138 ?_
            refine j_nm (pc := 139) (jm_w_in _) (fun v18 h19 => ?_)
            refine j_istore (pc := 139) [(5, jm_i v18), (8, jm_i s0), (0, jm_vr wd2 X 0 0), (1, jm_i l1), (2, jm_i l2), (3, jm_i l3), (4, jm_i l4), (6, jm_i l6), (7, jm_i l7)] dX12_wall_139 (by decide) rfl ?_
            refine j_iinc (pc := 141) [(5, jm_i v18), (8, jm_i s0), (0, jm_vr wd2 X 0 0), (1, jm_i l1), (2, jm_i l2), (3, jm_i l3), (4, jm_i l4), (7, jm_i l7)] (q := 7) dX12_wall_141 rfl (by decide) (fun _ => rfl) (fun v20 h21 => ?_)
            refine j_goto (tgt := 57) (pc := 144) dX12_wall_144 (by decide) ?_
            refine j_sub (pc := 57) [(0, jm_vr wd2 X 0 0), (1, jm_i l1), (2, jm_i l2), (3, jm_i l3), (4, jm_i l4), (5, jm_i v18), (6, jm_i v20)] [3, 4, 5, 6, 7, 1, 0] rfl ?_
            exact hk57 M l1 l2 l3 l4 v18 v20 hl1 hl2 hl3 hl4 h19 h21
        · skip
          refine j_iconst (pc := 137) dX12_wall_137 ?_
          refine j_iadd (pc := 138) dX12_wall_138 ?_
          refine j_nm (pc := 139) (jm_w_in _) (fun v22 h23 => ?_)
          refine j_istore (pc := 139) [(5, jm_i v22), (8, jm_i s0), (0, jm_vr wd2 X 0 0), (1, jm_i l1), (2, jm_i l2), (3, jm_i l3), (4, jm_i l4), (6, jm_i l6), (7, jm_i l7)] dX12_wall_139 (by decide) rfl ?_
          refine j_iinc (pc := 141) [(5, jm_i v22), (8, jm_i s0), (0, jm_vr wd2 X 0 0), (1, jm_i l1), (2, jm_i l2), (3, jm_i l3), (4, jm_i l4), (7, jm_i l7)] (q := 7) dX12_wall_141 rfl (by decide) (fun _ => rfl) (fun v24 h25 => ?_)
          refine j_goto (tgt := 57) (pc := 144) dX12_wall_144 (by decide) ?_
          refine j_sub (pc := 57) [(0, jm_vr wd2 X 0 0), (1, jm_i l1), (2, jm_i l2), (3, jm_i l3), (4, jm_i l4), (5, jm_i v22), (6, jm_i v24)] [3, 4, 5, 6, 7, 1, 0] rfl ?_
          exact hk57 M l1 l2 l3 l4 v22 v24 hl1 hl2 hl3 hl4 h23 h25
    · skip
      refine j_iconst (pc := 137) dX12_wall_137 ?_
      refine j_iadd (pc := 138) dX12_wall_138 ?_
      refine j_nm (pc := 139) (jm_w_in _) (fun v26 h27 => ?_)
      refine j_istore (pc := 139) [(5, jm_i v26), (8, jm_i s0), (0, jm_vr wd2 X 0 0), (1, jm_i l1), (2, jm_i l2), (3, jm_i l3), (4, jm_i l4), (6, jm_i l6), (7, jm_i l7)] dX12_wall_139 (by decide) rfl ?_
      refine j_iinc (pc := 141) [(5, jm_i v26), (8, jm_i s0), (0, jm_vr wd2 X 0 0), (1, jm_i l1), (2, jm_i l2), (3, jm_i l3), (4, jm_i l4), (7, jm_i l7)] (q := 7) dX12_wall_141 rfl (by decide) (fun _ => rfl) (fun v28 h29 => ?_)
      refine j_goto (tgt := 57) (pc := 144) dX12_wall_144 (by decide) ?_
      refine j_sub (pc := 57) [(0, jm_vr wd2 X 0 0), (1, jm_i l1), (2, jm_i l2), (3, jm_i l3), (4, jm_i l4), (5, jm_i v26), (6, jm_i v28)] [3, 4, 5, 6, 7, 1, 0] rfl ?_
      exact hk57 M l1 l2 l3 l4 v26 v28 hl1 hl2 hl3 hl4 h27 h29
set_option maxHeartbeats 4000000 in
set_option maxRecDepth 100000 in
theorem b0X12_wall_57 (X : jm_X) (fu : Nat) (k57 : jm_M → Int → Int → Int → Int → Int → Int → jm_R) (hk57 : ∀ (M : jm_M) (l1 l2 l3 l4 l5 l6 : Int) (hl1 : jm_in l1) (hl2 : jm_in l2) (hl3 : jm_in l3) (hl4 : jm_in l4) (hl5 : jm_in l5) (hl6 : jm_in l6), jm_J wd2 (jm_qi .int) cX12_wall 9 RX12 rmX12_wall X M [(0, jm_vr wd2 X 0 0), (1, jm_i l1), (2, jm_i l2), (3, jm_i l3), (4, jm_i l4), (5, jm_i l5), (6, jm_i l6)] [] 57 (k57 M l1 l2 l3 l4 l5 l6)) : ∀ (M : jm_M) (l1 l2 l3 l4 l5 l6 : Int) (hl1 : jm_in l1) (hl2 : jm_in l2) (hl3 : jm_in l3) (hl4 : jm_in l4) (hl5 : jm_in l5) (hl6 : jm_in l6), jm_J wd2 (jm_qi .int) cX12_wall 9 RX12 rmX12_wall X M [(0, jm_vr wd2 X 0 0), (1, jm_i l1), (2, jm_i l2), (3, jm_i l3), (4, jm_i l4), (5, jm_i l5), (6, jm_i l6)] [] 57 (gX12_wall_57 fu k57 M l1 l2 l3 l4 l5 l6) := by
  intro M l1 l2 l3 l4 l5 l6 hl1 hl2 hl3 hl4 hl5 hl6
  unfold gX12_wall_57
  refine j_iload (pc := 57) dX12_wall_57 (q := 6) rfl ?_
  refine j_aload_n (pc := 59) dX12_wall_59 rfl (q := 0) rfl ?_
  refine j_geti (pc := 60) jv2_0 jm_01 kf_RX12_30 kg2_0_17 dX12_wall_60 (fun h1 => ?_)
  refine j_icmp_ge (tgt := 147) (pc := 63) hl6 h1 dX12_wall_63 (by decide) (fun c2 => ?_) (fun c2 => ?_)
  · skip
    refine j_iload (pc := 147) dX12_wall_147 (q := 5) rfl ?_
    exact j_iret (pc := 149) hl5 rfl dX12_wall_149
  · skip
    refine j_aload_n (pc := 66) dX12_wall_66 rfl (q := 0) rfl ?_
    refine j_iload (pc := 67) dX12_wall_67 (q := 6) rfl ?_
    refine j_iload_n (pc := 69) dX12_wall_69 rfl (q := 2) rfl ?_
    refine j_callVi2 (pc := 70) (ct_X12_toldLine fu M l6 l2 hl6 hl2) kg_1776 km_X12_toldLine kv_X12_toldLine rfl rfl ⟨(Nat.le_of_ble_eq_true rfl), (Nat.le_of_ble_eq_true rfl)⟩ jv2_0 jm_01 ko2_0 rfl rfl (Nat.le_of_ble_eq_true rfl) dX12_wall_70 (fun v3 M4 h5 => ?_)
    refine j_istore (pc := 73) [(7, jm_i v3), (0, jm_vr wd2 X 0 0), (1, jm_i l1), (2, jm_i l2), (3, jm_i l3), (4, jm_i l4), (5, jm_i l5), (6, jm_i l6)] dX12_wall_73 (by decide) rfl ?_
    refine j_iload (pc := 75) dX12_wall_75 (q := 0) rfl ?_
    refine j_if_ge (tgt := 84) (pc := 77) h5 dX12_wall_77 (by decide) (fun c6 => ?_) (fun c6 => ?_)
    · skip
      refine j_aload_n (pc := 84) dX12_wall_84 rfl (q := 1) rfl ?_
      refine j_getr (pc := 85) jv2_0 jm_01 kf_RX12_363 0 kg2_0_65 rfl dX12_wall_85 ?_
      refine j_bipush (pc := 88) 60 dX12_wall_88 (by decide) ?_
      refine j_iload (pc := 90) dX12_wall_90 (q := 7) rfl ?_
      refine j_imul (pc := 92) dX12_wall_92 ?_
      refine j_iload (pc := 93) dX12_wall_93 (q := 0) rfl ?_
      refine j_iadd (pc := 95) dX12_wall_95 ?_
      refine j_iald (pc := 96) jv2_55 jm_01 rfl (by decide) ka2_55 dX12_wall_96 (fun c7 h8 => ?_)
      refine j_sub (pc := 97) [(0, jm_vr wd2 X 0 0), (1, jm_i l1), (2, jm_i l2), (3, jm_i l3), (4, jm_i l4), (5, jm_i l5), (6, jm_i l6), (7, jm_i v3)] [1, 2, 3, 4, 5, 6, 7, 0] rfl ?_
      exact bX12_wall_97 X fu k57 hk57 M4 l1 l2 l3 l4 l5 l6 v3 (M4 55 0 (jm_w ((jm_w (60 * l6)) + v3))) hl1 hl2 hl3 hl4 hl5 hl6 h5 h8
    · skip
      refine j_iconst (pc := 80) dX12_wall_80 ?_
      refine j_goto (tgt := 97) (pc := 81) dX12_wall_81 (by decide) ?_
      refine j_sub (pc := 97) [(0, jm_vr wd2 X 0 0), (1, jm_i l1), (2, jm_i l2), (3, jm_i l3), (4, jm_i l4), (5, jm_i l5), (6, jm_i l6), (7, jm_i v3)] [1, 2, 3, 4, 5, 6, 7, 0] rfl ?_
      exact bX12_wall_97 X fu k57 hk57 M4 l1 l2 l3 l4 l5 l6 v3 0 hl1 hl2 hl3 hl4 hl5 hl6 h5 (jm_inL (by decide) (by decide))
theorem bX12_wall_57 (X : jm_X) (fu : Nat) : ∀ (n : Nat) (M : jm_M) (l1 l2 l3 l4 l5 l6 : Int) (hl1 : jm_in l1) (hl2 : jm_in l2) (hl3 : jm_in l3) (hl4 : jm_in l4) (hl5 : jm_in l5) (hl6 : jm_in l6), jm_J wd2 (jm_qi .int) cX12_wall 9 RX12 rmX12_wall X M [(0, jm_vr wd2 X 0 0), (1, jm_i l1), (2, jm_i l2), (3, jm_i l3), (4, jm_i l4), (5, jm_i l5), (6, jm_i l6)] [] 57 (fX12_wall_57 fu n M l1 l2 l3 l4 l5 l6) := by
  intro n
  induction n with
  | zero => intro M l1 l2 l3 l4 l5 l6 hl1 hl2 hl3 hl4 hl5 hl6; exact j_none
  | succ n ih => intro M l1 l2 l3 l4 l5 l6 hl1 hl2 hl3 hl4 hl5 hl6; exact b0X12_wall_57 X fu (fX12_wall_57 fu n) ih M l1 l2 l3 l4 l5 l6 hl1 hl2 hl3 hl4 hl5 hl6
set_option maxHeartbeats 4000000 in
set_option maxRecDepth 100000 in
theorem ct_X12_wall (fu : Nat) (M : jm_M) (l1 l2 : Int) (hl1 : jm_in l1) (hl2 : jm_in l2) : jm_Ci wd2 yX12_wall cX12_wall 9 (some .int) rmX12_wall M (fun G ad => [.ref (ad (jm_r wd2 0 0)), jm_i l1, jm_i l2]) (fX12_wall fu M l1 l2) := by
  refine jm_met_i (fun X => [(0, jm_vr wd2 X 0 0), (1, jm_i l1), (2, jm_i l2)]) (by decide) (fun _ _ => (Nat.le_of_ble_eq_true rfl)) (fun _ => rfl) (fun X => ?_)
  unfold fX12_wall
  refine j_aload_n (pc := 0) dX12_wall_0 rfl (q := 0) rfl ?_
  refine j_iconst (pc := 1) dX12_wall_1 ?_
  refine j_put (pc := 2) jv2_0 jm_01 kf_RX12_3 wI2 kp_X12_0 kx2_0_0 (jm_inL (by decide) (by decide)) rfl rfl dX12_wall_2 (fun M1 => ?_)
  refine j_aload_n (pc := 5) dX12_wall_5 rfl (q := 0) rfl ?_
  refine j_iload_n (pc := 6) dX12_wall_6 rfl (q := 1) rfl ?_
  refine j_callVi1 (pc := 7) (ct_X12_isCar M1 l1 hl1) kg_1405 km_X12_isCar kv_X12_isCar rfl rfl ⟨(Nat.le_of_ble_eq_true rfl), (Nat.le_of_ble_eq_true rfl)⟩ jv2_0 jm_01 ko2_0 rfl rfl (Nat.le_of_ble_eq_true rfl) dX12_wall_7 (fun v2 M3 h4 => ?_)
  refine j_if_eq (tgt := 17) (pc := 10) h4 dX12_wall_10 (by decide) (fun c5 => ?_) (fun c5 => ?_)
  · skip
    refine j_iconst (pc := 17) dX12_wall_17 ?_
    exact j_iret (pc := 18) (jm_inL (by decide) (by decide)) rfl dX12_wall_18
  · skip
    refine j_iload_n (pc := 13) dX12_wall_13 rfl (q := 2) rfl ?_
    refine j_if_ge (tgt := 19) (pc := 14) hl2 dX12_wall_14 (by decide) (fun c6 => ?_) (fun c6 => ?_)
    · skip
      refine j_aload_n (pc := 19) dX12_wall_19 rfl (q := 0) rfl ?_
      refine j_callVv0 (pc := 20) (ct_X12_runs fu M3 ) kg_1538 km_X12_runs kv_X12_runs rfl rfl ⟨(Nat.le_of_ble_eq_true rfl), (Nat.le_of_ble_eq_true rfl)⟩ jv2_0 jm_01 ko2_0 rfl rfl (Nat.le_of_ble_eq_true rfl) dX12_wall_20 (fun v7 M8 => ?_)
      refine j_aload_n (pc := 23) dX12_wall_23 rfl (q := 0) rfl ?_
      refine j_iload_n (pc := 24) dX12_wall_24 rfl (q := 1) rfl ?_
      refine j_iload_n (pc := 25) dX12_wall_25 rfl (q := 2) rfl ?_
      refine j_callVi2 (pc := 26) (ct_X12_toldLine fu M8 l1 l2 hl1 hl2) kg_1776 km_X12_toldLine kv_X12_toldLine rfl rfl ⟨(Nat.le_of_ble_eq_true rfl), (Nat.le_of_ble_eq_true rfl)⟩ jv2_0 jm_01 ko2_0 rfl rfl (Nat.le_of_ble_eq_true rfl) dX12_wall_26 (fun v9 M10 h11 => ?_)
      refine j_istore_n (pc := 29) [(3, jm_i v9), (0, jm_vr wd2 X 0 0), (1, jm_i l1), (2, jm_i l2)] dX12_wall_29 rfl (by decide) rfl ?_
      refine j_iload_n (pc := 30) dX12_wall_30 rfl (q := 0) rfl ?_
      refine j_if_ge (tgt := 38) (pc := 31) h11 dX12_wall_31 (by decide) (fun c12 => ?_) (fun c12 => ?_)
      · skip
        refine j_aload_n (pc := 38) dX12_wall_38 rfl (q := 1) rfl ?_
        refine j_getr (pc := 39) jv2_0 jm_01 kf_RX12_363 0 kg2_0_65 rfl dX12_wall_39 ?_
        refine j_bipush (pc := 42) 60 dX12_wall_42 (by decide) ?_
        refine j_iload_n (pc := 44) dX12_wall_44 rfl (q := 2) rfl ?_
        refine j_imul (pc := 45) dX12_wall_45 ?_
        refine j_iload_n (pc := 46) dX12_wall_46 rfl (q := 0) rfl ?_
        refine j_iadd (pc := 47) dX12_wall_47 ?_
        refine j_iald (pc := 48) jv2_55 jm_01 rfl (by decide) ka2_55 dX12_wall_48 (fun c13 h14 => ?_)
        refine j_nm (pc := 49) h14 (fun v15 h16 => ?_)
        refine j_istore (pc := 49) [(4, jm_i v15), (3, jm_i v9), (0, jm_vr wd2 X 0 0), (1, jm_i l1), (2, jm_i l2)] dX12_wall_49 (by decide) rfl ?_
        refine j_iconst (pc := 51) dX12_wall_51 ?_
        refine j_istore (pc := 52) [(5, jm_i 0), (4, jm_i v15), (3, jm_i v9), (0, jm_vr wd2 X 0 0), (1, jm_i l1), (2, jm_i l2)] dX12_wall_52 (by decide) rfl ?_
        refine j_iconst (pc := 54) dX12_wall_54 ?_
        refine j_istore (pc := 55) [(6, jm_i 0), (5, jm_i 0), (4, jm_i v15), (3, jm_i v9), (0, jm_vr wd2 X 0 0), (1, jm_i l1), (2, jm_i l2)] dX12_wall_55 (by decide) rfl ?_
        refine j_sub (pc := 57) [(0, jm_vr wd2 X 0 0), (1, jm_i l1), (2, jm_i l2), (3, jm_i v9), (4, jm_i v15), (5, jm_i 0), (6, jm_i 0)] [4, 5, 6, 3, 2, 1, 0] rfl ?_
        exact bX12_wall_57 X fu  fu M10 l1 l2 v9 v15 0 0 hl1 hl2 h11 h16 (jm_inL (by decide) (by decide)) (jm_inL (by decide) (by decide))
      · skip
        refine j_iconst (pc := 34) dX12_wall_34 ?_
        refine j_goto (tgt := 49) (pc := 35) dX12_wall_35 (by decide) ?_
        refine j_istore (pc := 49) [(4, jm_i 0), (3, jm_i v9), (0, jm_vr wd2 X 0 0), (1, jm_i l1), (2, jm_i l2)] dX12_wall_49 (by decide) rfl ?_
        refine j_iconst (pc := 51) dX12_wall_51 ?_
        refine j_istore (pc := 52) [(5, jm_i 0), (4, jm_i 0), (3, jm_i v9), (0, jm_vr wd2 X 0 0), (1, jm_i l1), (2, jm_i l2)] dX12_wall_52 (by decide) rfl ?_
        refine j_iconst (pc := 54) dX12_wall_54 ?_
        refine j_istore (pc := 55) [(6, jm_i 0), (5, jm_i 0), (4, jm_i 0), (3, jm_i v9), (0, jm_vr wd2 X 0 0), (1, jm_i l1), (2, jm_i l2)] dX12_wall_55 (by decide) rfl ?_
        refine j_sub (pc := 57) [(0, jm_vr wd2 X 0 0), (1, jm_i l1), (2, jm_i l2), (3, jm_i v9), (4, jm_i 0), (5, jm_i 0), (6, jm_i 0)] [4, 5, 6, 3, 2, 1, 0] rfl ?_
        exact bX12_wall_57 X fu  fu M10 l1 l2 v9 0 0 0 hl1 hl2 h11 (jm_inL (by decide) (by decide)) (jm_inL (by decide) (by decide)) (jm_inL (by decide) (by decide))
    · skip
      refine j_iconst (pc := 17) dX12_wall_17 ?_
      exact j_iret (pc := 18) (jm_inL (by decide) (by decide)) rfl dX12_wall_18
abbrev rmX12_why : Room := { frames := 7, cells := 0, slots := 0, locals := 170 }
set_option maxHeartbeats 4000000 in
set_option maxRecDepth 100000 in
theorem ct_X12_why (fu : Nat) (M : jm_M) (l1 l2 : Int) (hl1 : jm_in l1) (hl2 : jm_in l2) : jm_Ci wd2 yX12_why cX12_why 3 (some .int) rmX12_why M (fun G ad => [.ref (ad (jm_r wd2 0 0)), jm_i l1, jm_i l2]) (fX12_why fu M l1 l2) := by
  refine jm_met_i (fun X => [(0, jm_vr wd2 X 0 0), (1, jm_i l1), (2, jm_i l2)]) (by decide) (fun _ _ => (Nat.le_of_ble_eq_true rfl)) (fun _ => rfl) (fun X => ?_)
  unfold fX12_why
  refine j_aload_n (pc := 0) dX12_why_0 rfl (q := 0) rfl ?_
  refine j_iconst (pc := 1) dX12_why_1 ?_
  refine j_put (pc := 2) jv2_0 jm_01 kf_RX12_3 wI2 kp_X12_0 kx2_0_0 (jm_inL (by decide) (by decide)) rfl rfl dX12_why_2 (fun M1 => ?_)
  refine j_aload_n (pc := 5) dX12_why_5 rfl (q := 0) rfl ?_
  refine j_iload_n (pc := 6) dX12_why_6 rfl (q := 1) rfl ?_
  refine j_callVi1 (pc := 7) (ct_X12_isCar M1 l1 hl1) kg_1405 km_X12_isCar kv_X12_isCar rfl rfl ⟨(Nat.le_of_ble_eq_true rfl), (Nat.le_of_ble_eq_true rfl)⟩ jv2_0 jm_01 ko2_0 rfl rfl (Nat.le_of_ble_eq_true rfl) dX12_why_7 (fun v2 M3 h4 => ?_)
  refine j_if_eq (tgt := 21) (pc := 10) h4 dX12_why_10 (by decide) (fun c5 => ?_) (fun c5 => ?_)
  · skip
    refine j_iconst (pc := 21) dX12_why_21 ?_
    exact j_iret (pc := 22) (jm_inL (by decide) (by decide)) rfl dX12_why_22
  · skip
    refine j_aload_n (pc := 13) dX12_why_13 rfl (q := 0) rfl ?_
    refine j_iload_n (pc := 14) dX12_why_14 rfl (q := 2) rfl ?_
    refine j_callVi1 (pc := 15) (ct_X12_isLap M3 l2 hl2) kg_1413 km_X12_isLap kv_X12_isLap rfl rfl ⟨(Nat.le_of_ble_eq_true rfl), (Nat.le_of_ble_eq_true rfl)⟩ jv2_0 jm_01 ko2_0 rfl rfl (Nat.le_of_ble_eq_true rfl) dX12_why_15 (fun v6 M7 h8 => ?_)
    refine j_if_ne (tgt := 23) (pc := 18) h8 dX12_why_18 (by decide) (fun c9 => ?_) (fun c9 => ?_)
    · skip
      refine j_iconst (pc := 21) dX12_why_21 ?_
      exact j_iret (pc := 22) (jm_inL (by decide) (by decide)) rfl dX12_why_22
    · skip
      refine j_aload_n (pc := 23) dX12_why_23 rfl (q := 0) rfl ?_
      refine j_callVv0 (pc := 24) (ct_X12_runs fu M7 ) kg_1538 km_X12_runs kv_X12_runs rfl rfl ⟨(Nat.le_of_ble_eq_true rfl), (Nat.le_of_ble_eq_true rfl)⟩ jv2_0 jm_01 ko2_0 rfl rfl (Nat.le_of_ble_eq_true rfl) dX12_why_24 (fun v10 M11 => ?_)
      refine j_aload_n (pc := 27) dX12_why_27 rfl (q := 0) rfl ?_
      refine j_getr (pc := 28) jv2_0 jm_01 kf_RX12_369 0 kg2_0_69 rfl dX12_why_28 ?_
      refine j_bipush (pc := 31) 12 dX12_why_31 (by decide) ?_
      refine j_iload_n (pc := 33) dX12_why_33 rfl (q := 1) rfl ?_
      refine j_imul (pc := 34) dX12_why_34 ?_
      refine j_iload_n (pc := 35) dX12_why_35 rfl (q := 2) rfl ?_
      refine j_iadd (pc := 36) dX12_why_36 ?_
      refine j_iald (pc := 37) jv2_59 jm_01 rfl (by decide) ka2_59 dX12_why_37 (fun c12 h13 => ?_)
      exact j_iret (pc := 38) h13 rfl dX12_why_38
abbrev rmX12_row : Room := { frames := 1, cells := 0, slots := 0, locals := 25 }
set_option maxHeartbeats 4000000 in
set_option maxRecDepth 100000 in
theorem ct_X12_row (M : jm_M) (l1 : Int) (hl1 : jm_in l1) : jm_Ci wd2 yX12_row cX12_row 2 (some .int) rmX12_row M (fun G ad => [.ref (ad (jm_r wd2 0 0)), jm_i l1]) (fX12_row M l1) := by
  refine jm_met_i (fun X => [(0, jm_vr wd2 X 0 0), (1, jm_i l1)]) (by decide) (fun _ _ => (Nat.le_of_ble_eq_true rfl)) (fun _ => rfl) (fun X => ?_)
  unfold fX12_row
  refine j_aload_n (pc := 0) dX12_row_0 rfl (q := 0) rfl ?_
  refine j_iconst (pc := 1) dX12_row_1 ?_
  refine j_put (pc := 2) jv2_0 jm_01 kf_RX12_3 wI2 kp_X12_0 kx2_0_0 (jm_inL (by decide) (by decide)) rfl rfl dX12_row_2 (fun M1 => ?_)
  refine j_iload_n (pc := 5) dX12_row_5 rfl (q := 1) rfl ?_
  refine j_i2l (pc := 6) hl1 dX12_row_6 ?_
  refine j_lconst (pc := 7) 0 dX12_row_7 rfl ?_
  refine j_aload_n (pc := 8) dX12_row_8 rfl (q := 0) rfl ?_
  refine j_geti (pc := 9) jv2_0 jm_01 kf_RX12_185 kg2_0_82 dX12_row_9 (fun h2 => ?_)
  refine j_iconst (pc := 12) dX12_row_12 ?_
  refine j_isub (pc := 13) dX12_row_13 ?_
  refine j_i2l (pc := 14) (jm_w_in _) dX12_row_14 ?_
  refine j_callSi3 (pc := 15) (ct_X12_in M1 l1 0 (jm_w ((M1 0 0 82) - 1)) hl1 (jm_inL (by decide) (by decide)) (jm_w_in _)) kg_1347 km_X12_in kg_1348 rfl rfl ⟨(Nat.le_of_ble_eq_true rfl), (Nat.le_of_ble_eq_true rfl)⟩ rfl rfl (Nat.le_of_ble_eq_true rfl) dX12_row_15 (fun v3 M4 h5 => ?_)
  refine j_if_eq (tgt := 30) (pc := 18) h5 dX12_row_18 (by decide) (fun c6 => ?_) (fun c6 => ?_)
  · skip
    refine j_aload_n (pc := 30) dX12_row_30 rfl (q := 0) rfl ?_
    refine j_callVi0 (pc := 31) (ct_X12_refuse M4 ) kg_1534 km_X12_refuse kv_X12_refuse rfl rfl ⟨(Nat.le_of_ble_eq_true rfl), (Nat.le_of_ble_eq_true rfl)⟩ jv2_0 jm_01 ko2_0 rfl rfl (Nat.le_of_ble_eq_true rfl) dX12_row_31 (fun v7 M8 h9 => ?_)
    exact j_iret (pc := 34) h9 rfl dX12_row_34
  · skip
    refine j_aload_n (pc := 21) dX12_row_21 rfl (q := 0) rfl ?_
    refine j_getr (pc := 22) jv2_0 jm_01 kf_RX12_508 0 kg2_0_83 rfl dX12_row_22 ?_
    refine j_iload_n (pc := 25) dX12_row_25 rfl (q := 1) rfl ?_
    refine j_iald (pc := 26) jv2_69 jm_01 rfl (by decide) ka2_69 dX12_row_26 (fun c10 h11 => ?_)
    refine j_goto (tgt := 34) (pc := 27) dX12_row_27 (by decide) ?_
    exact j_iret (pc := 34) h11 rfl dX12_row_34
