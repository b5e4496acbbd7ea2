abbrev rmX10_isSettled : Room := { frames := 1, cells := 0, slots := 0, locals := 23 }
set_option maxHeartbeats 4000000 in
set_option maxRecDepth 100000 in
theorem b0X10_isSettled_69 (X : jm_X) (fu : Nat) (k69 : jm_M → Int → Int → Int → Int → jm_R) (hk69 : ∀ (M : jm_M) (l1 l4 l5 l6 : Int) (hl1 : jm_in l1) (hl4 : jm_in l4) (hl5 : jm_in l5) (hl6 : jm_in l6), jm_J wd1 (jm_qi .boolean) cX10_isSettled 8 RX10 rmX10_isSettled X M [(0, jm_vr wd1 X 5 0), (1, jm_i l1), (4, jm_i l4), (5, jm_i l5), (6, jm_i l6)] [] 69 (k69 M l1 l4 l5 l6)) : ∀ (M : jm_M) (l1 l4 l5 l6 : Int) (hl1 : jm_in l1) (hl4 : jm_in l4) (hl5 : jm_in l5) (hl6 : jm_in l6), jm_J wd1 (jm_qi .boolean) cX10_isSettled 8 RX10 rmX10_isSettled X M [(0, jm_vr wd1 X 5 0), (1, jm_i l1), (4, jm_i l4), (5, jm_i l5), (6, jm_i l6)] [] 69 (gX10_isSettled_69 fu k69 M l1 l4 l5 l6) := by
  intro M l1 l4 l5 l6 hl1 hl4 hl5 hl6
  unfold gX10_isSettled_69
  refine j_iload (pc := 69) dX10_isSettled_69 (q := 4) rfl ?_
  refine j_iload (pc := 71) dX10_isSettled_71 (q := 2) rfl ?_
  refine j_icmp_ge (tgt := 126) (pc := 73) hl6 hl4 dX10_isSettled_73 (by decide) (fun c1 => ?_) (fun c1 => ?_)
  · skip
    refine j_iconst (pc := 126) dX10_isSettled_126 ?_
    exact j_iret (pc := 127) (jm_inL (by decide) (by decide)) rfl dX10_isSettled_127
  · skip
    refine j_iload_n (pc := 76) dX10_isSettled_76 rfl (q := 1) rfl ?_
    refine j_iconst (pc := 77) dX10_isSettled_77 ?_
    refine j_imul (pc := 78) dX10_isSettled_78 ?_
    refine j_iload (pc := 79) dX10_isSettled_79 (q := 4) rfl ?_
    refine j_iadd (pc := 81) dX10_isSettled_81 ?_
    refine j_nm (pc := 82) (jm_w_in _) (fun v2 h3 => ?_)
    refine j_istore (pc := 82) [(7, jm_i v2), (0, jm_vr wd1 X 5 0), (1, jm_i l1), (4, jm_i l4), (5, jm_i l5), (6, jm_i l6)] dX10_isSettled_82 (by decide) rfl ?_
    refine j_aload_n (pc := 84) dX10_isSettled_84 rfl (q := 1) rfl ?_
    refine j_getr (pc := 85) jv1_5 jm_01 kf_RX10_35 0 kg1_5_9 rfl dX10_isSettled_85 ?_
    refine j_iload (pc := 88) dX10_isSettled_88 (q := 0) rfl ?_
    refine j_iald (pc := 90) jv1_44 jm_01 rfl (by decide) ka1_44 dX10_isSettled_90 (fun c4 h5 => ?_)
    refine j_aload_n (pc := 91) dX10_isSettled_91 rfl (q := 1) rfl ?_
    refine j_getr (pc := 92) jv1_5 jm_01 kf_RX10_38 0 kg1_5_10 rfl dX10_isSettled_92 ?_
    refine j_iload (pc := 95) dX10_isSettled_95 (q := 0) rfl ?_
    refine j_iald (pc := 97) jv1_45 jm_01 rfl (by decide) ka1_45 dX10_isSettled_97 (fun c6 h7 => ?_)
    refine j_aload_n (pc := 98) dX10_isSettled_98 rfl (q := 1) rfl ?_
    refine j_getr (pc := 99) jv1_5 jm_01 kf_RX10_35 0 kg1_5_9 rfl dX10_isSettled_99 ?_
    refine j_iload (pc := 102) dX10_isSettled_102 (q := 4) rfl ?_
    refine j_iald (pc := 104) jv1_44 jm_01 rfl (by decide) ka1_44 dX10_isSettled_104 (fun c8 h9 => ?_)
    refine j_aload_n (pc := 105) dX10_isSettled_105 rfl (q := 1) rfl ?_
    refine j_getr (pc := 106) jv1_5 jm_01 kf_RX10_38 0 kg1_5_10 rfl dX10_isSettled_106 ?_
    refine j_iload (pc := 109) dX10_isSettled_109 (q := 4) rfl ?_
    refine j_iald (pc := 111) jv1_45 jm_01 rfl (by decide) ka1_45 dX10_isSettled_111 (fun c10 h11 => ?_)
    refine j_callSi4 (pc := 112) (ct_X10_isBetter M (M 44 0 v2) (M 45 0 v2) (M 44 0 l5) (M 45 0 l5) h5 h7 h9 h11) kg_1163 km_X10_isBetter kg_1164 rfl rfl ⟨(Nat.le_of_ble_eq_true rfl), (Nat.le_of_ble_eq_true rfl)⟩ rfl rfl (Nat.le_of_ble_eq_true rfl) dX10_isSettled_112 (fun v12 M13 h14 => ?_)
    refine j_if_eq (tgt := 120) (pc := 115) h14 dX10_isSettled_115 (by decide) (fun c15 => ?_) (fun c15 => ?_)
    · skip
      refine j_iinc (pc := 120) [(7, jm_i v2), (0, jm_vr wd1 X 5 0), (1, jm_i l1), (4, jm_i l4), (5, jm_i l5)] (q := 5) dX10_isSettled_120 rfl (by decide) (fun _ => rfl) (fun v16 h17 => ?_)
      refine j_goto (tgt := 69) (pc := 123) dX10_isSettled_123 (by decide) ?_
      refine j_sub (pc := 69) [(0, jm_vr wd1 X 5 0), (1, jm_i l1), (4, jm_i l4), (5, jm_i l5), (6, jm_i v16)] [2, 3, 4, 5, 0] rfl ?_
      exact hk69 M13 l1 l4 l5 v16 hl1 hl4 hl5 h17
    · skip
      refine j_iconst (pc := 118) dX10_isSettled_118 ?_
      exact j_iret (pc := 119) (jm_inL (by decide) (by decide)) rfl dX10_isSettled_119
theorem bX10_isSettled_69 (X : jm_X) (fu : Nat) : ∀ (n : Nat) (M : jm_M) (l1 l4 l5 l6 : Int) (hl1 : jm_in l1) (hl4 : jm_in l4) (hl5 : jm_in l5) (hl6 : jm_in l6), jm_J wd1 (jm_qi .boolean) cX10_isSettled 8 RX10 rmX10_isSettled X M [(0, jm_vr wd1 X 5 0), (1, jm_i l1), (4, jm_i l4), (5, jm_i l5), (6, jm_i l6)] [] 69 (fX10_isSettled_69 fu n M l1 l4 l5 l6) := by
  intro n
  induction n with
  | zero => intro M l1 l4 l5 l6 hl1 hl4 hl5 hl6; exact j_none
  | succ n ih => intro M l1 l4 l5 l6 hl1 hl4 hl5 hl6; exact b0X10_isSettled_69 X fu (fX10_isSettled_69 fu n) ih M l1 l4 l5 l6 hl1 hl4 hl5 hl6
set_option maxHeartbeats 4000000 in
set_option maxRecDepth 100000 in
theorem b0X10_isSettled_10 (X : jm_X) (fu : Nat) (k10 : jm_M → Int → Int → Int → Int → Int → Int → jm_R) (hk10 : ∀ (M : jm_M) (l1 l2 l3 l4 l5 l6 : Int) (hl1 : jm_in l1) (hl2 : jm_in l2) (hl3 : jm_in l3) (hl4 : jm_in l4) (hl5 : jm_in l5) (hl6 : jm_in l6), jm_J wd1 (jm_qi .boolean) cX10_isSettled 8 RX10 rmX10_isSettled X M [(0, jm_vr wd1 X 5 0), (1, jm_i l1), (2, jm_i l2), (3, jm_i l3), (4, jm_i l4), (5, jm_i l5), (6, jm_i l6)] [] 10 (k10 M l1 l2 l3 l4 l5 l6)) : ∀ (M : jm_M) (l1 l2 l3 l4 l5 l6 : Int) (hl1 : jm_in l1) (hl2 : jm_in l2) (hl3 : jm_in l3) (hl4 : jm_in l4) (hl5 : jm_in l5) (hl6 : jm_in l6), jm_J wd1 (jm_qi .boolean) cX10_isSettled 8 RX10 rmX10_isSettled X M [(0, jm_vr wd1 X 5 0), (1, jm_i l1), (2, jm_i l2), (3, jm_i l3), (4, jm_i l4), (5, jm_i l5), (6, jm_i l6)] [] 10 (gX10_isSettled_10 fu k10 M l1 l2 l3 l4 l5 l6) := by
  intro M l1 l2 l3 l4 l5 l6 hl1 hl2 hl3 hl4 hl5 hl6
  unfold gX10_isSettled_10
  refine j_iload (pc := 10) dX10_isSettled_10 (q := 6) rfl ?_
  refine j_iload_n (pc := 12) dX10_isSettled_12 rfl (q := 3) rfl ?_
  refine j_icmp_ge (tgt := 66) (pc := 13) hl6 hl3 dX10_isSettled_13 (by decide) (fun c1 => ?_) (fun c1 => ?_)
  · skip
    refine j_iconst (pc := 66) dX10_isSettled_66 ?_
    refine j_istore (pc := 67) [(6, jm_i 0), (0, jm_vr wd1 X 5 0), (1, jm_i l1), (2, jm_i l2), (3, jm_i l3), (4, jm_i l4), (5, jm_i l5)] dX10_isSettled_67 (by decide) rfl ?_
    refine j_sub (pc := 69) [(0, jm_vr wd1 X 5 0), (1, jm_i l1), (4, jm_i l4), (5, jm_i l5), (6, jm_i 0)] [1, 2, 5, 6, 0] rfl ?_
    exact bX10_isSettled_69 X fu  fu M l1 l4 l5 0 hl1 hl4 hl5 (jm_inL (by decide) (by decide))
  · skip
    refine j_iload (pc := 16) dX10_isSettled_16 (q := 6) rfl ?_
    refine j_iconst (pc := 18) dX10_isSettled_18 ?_
    refine j_imul (pc := 19) dX10_isSettled_19 ?_
    refine j_iload_n (pc := 20) dX10_isSettled_20 rfl (q := 2) rfl ?_
    refine j_iadd (pc := 21) dX10_isSettled_21 ?_
    refine j_nm (pc := 22) (jm_w_in _) (fun v2 h3 => ?_)
    refine j_istore (pc := 22) [(7, jm_i v2), (0, jm_vr wd1 X 5 0), (1, jm_i l1), (2, jm_i l2), (3, jm_i l3), (4, jm_i l4), (5, jm_i l5), (6, jm_i l6)] dX10_isSettled_22 (by decide) rfl ?_
    refine j_aload_n (pc := 24) dX10_isSettled_24 rfl (q := 1) rfl ?_
    refine j_getr (pc := 25) jv1_5 jm_01 kf_RX10_29 0 kg1_5_7 rfl dX10_isSettled_25 ?_
    refine j_iload (pc := 28) dX10_isSettled_28 (q := 0) rfl ?_
    refine j_iald (pc := 30) jv1_42 jm_01 rfl (by decide) ka1_42 dX10_isSettled_30 (fun c4 h5 => ?_)
    refine j_aload_n (pc := 31) dX10_isSettled_31 rfl (q := 1) rfl ?_
    refine j_getr (pc := 32) jv1_5 jm_01 kf_RX10_32 0 kg1_5_8 rfl dX10_isSettled_32 ?_
    refine j_iload (pc := 35) dX10_isSettled_35 (q := 0) rfl ?_
    refine j_iald (pc := 37) jv1_43 jm_01 rfl (by decide) ka1_43 dX10_isSettled_37 (fun c6 h7 => ?_)
    refine j_aload_n (pc := 38) dX10_isSettled_38 rfl (q := 1) rfl ?_
    refine j_getr (pc := 39) jv1_5 jm_01 kf_RX10_29 0 kg1_5_7 rfl dX10_isSettled_39 ?_
    refine j_iload (pc := 42) dX10_isSettled_42 (q := 6) rfl ?_
    refine j_iald (pc := 44) jv1_42 jm_01 rfl (by decide) ka1_42 dX10_isSettled_44 (fun c8 h9 => ?_)
    refine j_aload_n (pc := 45) dX10_isSettled_45 rfl (q := 1) rfl ?_
    refine j_getr (pc := 46) jv1_5 jm_01 kf_RX10_32 0 kg1_5_8 rfl dX10_isSettled_46 ?_
    refine j_iload (pc := 49) dX10_isSettled_49 (q := 6) rfl ?_
    refine j_iald (pc := 51) jv1_43 jm_01 rfl (by decide) ka1_43 dX10_isSettled_51 (fun c10 h11 => ?_)
    refine j_callSi4 (pc := 52) (ct_X10_isBetter M (M 42 0 v2) (M 43 0 v2) (M 42 0 l5) (M 43 0 l5) h5 h7 h9 h11) kg_1163 km_X10_isBetter kg_1164 rfl rfl ⟨(Nat.le_of_ble_eq_true rfl), (Nat.le_of_ble_eq_true rfl)⟩ rfl rfl (Nat.le_of_ble_eq_true rfl) dX10_isSettled_52 (fun v12 M13 h14 => ?_)
    refine j_if_eq (tgt := 60) (pc := 55) h14 dX10_isSettled_55 (by decide) (fun c15 => ?_) (fun c15 => ?_)
    · skip
      refine j_iinc (pc := 60) [(7, jm_i v2), (0, jm_vr wd1 X 5 0), (1, jm_i l1), (2, jm_i l2), (3, jm_i l3), (4, jm_i l4), (5, jm_i l5)] (q := 7) dX10_isSettled_60 rfl (by decide) (fun _ => rfl) (fun v16 h17 => ?_)
      refine j_goto (tgt := 10) (pc := 63) dX10_isSettled_63 (by decide) ?_
      refine j_sub (pc := 10) [(0, jm_vr wd1 X 5 0), (1, jm_i l1), (2, jm_i l2), (3, jm_i l3), (4, jm_i l4), (5, jm_i l5), (6, jm_i v16)] [2, 3, 4, 5, 6, 7, 0] rfl ?_
      exact hk10 M13 l1 l2 l3 l4 l5 v16 hl1 hl2 hl3 hl4 hl5 h17
    · skip
      refine j_iconst (pc := 58) dX10_isSettled_58 ?_
      exact j_iret (pc := 59) (jm_inL (by decide) (by decide)) rfl dX10_isSettled_59
theorem bX10_isSettled_10 (X : jm_X) (fu : Nat) : ∀ (n : Nat) (M : jm_M) (l1 l2 l3 l4 l5 l6 : Int) (hl1 : jm_in l1) (hl2 : jm_in l2) (hl3 : jm_in l3) (hl4 : jm_in l4) (hl5 : jm_in l5) (hl6 : jm_in l6), jm_J wd1 (jm_qi .boolean) cX10_isSettled 8 RX10 rmX10_isSettled X M [(0, jm_vr wd1 X 5 0), (1, jm_i l1), (2, jm_i l2), (3, jm_i l3), (4, jm_i l4), (5, jm_i l5), (6, jm_i l6)] [] 10 (fX10_isSettled_10 fu n M l1 l2 l3 l4 l5 l6) := by
  intro n
  induction n with
  | zero => intro M l1 l2 l3 l4 l5 l6 hl1 hl2 hl3 hl4 hl5 hl6; exact j_none
  | succ n ih => intro M l1 l2 l3 l4 l5 l6 hl1 hl2 hl3 hl4 hl5 hl6; exact b0X10_isSettled_10 X fu (fX10_isSettled_10 fu n) ih M l1 l2 l3 l4 l5 l6 hl1 hl2 hl3 hl4 hl5 hl6
set_option maxHeartbeats 4000000 in
set_option maxRecDepth 100000 in
theorem ct_X10_isSettled (fu : Nat) (M : jm_M) (l1 l2 l3 l4 : Int) (hl1 : jm_in l1) (hl2 : jm_in l2) (hl3 : jm_in l3) (hl4 : jm_in l4) : jm_Ci wd1 yX10_isSettled cX10_isSettled 8 (some .boolean) rmX10_isSettled M (fun G ad => [.ref (ad (jm_r wd1 5 0)), jm_i l1, jm_i l2, jm_i l3, jm_i l4]) (fX10_isSettled fu M l1 l2 l3 l4) := by
  refine jm_met_i (fun X => [(0, jm_vr wd1 X 5 0), (1, jm_i l1), (2, jm_i l2), (3, jm_i l3), (4, jm_i l4)]) (by decide) (fun _ _ => (Nat.le_of_ble_eq_true rfl)) (fun _ => rfl) (fun X => ?_)
  unfold fX10_isSettled
  refine j_iload_n (pc := 0) dX10_isSettled_0 rfl (q := 1) rfl ?_
  refine j_iconst (pc := 1) dX10_isSettled_1 ?_
  refine j_imul (pc := 2) dX10_isSettled_2 ?_
  refine j_iload_n (pc := 3) dX10_isSettled_3 rfl (q := 2) rfl ?_
  refine j_iadd (pc := 4) dX10_isSettled_4 ?_
  refine j_nm (pc := 5) (jm_w_in _) (fun v1 h2 => ?_)
  refine j_istore (pc := 5) [(5, jm_i v1), (0, jm_vr wd1 X 5 0), (1, jm_i l1), (2, jm_i l2), (3, jm_i l3), (4, jm_i l4)] dX10_isSettled_5 (by decide) rfl ?_
  refine j_iconst (pc := 7) dX10_isSettled_7 ?_
  refine j_istore (pc := 8) [(6, jm_i 0), (5, jm_i v1), (0, jm_vr wd1 X 5 0), (1, jm_i l1), (2, jm_i l2), (3, jm_i l3), (4, jm_i l4)] dX10_isSettled_8 (by decide) rfl ?_
  refine j_sub (pc := 10) [(0, jm_vr wd1 X 5 0), (1, jm_i l1), (2, jm_i l2), (3, jm_i l3), (4, jm_i l4), (5, jm_i v1), (6, jm_i 0)] [2, 3, 4, 5, 6, 1, 0] rfl ?_
  exact bX10_isSettled_10 X fu  fu M l1 l2 l3 l4 v1 0 hl1 hl2 hl3 hl4 h2 (jm_inL (by decide) (by decide))
abbrev rmX10_firstSettled : Room := { frames := 6, cells := 0, slots := 0, locals := 158 }
set_option maxHeartbeats 4000000 in
set_option maxRecDepth 100000 in
theorem b0X10_firstSettled_193 (X : jm_X) (fu : Nat) (k183 : jm_M → Int → Int → Int → jm_R) (k193 : jm_M → Int → Int → Int → Int → jm_R) (hk183 : ∀ (M : jm_M) (l4 l5 l6 : Int) (hl4 : jm_in l4) (hl5 : jm_in l5) (hl6 : jm_in l6), jm_J wd1 (jm_qi .int) cX10_firstSettled 8 RX10 rmX10_firstSettled X M [(0, jm_vr wd1 X 5 0), (4, jm_i l4), (5, jm_i l5), (6, jm_i l6)] [] 183 (k183 M l4 l5 l6)) (hk193 : ∀ (M : jm_M) (l4 l5 l6 l7 : Int) (hl4 : jm_in l4) (hl5 : jm_in l5) (hl6 : jm_in l6) (hl7 : jm_in l7), jm_J wd1 (jm_qi .int) cX10_firstSettled 8 RX10 rmX10_firstSettled X M [(0, jm_vr wd1 X 5 0), (4, jm_i l4), (5, jm_i l5), (6, jm_i l6), (7, jm_i l7)] [] 193 (k193 M l4 l5 l6 l7)) : ∀ (M : jm_M) (l4 l5 l6 l7 : Int) (hl4 : jm_in l4) (hl5 : jm_in l5) (hl6 : jm_in l6) (hl7 : jm_in l7), jm_J wd1 (jm_qi .int) cX10_firstSettled 8 RX10 rmX10_firstSettled X M [(0, jm_vr wd1 X 5 0), (4, jm_i l4), (5, jm_i l5), (6, jm_i l6), (7, jm_i l7)] [] 193 (gX10_firstSettled_193 fu k183 k193 M l4 l5 l6 l7) := by
  intro M l4 l5 l6 l7 hl4 hl5 hl6 hl7
  unfold gX10_firstSettled_193
  refine j_iload (pc := 193) dX10_firstSettled_193 (q := 4) rfl ?_
  refine j_iload (pc := 195) dX10_firstSettled_195 (q := 2) rfl ?_
  refine j_icmp_ge (tgt := 230) (pc := 197) hl7 hl5 dX10_firstSettled_197 (by decide) (fun c1 => ?_) (fun c1 => ?_)
  · skip
    refine j_iinc (pc := 230) [(0, jm_vr wd1 X 5 0), (4, jm_i l4), (5, jm_i l5), (7, jm_i l7)] (q := 3) dX10_firstSettled_230 rfl (by decide) (fun _ => rfl) (fun v2 h3 => ?_)
    refine j_goto (tgt := 183) (pc := 233) dX10_firstSettled_233 (by decide) ?_
    refine j_sub (pc := 183) [(0, jm_vr wd1 X 5 0), (4, jm_i l4), (5, jm_i l5), (6, jm_i v2)] [1, 2, 3, 0] rfl ?_
    exact hk183 M l4 l5 v2 hl4 hl5 h3
  · skip
    refine j_aload_n (pc := 200) dX10_firstSettled_200 rfl (q := 0) rfl ?_
    refine j_iload (pc := 201) dX10_firstSettled_201 (q := 3) rfl ?_
    refine j_iload (pc := 203) dX10_firstSettled_203 (q := 4) rfl ?_
    refine j_iload (pc := 205) dX10_firstSettled_205 (q := 1) rfl ?_
    refine j_iload (pc := 207) dX10_firstSettled_207 (q := 2) rfl ?_
    refine j_callVi4 (pc := 209) (ct_X10_isSettled fu M l6 l7 l4 l5 hl6 hl7 hl4 hl5) kg_1211 km_X10_isSettled kv_X10_isSettled rfl rfl ⟨(Nat.le_of_ble_eq_true rfl), (Nat.le_of_ble_eq_true rfl)⟩ jv1_5 jm_01 ko1_5 rfl rfl (Nat.le_of_ble_eq_true rfl) dX10_firstSettled_209 (fun v4 M5 h6 => ?_)
    refine j_if_eq (tgt := 224) (pc := 212) h6 dX10_firstSettled_212 (by decide) (fun c7 => ?_) (fun c7 => ?_)
    · skip
      refine j_iinc (pc := 224) [(0, jm_vr wd1 X 5 0), (4, jm_i l4), (5, jm_i l5), (6, jm_i l6)] (q := 4) dX10_firstSettled_224 rfl (by decide) (fun _ => rfl) (fun v8 h9 => ?_)
      refine j_goto (tgt := 193) (pc := 227) dX10_firstSettled_227 (by decide) ?_
      refine j_sub (pc := 193) [(0, jm_vr wd1 X 5 0), (4, jm_i l4), (5, jm_i l5), (6, jm_i l6), (7, jm_i v8)] [1, 2, 3, 4, 0] rfl ?_
      exact hk193 M5 l4 l5 l6 v8 hl4 hl5 hl6 h9
    · skip
      refine j_bipush (pc := 215) 10 dX10_firstSettled_215 (by decide) ?_
      refine j_iload (pc := 217) dX10_firstSettled_217 (q := 3) rfl ?_
      refine j_imul (pc := 219) dX10_firstSettled_219 ?_
      refine j_iload (pc := 220) dX10_firstSettled_220 (q := 4) rfl ?_
      refine j_iadd (pc := 222) dX10_firstSettled_222 ?_
      exact j_iret (pc := 223) (jm_w_in _) rfl dX10_firstSettled_223
theorem bX10_firstSettled_193 (X : jm_X) (fu : Nat) (k183 : jm_M → Int → Int → Int → jm_R) (hk183 : ∀ (M : jm_M) (l4 l5 l6 : Int) (hl4 : jm_in l4) (hl5 : jm_in l5) (hl6 : jm_in l6), jm_J wd1 (jm_qi .int) cX10_firstSettled 8 RX10 rmX10_firstSettled X M [(0, jm_vr wd1 X 5 0), (4, jm_i l4), (5, jm_i l5), (6, jm_i l6)] [] 183 (k183 M l4 l5 l6)) : ∀ (n : Nat) (M : jm_M) (l4 l5 l6 l7 : Int) (hl4 : jm_in l4) (hl5 : jm_in l5) (hl6 : jm_in l6) (hl7 : jm_in l7), jm_J wd1 (jm_qi .int) cX10_firstSettled 8 RX10 rmX10_firstSettled X M [(0, jm_vr wd1 X 5 0), (4, jm_i l4), (5, jm_i l5), (6, jm_i l6), (7, jm_i l7)] [] 193 (fX10_firstSettled_193 fu k183 n M l4 l5 l6 l7) := by
  intro n
  induction n with
  | zero => intro M l4 l5 l6 l7 hl4 hl5 hl6 hl7; exact j_none
  | succ n ih => intro M l4 l5 l6 l7 hl4 hl5 hl6 hl7; exact b0X10_firstSettled_193 X fu k183 (fX10_firstSettled_193 fu k183 n) hk183 ih M l4 l5 l6 l7 hl4 hl5 hl6 hl7
set_option maxHeartbeats 4000000 in
set_option maxRecDepth 100000 in
theorem b0X10_firstSettled_183 (X : jm_X) (fu : Nat) (k183 : jm_M → Int → Int → Int → jm_R) (hk183 : ∀ (M : jm_M) (l4 l5 l6 : Int) (hl4 : jm_in l4) (hl5 : jm_in l5) (hl6 : jm_in l6), jm_J wd1 (jm_qi .int) cX10_firstSettled 8 RX10 rmX10_firstSettled X M [(0, jm_vr wd1 X 5 0), (4, jm_i l4), (5, jm_i l5), (6, jm_i l6)] [] 183 (k183 M l4 l5 l6)) : ∀ (M : jm_M) (l4 l5 l6 : Int) (hl4 : jm_in l4) (hl5 : jm_in l5) (hl6 : jm_in l6), jm_J wd1 (jm_qi .int) cX10_firstSettled 8 RX10 rmX10_firstSettled X M [(0, jm_vr wd1 X 5 0), (4, jm_i l4), (5, jm_i l5), (6, jm_i l6)] [] 183 (gX10_firstSettled_183 fu k183 M l4 l5 l6) := by
  intro M l4 l5 l6 hl4 hl5 hl6
  unfold gX10_firstSettled_183
  refine j_iload (pc := 183) dX10_firstSettled_183 (q := 3) rfl ?_
  refine j_iload (pc := 185) dX10_firstSettled_185 (q := 1) rfl ?_
  refine j_icmp_ge (tgt := 236) (pc := 187) hl6 hl4 dX10_firstSettled_187 (by decide) (fun c1 => ?_) (fun c1 => ?_)
  · skip
    refine j_bipush (pc := 236) (-2) dX10_firstSettled_236 (by decide) ?_
    exact j_iret (pc := 238) (jm_inL (by decide) (by decide)) rfl dX10_firstSettled_238
  · skip
    refine j_iconst (pc := 190) dX10_firstSettled_190 ?_
    refine j_istore (pc := 191) [(7, jm_i 0), (0, jm_vr wd1 X 5 0), (4, jm_i l4), (5, jm_i l5), (6, jm_i l6)] dX10_firstSettled_191 (by decide) rfl ?_
    refine j_sub (pc := 193) [(0, jm_vr wd1 X 5 0), (4, jm_i l4), (5, jm_i l5), (6, jm_i l6), (7, jm_i 0)] [1, 2, 3, 4, 0] rfl ?_
    exact bX10_firstSettled_193 X fu k183 hk183 fu M l4 l5 l6 0 hl4 hl5 hl6 (jm_inL (by decide) (by decide))
theorem bX10_firstSettled_183 (X : jm_X) (fu : Nat) : ∀ (n : Nat) (M : jm_M) (l4 l5 l6 : Int) (hl4 : jm_in l4) (hl5 : jm_in l5) (hl6 : jm_in l6), jm_J wd1 (jm_qi .int) cX10_firstSettled 8 RX10 rmX10_firstSettled X M [(0, jm_vr wd1 X 5 0), (4, jm_i l4), (5, jm_i l5), (6, jm_i l6)] [] 183 (fX10_firstSettled_183 fu n M l4 l5 l6) := by
  intro n
  induction n with
  | zero => intro M l4 l5 l6 hl4 hl5 hl6; exact j_none
  | succ n ih => intro M l4 l5 l6 hl4 hl5 hl6; exact b0X10_firstSettled_183 X fu (fX10_firstSettled_183 fu n) ih M l4 l5 l6 hl4 hl5 hl6
set_option maxHeartbeats 4000000 in
set_option maxRecDepth 100000 in
theorem b0X10_firstSettled_79 (X : jm_X) (fu : Nat) (k69 : jm_M → Int → Int → Int → Int → Int → Int → jm_R) (k79 : jm_M → Int → Int → Int → Int → Int → Int → Int → jm_R) (hk69 : ∀ (M : jm_M) (l1 l2 l3 l4 l5 l6 : Int) (hl1 : jm_in l1) (hl2 : jm_in l2) (hl3 : jm_in l3) (hl4 : jm_in l4) (hl5 : jm_in l5) (hl6 : jm_in l6), jm_J wd1 (jm_qi .int) cX10_firstSettled 8 RX10 rmX10_firstSettled X M [(0, jm_vr wd1 X 5 0), (1, jm_i l1), (2, jm_i l2), (3, jm_i l3), (4, jm_i l4), (5, jm_i l5), (6, jm_i l6)] [] 69 (k69 M l1 l2 l3 l4 l5 l6)) (hk79 : ∀ (M : jm_M) (l1 l2 l3 l4 l5 l6 l7 : Int) (hl1 : jm_in l1) (hl2 : jm_in l2) (hl3 : jm_in l3) (hl4 : jm_in l4) (hl5 : jm_in l5) (hl6 : jm_in l6) (hl7 : jm_in l7), jm_J wd1 (jm_qi .int) cX10_firstSettled 8 RX10 rmX10_firstSettled X M [(0, jm_vr wd1 X 5 0), (1, jm_i l1), (2, jm_i l2), (3, jm_i l3), (4, jm_i l4), (5, jm_i l5), (6, jm_i l6), (7, jm_i l7)] [] 79 (k79 M l1 l2 l3 l4 l5 l6 l7)) : ∀ (M : jm_M) (l1 l2 l3 l4 l5 l6 l7 : Int) (hl1 : jm_in l1) (hl2 : jm_in l2) (hl3 : jm_in l3) (hl4 : jm_in l4) (hl5 : jm_in l5) (hl6 : jm_in l6) (hl7 : jm_in l7), jm_J wd1 (jm_qi .int) cX10_firstSettled 8 RX10 rmX10_firstSettled X M [(0, jm_vr wd1 X 5 0), (1, jm_i l1), (2, jm_i l2), (3, jm_i l3), (4, jm_i l4), (5, jm_i l5), (6, jm_i l6), (7, jm_i l7)] [] 79 (gX10_firstSettled_79 fu k69 k79 M l1 l2 l3 l4 l5 l6 l7) := by
  intro M l1 l2 l3 l4 l5 l6 l7 hl1 hl2 hl3 hl4 hl5 hl6 hl7
  unfold gX10_firstSettled_79
  refine j_iload (pc := 79) dX10_firstSettled_79 (q := 7) rfl ?_
  refine j_iload (pc := 81) dX10_firstSettled_81 (q := 5) rfl ?_
  refine j_icmp_ge (tgt := 148) (pc := 83) hl7 hl5 dX10_firstSettled_83 (by decide) (fun c1 => ?_) (fun c1 => ?_)
  · skip
    refine j_iinc (pc := 148) [(0, jm_vr wd1 X 5 0), (1, jm_i l1), (2, jm_i l2), (3, jm_i l3), (4, jm_i l4), (5, jm_i l5), (7, jm_i l7)] (q := 6) dX10_firstSettled_148 rfl (by decide) (fun _ => rfl) (fun v2 h3 => ?_)
    refine j_goto (tgt := 69) (pc := 151) dX10_firstSettled_151 (by decide) ?_
    refine j_sub (pc := 69) [(0, jm_vr wd1 X 5 0), (1, jm_i l1), (2, jm_i l2), (3, jm_i l3), (4, jm_i l4), (5, jm_i l5), (6, jm_i v2)] [1, 2, 3, 4, 5, 6, 0] rfl ?_
    exact hk69 M l1 l2 l3 l4 l5 v2 hl1 hl2 hl3 hl4 hl5 h3
  · skip
    refine j_aload_n (pc := 86) dX10_firstSettled_86 rfl (q := 0) rfl ?_
    refine j_getr (pc := 87) jv1_5 jm_01 kf_RX10_9 0 kg1_5_0 rfl dX10_firstSettled_87 ?_
    refine j_getr (pc := 90) jv1_2 jm_01 kf_RX10_51 0 kg1_2_2 rfl dX10_firstSettled_90 ?_
    refine j_iload_n (pc := 93) dX10_firstSettled_93 rfl (q := 1) rfl ?_
    refine j_aald (pc := 94) jv1_46 jm_01 (by decide) kr1_46 dX10_firstSettled_94 (fun c4 => ?_)
    refine j_iload (pc := 95) dX10_firstSettled_95 (q := 6) rfl ?_
    refine j_callVv1 (pc := 97) (ct_X1_tryOption M l1 l6 (by omega) hl6) kg_1201 km_X1_tryOption kv_X1_tryOption rfl rfl ⟨(Nat.le_of_ble_eq_true rfl), (Nat.le_of_ble_eq_true rfl)⟩ jv1_8 (by omega) ko1_8 rfl rfl (Nat.le_of_ble_eq_true rfl) dX10_firstSettled_97 (fun v5 M6 => ?_)
    refine j_aload_n (pc := 100) dX10_firstSettled_100 rfl (q := 0) rfl ?_
    refine j_getr (pc := 101) jv1_5 jm_01 kf_RX10_9 0 kg1_5_0 rfl dX10_firstSettled_101 ?_
    refine j_getr (pc := 104) jv1_2 jm_01 kf_RX10_51 0 kg1_2_2 rfl dX10_firstSettled_104 ?_
    refine j_iload_n (pc := 107) dX10_firstSettled_107 rfl (q := 2) rfl ?_
    refine j_aald (pc := 108) jv1_46 jm_01 (by decide) kr1_46 dX10_firstSettled_108 (fun c7 => ?_)
    refine j_iload (pc := 109) dX10_firstSettled_109 (q := 7) rfl ?_
    refine j_callVv1 (pc := 111) (ct_X1_tryOption M6 l2 l7 (by omega) hl7) kg_1201 km_X1_tryOption kv_X1_tryOption rfl rfl ⟨(Nat.le_of_ble_eq_true rfl), (Nat.le_of_ble_eq_true rfl)⟩ jv1_8 (by omega) ko1_8 rfl rfl (Nat.le_of_ble_eq_true rfl) dX10_firstSettled_111 (fun v8 M9 => ?_)
    refine j_aload_n (pc := 114) dX10_firstSettled_114 rfl (q := 0) rfl ?_
    refine j_getr (pc := 115) jv1_5 jm_01 kf_RX10_9 0 kg1_5_0 rfl dX10_firstSettled_115 ?_
    refine j_callVv0 (pc := 118) (ct_X2_run fu M9 ) kg_1151 km_X2_run kv_X2_run rfl rfl ⟨(Nat.le_of_ble_eq_true rfl), (Nat.le_of_ble_eq_true rfl)⟩ jv1_2 jm_01 ko1_2 rfl rfl (Nat.le_of_ble_eq_true rfl) dX10_firstSettled_118 (fun v10 M11 => ?_)
    refine j_aload_n (pc := 121) dX10_firstSettled_121 rfl (q := 0) rfl ?_
    refine j_getr (pc := 122) jv1_5 jm_01 kf_RX10_15 0 kg1_5_1 rfl dX10_firstSettled_122 ?_
    refine j_iload_n (pc := 125) dX10_firstSettled_125 rfl (q := 3) rfl ?_
    refine j_callVv1 (pc := 126) (ct_X5_reckonFor fu M11 l3 hl3) kg_1152 km_X5_reckonFor kv_X5_reckonFor rfl rfl ⟨(Nat.le_of_ble_eq_true rfl), (Nat.le_of_ble_eq_true rfl)⟩ jv1_4 jm_01 ko1_4 rfl rfl (Nat.le_of_ble_eq_true rfl) dX10_firstSettled_126 (fun v12 M13 => ?_)
    refine j_aload_n (pc := 129) dX10_firstSettled_129 rfl (q := 0) rfl ?_
    refine j_iload_n (pc := 130) dX10_firstSettled_130 rfl (q := 1) rfl ?_
    refine j_iload_n (pc := 131) dX10_firstSettled_131 rfl (q := 2) rfl ?_
    refine j_iload (pc := 132) dX10_firstSettled_132 (q := 6) rfl ?_
    refine j_iconst (pc := 134) dX10_firstSettled_134 ?_
    refine j_imul (pc := 135) dX10_firstSettled_135 ?_
    refine j_iload (pc := 136) dX10_firstSettled_136 (q := 7) rfl ?_
    refine j_iadd (pc := 138) dX10_firstSettled_138 ?_
    refine j_callVv3 (pc := 139) (ct_X10_keepPair fu M13 l1 l2 (jm_w ((jm_w (l6 * 4)) + l7)) hl1 hl2 (jm_w_in _)) kg_1206 km_X10_keepPair kv_X10_keepPair rfl rfl ⟨(Nat.le_of_ble_eq_true rfl), (Nat.le_of_ble_eq_true rfl)⟩ jv1_5 jm_01 ko1_5 rfl rfl (Nat.le_of_ble_eq_true rfl) dX10_firstSettled_139 (fun v14 M15 => ?_)
    refine j_iinc (pc := 142) [(0, jm_vr wd1 X 5 0), (1, jm_i l1), (2, jm_i l2), (3, jm_i l3), (4, jm_i l4), (5, jm_i l5), (6, jm_i l6)] (q := 7) dX10_firstSettled_142 rfl (by decide) (fun _ => rfl) (fun v16 h17 => ?_)
    refine j_goto (tgt := 79) (pc := 145) dX10_firstSettled_145 (by decide) ?_
    refine j_sub (pc := 79) [(0, jm_vr wd1 X 5 0), (1, jm_i l1), (2, jm_i l2), (3, jm_i l3), (4, jm_i l4), (5, jm_i l5), (6, jm_i l6), (7, jm_i v16)] [1, 2, 3, 4, 5, 6, 7, 0] rfl ?_
    exact hk79 M15 l1 l2 l3 l4 l5 l6 v16 hl1 hl2 hl3 hl4 hl5 hl6 h17
theorem bX10_firstSettled_79 (X : jm_X) (fu : Nat) (k69 : jm_M → Int → Int → Int → Int → Int → Int → jm_R) (hk69 : ∀ (M : jm_M) (l1 l2 l3 l4 l5 l6 : Int) (hl1 : jm_in l1) (hl2 : jm_in l2) (hl3 : jm_in l3) (hl4 : jm_in l4) (hl5 : jm_in l5) (hl6 : jm_in l6), jm_J wd1 (jm_qi .int) cX10_firstSettled 8 RX10 rmX10_firstSettled X M [(0, jm_vr wd1 X 5 0), (1, jm_i l1), (2, jm_i l2), (3, jm_i l3), (4, jm_i l4), (5, jm_i l5), (6, jm_i l6)] [] 69 (k69 M l1 l2 l3 l4 l5 l6)) : ∀ (n : Nat) (M : jm_M) (l1 l2 l3 l4 l5 l6 l7 : Int) (hl1 : jm_in l1) (hl2 : jm_in l2) (hl3 : jm_in l3) (hl4 : jm_in l4) (hl5 : jm_in l5) (hl6 : jm_in l6) (hl7 : jm_in l7), jm_J wd1 (jm_qi .int) cX10_firstSettled 8 RX10 rmX10_firstSettled X M [(0, jm_vr wd1 X 5 0), (1, jm_i l1), (2, jm_i l2), (3, jm_i l3), (4, jm_i l4), (5, jm_i l5), (6, jm_i l6), (7, jm_i l7)] [] 79 (fX10_firstSettled_79 fu k69 n M l1 l2 l3 l4 l5 l6 l7) := by
  intro n
  induction n with
  | zero => intro M l1 l2 l3 l4 l5 l6 l7 hl1 hl2 hl3 hl4 hl5 hl6 hl7; exact j_none
  | succ n ih => intro M l1 l2 l3 l4 l5 l6 l7 hl1 hl2 hl3 hl4 hl5 hl6 hl7; exact b0X10_firstSettled_79 X fu k69 (fX10_firstSettled_79 fu k69 n) hk69 ih M l1 l2 l3 l4 l5 l6 l7 hl1 hl2 hl3 hl4 hl5 hl6 hl7
set_option maxHeartbeats 4000000 in
set_option maxRecDepth 100000 in
theorem b0X10_firstSettled_69 (X : jm_X) (fu : Nat) (k69 : jm_M → Int → Int → Int → Int → Int → Int → jm_R) (hk69 : ∀ (M : jm_M) (l1 l2 l3 l4 l5 l6 : Int) (hl1 : jm_in l1) (hl2 : jm_in l2) (hl3 : jm_in l3) (hl4 : jm_in l4) (hl5 : jm_in l5) (hl6 : jm_in l6), jm_J wd1 (jm_qi .int) cX10_firstSettled 8 RX10 rmX10_firstSettled X M [(0, jm_vr wd1 X 5 0), (1, jm_i l1), (2, jm_i l2), (3, jm_i l3), (4, jm_i l4), (5, jm_i l5), (6, jm_i l6)] [] 69 (k69 M l1 l2 l3 l4 l5 l6)) : ∀ (M : jm_M) (l1 l2 l3 l4 l5 l6 : Int) (hl1 : jm_in l1) (hl2 : jm_in l2) (hl3 : jm_in l3) (hl4 : jm_in l4) (hl5 : jm_in l5) (hl6 : jm_in l6), jm_J wd1 (jm_qi .int) cX10_firstSettled 8 RX10 rmX10_firstSettled X M [(0, jm_vr wd1 X 5 0), (1, jm_i l1), (2, jm_i l2), (3, jm_i l3), (4, jm_i l4), (5, jm_i l5), (6, jm_i l6)] [] 69 (gX10_firstSettled_69 fu k69 M l1 l2 l3 l4 l5 l6) := by
  intro M l1 l2 l3 l4 l5 l6 hl1 hl2 hl3 hl4 hl5 hl6
  unfold gX10_firstSettled_69
  refine j_iload (pc := 69) dX10_firstSettled_69 (q := 6) rfl ?_
  refine j_iload (pc := 71) dX10_firstSettled_71 (q := 4) rfl ?_
  refine j_icmp_ge (tgt := 154) (pc := 73) hl6 hl4 dX10_firstSettled_73 (by decide) (fun c1 => ?_) (fun c1 => ?_)
  · skip
    refine j_aload_n (pc := 154) dX10_firstSettled_154 rfl (q := 0) rfl ?_
    refine j_getr (pc := 155) jv1_5 jm_01 kf_RX10_9 0 kg1_5_0 rfl dX10_firstSettled_155 ?_
    refine j_getr (pc := 158) jv1_2 jm_01 kf_RX10_51 0 kg1_2_2 rfl dX10_firstSettled_158 ?_
    refine j_iload_n (pc := 161) dX10_firstSettled_161 rfl (q := 1) rfl ?_
    refine j_aald (pc := 162) jv1_46 jm_01 (by decide) kr1_46 dX10_firstSettled_162 (fun c2 => ?_)
    refine j_iconst (pc := 163) dX10_firstSettled_163 ?_
    refine j_put (pc := 164) jv1_8 (by omega) kf_RX10_76 wI1 kp_X1_13 kx1_8_13 (jm_inL (by decide) (by decide)) rfl rfl dX10_firstSettled_164 (fun M3 => ?_)
    refine j_aload_n (pc := 167) dX10_firstSettled_167 rfl (q := 0) rfl ?_
    refine j_getr (pc := 168) jv1_5 jm_01 kf_RX10_9 0 kg1_5_0 rfl dX10_firstSettled_168 ?_
    refine j_getr (pc := 171) jv1_2 jm_01 kf_RX10_51 0 kg1_2_2 rfl dX10_firstSettled_171 ?_
    refine j_iload_n (pc := 174) dX10_firstSettled_174 rfl (q := 2) rfl ?_
    refine j_aald (pc := 175) jv1_46 jm_01 (by decide) kr1_46 dX10_firstSettled_175 (fun c4 => ?_)
    refine j_iconst (pc := 176) dX10_firstSettled_176 ?_
    refine j_put (pc := 177) jv1_8 (by omega) kf_RX10_76 wI1 kp_X1_13 kx1_8_13 (jm_inL (by decide) (by decide)) rfl rfl dX10_firstSettled_177 (fun M5 => ?_)
    refine j_iconst (pc := 180) dX10_firstSettled_180 ?_
    refine j_istore (pc := 181) [(6, jm_i 0), (0, jm_vr wd1 X 5 0), (1, jm_i l1), (2, jm_i l2), (3, jm_i l3), (4, jm_i l4), (5, jm_i l5)] dX10_firstSettled_181 (by decide) rfl ?_
    refine j_sub (pc := 183) [(0, jm_vr wd1 X 5 0), (4, jm_i l4), (5, jm_i l5), (6, jm_i 0)] [1, 5, 6, 0] rfl ?_
    exact bX10_firstSettled_183 X fu  fu M5 l4 l5 0 hl4 hl5 (jm_inL (by decide) (by decide))
  · skip
    refine j_iconst (pc := 76) dX10_firstSettled_76 ?_
    refine j_istore (pc := 77) [(7, jm_i 0), (0, jm_vr wd1 X 5 0), (1, jm_i l1), (2, jm_i l2), (3, jm_i l3), (4, jm_i l4), (5, jm_i l5), (6, jm_i l6)] dX10_firstSettled_77 (by decide) rfl ?_
    refine j_sub (pc := 79) [(0, jm_vr wd1 X 5 0), (1, jm_i l1), (2, jm_i l2), (3, jm_i l3), (4, jm_i l4), (5, jm_i l5), (6, jm_i l6), (7, jm_i 0)] [1, 2, 3, 4, 5, 6, 7, 0] rfl ?_
    exact bX10_firstSettled_79 X fu k69 hk69 fu M l1 l2 l3 l4 l5 l6 0 hl1 hl2 hl3 hl4 hl5 hl6 (jm_inL (by decide) (by decide))
theorem bX10_firstSettled_69 (X : jm_X) (fu : Nat) : ∀ (n : Nat) (M : jm_M) (l1 l2 l3 l4 l5 l6 : Int) (hl1 : jm_in l1) (hl2 : jm_in l2) (hl3 : jm_in l3) (hl4 : jm_in l4) (hl5 : jm_in l5) (hl6 : jm_in l6), jm_J wd1 (jm_qi .int) cX10_firstSettled 8 RX10 rmX10_firstSettled X M [(0, jm_vr wd1 X 5 0), (1, jm_i l1), (2, jm_i l2), (3, jm_i l3), (4, jm_i l4), (5, jm_i l5), (6, jm_i l6)] [] 69 (fX10_firstSettled_69 fu n M l1 l2 l3 l4 l5 l6) := by
  intro n
  induction n with
  | zero => intro M l1 l2 l3 l4 l5 l6 hl1 hl2 hl3 hl4 hl5 hl6; exact j_none
  | succ n ih => intro M l1 l2 l3 l4 l5 l6 hl1 hl2 hl3 hl4 hl5 hl6; exact b0X10_firstSettled_69 X fu (fX10_firstSettled_69 fu n) ih M l1 l2 l3 l4 l5 l6 hl1 hl2 hl3 hl4 hl5 hl6
set_option maxHeartbeats 4000000 in
set_option maxRecDepth 100000 in
theorem ct_X10_firstSettled (fu : Nat) (M : jm_M) (l1 l2 l3 : Int) (hl1 : jm_in l1) (hl2 : jm_in l2) (hl3 : jm_in l3) : jm_Ci wd1 yX10_firstSettled cX10_firstSettled 8 (some .int) rmX10_firstSettled M (fun G ad => [.ref (ad (jm_r wd1 5 0)), jm_i l1, jm_i l2, jm_i l3]) (fX10_firstSettled fu M l1 l2 l3) := by
  refine jm_met_i (fun X => [(0, jm_vr wd1 X 5 0), (1, jm_i l1), (2, jm_i l2), (3, jm_i l3)]) (by decide) (fun _ _ => (Nat.le_of_ble_eq_true rfl)) (fun _ => rfl) (fun X => ?_)
  unfold fX10_firstSettled
  refine j_aload_n (pc := 0) dX10_firstSettled_0 rfl (q := 0) rfl ?_
  refine j_getr (pc := 1) jv1_5 jm_01 kf_RX10_9 0 kg1_5_0 rfl dX10_firstSettled_1 ?_
  refine j_iload_n (pc := 4) dX10_firstSettled_4 rfl (q := 1) rfl ?_
  refine j_callVi1 (pc := 5) (ct_X2_has M l1 hl1) kg_1144 km_X2_has kv_X2_has rfl rfl ⟨(Nat.le_of_ble_eq_true rfl), (Nat.le_of_ble_eq_true rfl)⟩ jv1_2 jm_01 ko1_2 rfl rfl (Nat.le_of_ble_eq_true rfl) dX10_firstSettled_5 (fun v1 M2 h3 => ?_)
  refine j_if_eq (tgt := 22) (pc := 8) h3 dX10_firstSettled_8 (by decide) (fun c4 => ?_) (fun c4 => ?_)
  · skip
    refine j_iconst (pc := 22) dX10_firstSettled_22 ?_
    exact j_iret (pc := 23) (jm_inL (by decide) (by decide)) rfl dX10_firstSettled_23
  · skip
    refine j_aload_n (pc := 11) dX10_firstSettled_11 rfl (q := 0) rfl ?_
    refine j_getr (pc := 12) jv1_5 jm_01 kf_RX10_9 0 kg1_5_0 rfl dX10_firstSettled_12 ?_
    refine j_iload_n (pc := 15) dX10_firstSettled_15 rfl (q := 2) rfl ?_
    refine j_callVi1 (pc := 16) (ct_X2_has M2 l2 hl2) kg_1144 km_X2_has kv_X2_has rfl rfl ⟨(Nat.le_of_ble_eq_true rfl), (Nat.le_of_ble_eq_true rfl)⟩ jv1_2 jm_01 ko1_2 rfl rfl (Nat.le_of_ble_eq_true rfl) dX10_firstSettled_16 (fun v5 M6 h7 => ?_)
    refine j_if_ne (tgt := 24) (pc := 19) h7 dX10_firstSettled_19 (by decide) (fun c8 => ?_) (fun c8 => ?_)
    · skip
      refine j_iconst (pc := 22) dX10_firstSettled_22 ?_
      exact j_iret (pc := 23) (jm_inL (by decide) (by decide)) rfl dX10_firstSettled_23
    · skip
      refine j_aload_n (pc := 24) dX10_firstSettled_24 rfl (q := 0) rfl ?_
      refine j_getr (pc := 25) jv1_5 jm_01 kf_RX10_9 0 kg1_5_0 rfl dX10_firstSettled_25 ?_
      refine j_getr (pc := 28) jv1_2 jm_01 kf_RX10_51 0 kg1_2_2 rfl dX10_firstSettled_28 ?_
      refine j_iload_n (pc := 31) dX10_firstSettled_31 rfl (q := 1) rfl ?_
      refine j_aald (pc := 32) jv1_46 jm_01 (by decide) kr1_46 dX10_firstSettled_32 (fun c9 => ?_)
      refine j_getr (pc := 33) jv1_8 (by omega) kf_RX10_128 (l1 + 18) kg1_8_9 rfl dX10_firstSettled_33 ?_
      refine j_geti (pc := 36) jv1_10 (by omega) kf_RX10_71 kg1_10_3 dX10_firstSettled_36 (fun h10 => ?_)
      refine j_iconst (pc := 39) dX10_firstSettled_39 ?_
      refine j_mmin (pc := 40) h10 (jm_inL (by decide) (by decide)) kg_1200 kg_717 kg_5 kg_718 ⟨(Nat.le_of_ble_eq_true rfl), (Nat.le_of_ble_eq_true rfl)⟩ (Nat.le_of_ble_eq_true rfl) dX10_firstSettled_40 ?_
      refine j_nm (pc := 43) (jm_min_in h10 (jm_inL (by decide) (by decide))) (fun v11 h12 => ?_)
      refine j_istore (pc := 43) [(4, jm_i v11), (0, jm_vr wd1 X 5 0), (1, jm_i l1), (2, jm_i l2), (3, jm_i l3)] dX10_firstSettled_43 (by decide) rfl ?_
      refine j_aload_n (pc := 45) dX10_firstSettled_45 rfl (q := 1) rfl ?_
      refine j_getr (pc := 46) jv1_5 jm_01 kf_RX10_9 0 kg1_5_0 rfl dX10_firstSettled_46 ?_
      refine j_getr (pc := 49) jv1_2 jm_01 kf_RX10_51 0 kg1_2_2 rfl dX10_firstSettled_49 ?_
      refine j_iload_n (pc := 52) dX10_firstSettled_52 rfl (q := 3) rfl ?_
      refine j_aald (pc := 53) jv1_46 jm_01 (by decide) kr1_46 dX10_firstSettled_53 (fun c13 => ?_)
      refine j_getr (pc := 54) jv1_8 (by omega) kf_RX10_128 (l2 + 18) kg1_8_9 rfl dX10_firstSettled_54 ?_
      refine j_geti (pc := 57) jv1_10 (by omega) kf_RX10_71 kg1_10_3 dX10_firstSettled_57 (fun h14 => ?_)
      refine j_iconst (pc := 60) dX10_firstSettled_60 ?_
      refine j_mmin (pc := 61) h14 (jm_inL (by decide) (by decide)) kg_1200 kg_717 kg_5 kg_718 ⟨(Nat.le_of_ble_eq_true rfl), (Nat.le_of_ble_eq_true rfl)⟩ (Nat.le_of_ble_eq_true rfl) dX10_firstSettled_61 ?_
      refine j_nm (pc := 64) (jm_min_in h14 (jm_inL (by decide) (by decide))) (fun v15 h16 => ?_)
      refine j_istore (pc := 64) [(5, jm_i v15), (4, jm_i v11), (0, jm_vr wd1 X 5 0), (1, jm_i l1), (2, jm_i l2), (3, jm_i l3)] dX10_firstSettled_64 (by decide) rfl ?_
      refine j_iconst (pc := 66) dX10_firstSettled_66 ?_
      refine j_istore (pc := 67) [(6, jm_i 0), (5, jm_i v15), (4, jm_i v11), (0, jm_vr wd1 X 5 0), (1, jm_i l1), (2, jm_i l2), (3, jm_i l3)] dX10_firstSettled_67 (by decide) rfl ?_
      refine j_sub (pc := 69) [(0, jm_vr wd1 X 5 0), (1, jm_i l1), (2, jm_i l2), (3, jm_i l3), (4, jm_i v11), (5, jm_i v15), (6, jm_i 0)] [3, 4, 5, 6, 2, 1, 0] rfl ?_
      exact bX10_firstSettled_69 X fu  fu M6 l1 l2 l3 v11 v15 0 hl1 hl2 hl3 h12 h16 (jm_inL (by decide) (by decide))
abbrev rmX11_settle : Room := { frames := 7, cells := 0, slots := 0, locals := 185 }
set_option maxHeartbeats 4000000 in
set_option maxRecDepth 100000 in
theorem ct_X11_settle (fu : Nat) (M : jm_M) (l1 l2 l3 : Int) (hl1 : jm_in l1) (hl2 : jm_in l2) (hl3 : jm_in l3) : jm_Ci wd1 yX11_settle cX11_settle 4 (some .int) rmX11_settle M (fun G ad => [.ref (ad (jm_r wd1 0 0)), jm_i l1, jm_i l2, jm_i l3]) (fX11_settle fu M l1 l2 l3) := by
  refine jm_met_i (fun X => [(0, jm_vr wd1 X 0 0), (1, jm_i l1), (2, jm_i l2), (3, jm_i l3)]) (by decide) (fun _ _ => (Nat.le_of_ble_eq_true rfl)) (fun _ => rfl) (fun X => ?_)
  unfold fX11_settle
  refine j_aload_n (pc := 0) dX11_settle_0 rfl (q := 0) rfl ?_
  refine j_getr (pc := 1) jv1_0 jm_01 kf_RX11_24 0 kg1_0_1 rfl dX11_settle_1 ?_
  refine j_iload_n (pc := 4) dX11_settle_4 rfl (q := 1) rfl ?_
  refine j_callVi1 (pc := 5) (ct_X2_has M l1 hl1) kg_619 km_X2_has kv_X2_has rfl rfl ⟨(Nat.le_of_ble_eq_true rfl), (Nat.le_of_ble_eq_true rfl)⟩ jv1_2 jm_01 ko1_2 rfl rfl (Nat.le_of_ble_eq_true rfl) dX11_settle_5 (fun v1 M2 h3 => ?_)
  refine j_if_eq (tgt := 34) (pc := 8) h3 dX11_settle_8 (by decide) (fun c4 => ?_) (fun c4 => ?_)
  · skip
    refine j_iconst (pc := 34) dX11_settle_34 ?_
    exact j_iret (pc := 35) (jm_inL (by decide) (by decide)) rfl dX11_settle_35
  · skip
    refine j_aload_n (pc := 11) dX11_settle_11 rfl (q := 0) rfl ?_
    refine j_getr (pc := 12) jv1_0 jm_01 kf_RX11_24 0 kg1_0_1 rfl dX11_settle_12 ?_
    refine j_iload_n (pc := 15) dX11_settle_15 rfl (q := 2) rfl ?_
    refine j_callVi1 (pc := 16) (ct_X2_has M2 l2 hl2) kg_619 km_X2_has kv_X2_has rfl rfl ⟨(Nat.le_of_ble_eq_true rfl), (Nat.le_of_ble_eq_true rfl)⟩ jv1_2 jm_01 ko1_2 rfl rfl (Nat.le_of_ble_eq_true rfl) dX11_settle_16 (fun v5 M6 h7 => ?_)
    refine j_if_eq (tgt := 34) (pc := 19) h7 dX11_settle_19 (by decide) (fun c8 => ?_) (fun c8 => ?_)
    · skip
      refine j_iconst (pc := 34) dX11_settle_34 ?_
      exact j_iret (pc := 35) (jm_inL (by decide) (by decide)) rfl dX11_settle_35
    · skip
      refine j_iload_n (pc := 22) dX11_settle_22 rfl (q := 1) rfl ?_
      refine j_iload_n (pc := 23) dX11_settle_23 rfl (q := 2) rfl ?_
      refine j_icmp_eq (tgt := 34) (pc := 24) hl1 hl2 dX11_settle_24 (by decide) (fun c9 => ?_) (fun c9 => ?_)
      · skip
        refine j_iconst (pc := 34) dX11_settle_34 ?_
        exact j_iret (pc := 35) (jm_inL (by decide) (by decide)) rfl dX11_settle_35
      · skip
        refine j_iload_n (pc := 27) dX11_settle_27 rfl (q := 3) rfl ?_
        refine j_callSi1 (pc := 28) (ct_X11_isDay M6 l3 hl3) kg_1055 km_X11_isDay kg_1056 rfl rfl ⟨(Nat.le_of_ble_eq_true rfl), (Nat.le_of_ble_eq_true rfl)⟩ rfl rfl (Nat.le_of_ble_eq_true rfl) dX11_settle_28 (fun v10 M11 h12 => ?_)
        refine j_if_ne (tgt := 36) (pc := 31) h12 dX11_settle_31 (by decide) (fun c13 => ?_) (fun c13 => ?_)
        · skip
          refine j_iconst (pc := 34) dX11_settle_34 ?_
          exact j_iret (pc := 35) (jm_inL (by decide) (by decide)) rfl dX11_settle_35
        · skip
          refine j_aload_n (pc := 36) dX11_settle_36 rfl (q := 0) rfl ?_
          refine j_getr (pc := 37) jv1_0 jm_01 kf_RX11_24 0 kg1_0_1 rfl dX11_settle_37 ?_
          refine j_getr (pc := 40) jv1_2 jm_01 kf_RX11_148 0 kg1_2_2 rfl dX11_settle_40 ?_
          refine j_iload_n (pc := 43) dX11_settle_43 rfl (q := 1) rfl ?_
          refine j_aald (pc := 44) jv1_46 jm_01 (by decide) kr1_46 dX11_settle_44 (fun c14 => ?_)
          refine j_getr (pc := 45) jv1_8 (by omega) kf_RX11_313 (l1 + 18) kg1_8_9 rfl dX11_settle_45 ?_
          refine j_geti (pc := 48) jv1_10 (by omega) kf_RX11_95 kg1_10_3 dX11_settle_48 (fun h15 => ?_)
          refine j_if_eq (tgt := 72) (pc := 51) h15 dX11_settle_51 (by decide) (fun c16 => ?_) (fun c16 => ?_)
          · skip
            refine j_iconst (pc := 72) dX11_settle_72 ?_
            exact j_iret (pc := 73) (jm_inL (by decide) (by decide)) rfl dX11_settle_73
          · skip
            refine j_aload_n (pc := 54) dX11_settle_54 rfl (q := 0) rfl ?_
            refine j_getr (pc := 55) jv1_0 jm_01 kf_RX11_24 0 kg1_0_1 rfl dX11_settle_55 ?_
            refine j_getr (pc := 58) jv1_2 jm_01 kf_RX11_148 0 kg1_2_2 rfl dX11_settle_58 ?_
            refine j_iload_n (pc := 61) dX11_settle_61 rfl (q := 2) rfl ?_
            refine j_aald (pc := 62) jv1_46 jm_01 (by decide) kr1_46 dX11_settle_62 (fun c17 => ?_)
            refine j_getr (pc := 63) jv1_8 (by omega) kf_RX11_313 (l2 + 18) kg1_8_9 rfl dX11_settle_63 ?_
            refine j_geti (pc := 66) jv1_10 (by omega) kf_RX11_95 kg1_10_3 dX11_settle_66 (fun h18 => ?_)
            refine j_if_ne (tgt := 74) (pc := 69) h18 dX11_settle_69 (by decide) (fun c19 => ?_) (fun c19 => ?_)
            · skip
              refine j_iconst (pc := 72) dX11_settle_72 ?_
              exact j_iret (pc := 73) (jm_inL (by decide) (by decide)) rfl dX11_settle_73
            · skip
              refine j_aload_n (pc := 74) dX11_settle_74 rfl (q := 0) rfl ?_
              refine j_getr (pc := 75) jv1_0 jm_01 kf_RX11_51 0 kg1_0_4 rfl dX11_settle_75 ?_
              refine j_iload_n (pc := 78) dX11_settle_78 rfl (q := 1) rfl ?_
              refine j_iload_n (pc := 79) dX11_settle_79 rfl (q := 2) rfl ?_
              refine j_iload_n (pc := 80) dX11_settle_80 rfl (q := 3) rfl ?_
              refine j_callVi3 (pc := 81) (ct_X10_firstSettled fu M11 l1 l2 l3 hl1 hl2 hl3) kg_1196 km_X10_firstSettled kv_X10_firstSettled rfl rfl ⟨(Nat.le_of_ble_eq_true rfl), (Nat.le_of_ble_eq_true rfl)⟩ jv1_5 jm_01 ko1_5 rfl rfl (Nat.le_of_ble_eq_true rfl) dX11_settle_81 (fun v20 M21 h22 => ?_)
              exact j_iret (pc := 84) h22 rfl dX11_settle_84
abbrev rmX11_lost : Room := { frames := 2, cells := 0, slots := 0, locals := 42 }
set_option maxHeartbeats 4000000 in
set_option maxRecDepth 100000 in
theorem ct_X11_lost (M : jm_M) (l1 l2 : Int) (hl1 : jm_in l1) (hl2 : jm_in l2) : jm_Ci wd1 yX11_lost cX11_lost 3 (some .boolean) rmX11_lost M (fun G ad => [.ref (ad (jm_r wd1 0 0)), jm_i l1, jm_i l2]) (fX11_lost M l1 l2) := by
  refine jm_met_i (fun X => [(0, jm_vr wd1 X 0 0), (1, jm_i l1), (2, jm_i l2)]) (by decide) (fun _ _ => (Nat.le_of_ble_eq_true rfl)) (fun _ => rfl) (fun X => ?_)
  unfold fX11_lost
  refine j_aload_n (pc := 0) dX11_lost_0 rfl (q := 0) rfl ?_
  refine j_getr (pc := 1) jv1_0 jm_01 kf_RX11_15 0 kg1_0_0 rfl dX11_lost_1 ?_
  refine j_iload_n (pc := 4) dX11_lost_4 rfl (q := 1) rfl ?_
  refine j_callVi1 (pc := 5) (ct_X9_hasSector M l1 hl1) kg_557 km_X9_hasSector kv_X9_hasSector rfl rfl ⟨(Nat.le_of_ble_eq_true rfl), (Nat.le_of_ble_eq_true rfl)⟩ jv1_1 jm_01 ko1_1 rfl rfl (Nat.le_of_ble_eq_true rfl) dX11_lost_5 (fun v1 M2 h3 => ?_)
  refine j_if_eq (tgt := 24) (pc := 8) h3 dX11_lost_8 (by decide) (fun c4 => ?_) (fun c4 => ?_)
  · skip
    refine j_iconst (pc := 24) dX11_lost_24 ?_
    exact j_iret (pc := 25) (jm_inL (by decide) (by decide)) rfl dX11_lost_25
  · skip
    refine j_iload_n (pc := 11) dX11_lost_11 rfl (q := 1) rfl ?_
    refine j_aload_n (pc := 12) dX11_lost_12 rfl (q := 0) rfl ?_
    refine j_getr (pc := 13) jv1_0 jm_01 kf_RX11_15 0 kg1_0_0 rfl dX11_lost_13 ?_
    refine j_geti (pc := 16) jv1_1 jm_01 kf_RX11_212 kg1_1_0 dX11_lost_16 (fun h5 => ?_)
    refine j_iconst (pc := 19) dX11_lost_19 ?_
    refine j_isub (pc := 20) dX11_lost_20 ?_
    refine j_icmp_ne (tgt := 26) (pc := 21) hl1 (jm_w_in _) dX11_lost_21 (by decide) (fun c6 => ?_) (fun c6 => ?_)
    · skip
      refine j_iconst (pc := 24) dX11_lost_24 ?_
      exact j_iret (pc := 25) (jm_inL (by decide) (by decide)) rfl dX11_lost_25
    · skip
      refine j_aload_n (pc := 26) dX11_lost_26 rfl (q := 0) rfl ?_
      refine j_getr (pc := 27) jv1_0 jm_01 kf_RX11_15 0 kg1_0_0 rfl dX11_lost_27 ?_
      refine j_getr (pc := 30) jv1_1 jm_01 kf_RX11_320 0 kg1_1_4 rfl dX11_lost_30 ?_
      refine j_iload_n (pc := 33) dX11_lost_33 rfl (q := 1) rfl ?_
      refine j_iload_n (pc := 34) dX11_lost_34 rfl (q := 2) rfl ?_
      refine j_bast (pc := 35) jv1_16 jm_01 rfl (by decide) wI1 ka1_16 hl2 dX11_lost_35 (fun c7 c9 M8 => ?_)
      refine j_iconst (pc := 36) dX11_lost_36 ?_
      exact j_iret (pc := 37) (jm_inL (by decide) (by decide)) rfl dX11_lost_37
abbrev rmX9_tells : Room := { frames := 1, cells := 0, slots := 0, locals := 21 }
set_option maxHeartbeats 4000000 in
set_option maxRecDepth 100000 in
theorem ct_X9_tells (M : jm_M) (l1 : Int) (hl1 : jm_in l1) : jm_Ci wd1 yX9_tells cX9_tells 2 (some .boolean) rmX9_tells M (fun G ad => [.ref (ad (jm_r wd1 1 0)), jm_i l1]) (fX9_tells M l1) := by
  refine jm_met_i (fun X => [(0, jm_vr wd1 X 1 0), (1, jm_i l1)]) (by decide) (fun _ _ => (Nat.le_of_ble_eq_true rfl)) (fun _ => rfl) (fun X => ?_)
  unfold fX9_tells
  refine j_aload_n (pc := 0) dX9_tells_0 rfl (q := 0) rfl ?_
  refine j_getr (pc := 1) jv1_1 jm_01 kf_RX9_18 0 kg1_1_4 rfl dX9_tells_1 ?_
  refine j_aload_n (pc := 4) dX9_tells_4 rfl (q := 0) rfl ?_
  refine j_iload_n (pc := 5) dX9_tells_5 rfl (q := 1) rfl ?_
  refine j_callVi1 (pc := 6) (ct_X9_sectorOf M l1 hl1) kg_1231 km_X9_sectorOf kv_X9_sectorOf rfl rfl ⟨(Nat.le_of_ble_eq_true rfl), (Nat.le_of_ble_eq_true rfl)⟩ jv1_1 jm_01 ko1_1 rfl rfl (Nat.le_of_ble_eq_true rfl) dX9_tells_6 (fun v1 M2 h3 => ?_)
  refine j_bald (pc := 9) jv1_16 jm_01 rfl (by decide) ka1_16 dX9_tells_9 (fun c4 h5 => ?_)
  refine j_if_ne (tgt := 17) (pc := 10) h5 dX9_tells_10 (by decide) (fun c6 => ?_) (fun c6 => ?_)
  · skip
    refine j_iconst (pc := 13) dX9_tells_13 ?_
    refine j_goto (tgt := 18) (pc := 14) dX9_tells_14 (by decide) ?_
    exact j_iret (pc := 18) (jm_inL (by decide) (by decide)) rfl dX9_tells_18
  · skip
    refine j_iconst (pc := 17) dX9_tells_17 ?_
    exact j_iret (pc := 18) (jm_inL (by decide) (by decide)) rfl dX9_tells_18
abbrev rmX2_spanAt : Room := { frames := 2, cells := 0, slots := 0, locals := 42 }
set_option maxHeartbeats 4000000 in
set_option maxRecDepth 100000 in
theorem bX2_spanAt_164 (X : jm_X) (fu : Nat) : ∀ (M : jm_M) (l2 l8 s0 : Int) (hl2 : jm_in l2) (hl8 : jm_in l8) (hs0 : jm_in s0), jm_J wd1 (jm_qi .int) cX2_spanAt 10 RX2 rmX2_spanAt X M [(2, jm_i l2), (8, jm_i l8)] [jm_i s0] 164 (gX2_spanAt_164 fu M l2 l8 s0) := by
  intro M l2 l8 s0 hl2 hl8 hs0
  unfold gX2_spanAt_164
  refine j_istore (pc := 164) [(9, jm_i s0), (2, jm_i l2), (8, jm_i l8)] dX2_spanAt_164 (by decide) rfl ?_
  refine j_iload (pc := 166) dX2_spanAt_166 (q := 0) rfl ?_
  refine j_sipush (pc := 168) 1000 dX2_spanAt_168 (by decide) ?_
  refine j_iload_n (pc := 171) dX2_spanAt_171 rfl (q := 1) rfl ?_
  refine j_iload (pc := 172) dX2_spanAt_172 (q := 2) rfl ?_
  refine j_isub (pc := 174) dX2_spanAt_174 ?_
  refine j_imul (pc := 175) dX2_spanAt_175 ?_
  refine j_iadd (pc := 176) dX2_spanAt_176 ?_
  exact j_iret (pc := 177) (jm_w_in _) rfl dX2_spanAt_177
set_option maxHeartbeats 4000000 in
set_option maxRecDepth 100000 in
theorem bX2_spanAt_137 (X : jm_X) (fu : Nat) : ∀ (M : jm_M) (l1 l2 r4 l8 : Int) (hl1 : jm_in l1) (hl2 : jm_in l2) (gr4 : 0 ≤ r4 ∧ r4 < 6) (hl8 : jm_in l8), jm_J wd1 (jm_qi .int) cX2_spanAt 10 RX2 rmX2_spanAt X M [(0, jm_vr wd1 X 2 0), (1, jm_i l1), (2, jm_i l2), (4, jm_vr wd1 X 9 r4), (8, jm_i l8)] [] 137 (gX2_spanAt_137 fu M l1 l2 r4 l8) := by
  intro M l1 l2 r4 l8 hl1 hl2 gr4 hl8
  unfold gX2_spanAt_137
  refine j_iload (pc := 137) dX2_spanAt_137 (q := 4) rfl ?_
  refine j_if_ge (tgt := 157) (pc := 139) hl8 dX2_spanAt_139 (by decide) (fun c1 => ?_) (fun c1 => ?_)
  · skip
    refine j_aload (pc := 157) dX2_spanAt_157 (q := 3) rfl ?_
    refine j_iload (pc := 159) dX2_spanAt_159 (q := 4) rfl ?_
    refine j_callVi1 (pc := 161) (ct_X6_timeAt M r4 l8 gr4 hl8) kg_966 km_X6_timeAt kv_X6_timeAt rfl rfl ⟨(Nat.le_of_ble_eq_true rfl), (Nat.le_of_ble_eq_true rfl)⟩ jv1_9 gr4 ko1_9 rfl rfl (Nat.le_of_ble_eq_true rfl) dX2_spanAt_161 (fun v2 M3 h4 => ?_)
    refine j_sub (pc := 164) [(2, jm_i l2), (8, jm_i l8)] [2, 4] rfl ?_
    exact bX2_spanAt_164 X fu  M3 l2 l8 v2 hl2 hl8 h4
  · skip
    refine j_aload_n (pc := 142) dX2_spanAt_142 rfl (q := 0) rfl ?_
    refine j_getr (pc := 143) jv1_2 jm_01 kf_RX2_9 0 kg1_2_0 rfl dX2_spanAt_143 ?_
    refine j_getr (pc := 146) jv1_1 jm_01 kf_RX2_70 0 kg1_1_6 rfl dX2_spanAt_146 ?_
    refine j_bipush (pc := 149) 6 dX2_spanAt_149 (by decide) ?_
    refine j_iald (pc := 151) jv1_18 jm_01 rfl (by decide) ka1_18 dX2_spanAt_151 (fun c5 h6 => ?_)
    refine j_iload_n (pc := 152) dX2_spanAt_152 rfl (q := 1) rfl ?_
    refine j_imul (pc := 153) dX2_spanAt_153 ?_
    refine j_goto (tgt := 164) (pc := 154) dX2_spanAt_154 (by decide) ?_
    refine j_sub (pc := 164) [(2, jm_i l2), (8, jm_i l8)] [2, 4] rfl ?_
    exact bX2_spanAt_164 X fu  M l2 l8 (jm_w ((M 18 0 6) * l1)) hl2 hl8 (jm_w_in _)
set_option maxHeartbeats 4000000 in
set_option maxRecDepth 100000 in
theorem b0X2_spanAt_114 (X : jm_X) (fu : Nat) (k114 : jm_M → Int → Int → Int → Int → jm_R) (hk114 : ∀ (M : jm_M) (l1 l2 r4 l8 : Int) (hl1 : jm_in l1) (hl2 : jm_in l2) (gr4 : 0 ≤ r4 ∧ r4 < 6) (hl8 : jm_in l8), jm_J wd1 (jm_qi .int) cX2_spanAt 10 RX2 rmX2_spanAt X M [(0, jm_vr wd1 X 2 0), (1, jm_i l1), (2, jm_i l2), (4, jm_vr wd1 X 9 r4), (8, jm_i l8)] [] 114 (k114 M l1 l2 r4 l8)) : ∀ (M : jm_M) (l1 l2 r4 l8 : Int) (hl1 : jm_in l1) (hl2 : jm_in l2) (gr4 : 0 ≤ r4 ∧ r4 < 6) (hl8 : jm_in l8), jm_J wd1 (jm_qi .int) cX2_spanAt 10 RX2 rmX2_spanAt X M [(0, jm_vr wd1 X 2 0), (1, jm_i l1), (2, jm_i l2), (4, jm_vr wd1 X 9 r4), (8, jm_i l8)] [] 114 (gX2_spanAt_114 fu k114 M l1 l2 r4 l8) := by
  intro M l1 l2 r4 l8 hl1 hl2 gr4 hl8
  unfold gX2_spanAt_114
  refine j_iload (pc := 114) dX2_spanAt_114 (q := 4) rfl ?_
  refine j_if_lt (tgt := 137) (pc := 116) hl8 dX2_spanAt_116 (by decide) (fun c1 => ?_) (fun c1 => ?_)
  · skip
    refine j_sub (pc := 137) [(0, jm_vr wd1 X 2 0), (1, jm_i l1), (2, jm_i l2), (4, jm_vr wd1 X 9 r4), (8, jm_i l8)] [0, 1, 2, 3, 4] rfl ?_
    exact bX2_spanAt_137 X fu  M l1 l2 r4 l8 hl1 hl2 gr4 hl8
  · skip
    refine j_aload_n (pc := 119) dX2_spanAt_119 rfl (q := 0) rfl ?_
    refine j_getr (pc := 120) jv1_2 jm_01 kf_RX2_9 0 kg1_2_0 rfl dX2_spanAt_120 ?_
    refine j_iload (pc := 123) dX2_spanAt_123 (q := 4) rfl ?_
    refine j_callVi1 (pc := 125) (ct_X9_tells M l8 hl8) kg_1227 km_X9_tells kv_X9_tells rfl rfl ⟨(Nat.le_of_ble_eq_true rfl), (Nat.le_of_ble_eq_true rfl)⟩ jv1_1 jm_01 ko1_1 rfl rfl (Nat.le_of_ble_eq_true rfl) dX2_spanAt_125 (fun v2 M3 h4 => ?_)
    refine j_if_ne (tgt := 137) (pc := 128) h4 dX2_spanAt_128 (by decide) (fun c5 => ?_) (fun c5 => ?_)
    · skip
      refine j_iinc (pc := 131) [(0, jm_vr wd1 X 2 0), (1, jm_i l1), (2, jm_i l2), (4, jm_vr wd1 X 9 r4)] (q := 4) dX2_spanAt_131 rfl (by decide) (fun _ => rfl) (fun v6 h7 => ?_)
      refine j_goto (tgt := 114) (pc := 134) dX2_spanAt_134 (by decide) ?_
      refine j_sub (pc := 114) [(0, jm_vr wd1 X 2 0), (1, jm_i l1), (2, jm_i l2), (4, jm_vr wd1 X 9 r4), (8, jm_i v6)] [1, 2, 3, 4, 0] rfl ?_
      exact hk114 M3 l1 l2 r4 v6 hl1 hl2 gr4 h7
    · skip
      refine j_sub (pc := 137) [(0, jm_vr wd1 X 2 0), (1, jm_i l1), (2, jm_i l2), (4, jm_vr wd1 X 9 r4), (8, jm_i l8)] [0, 1, 2, 3, 4] rfl ?_
      exact bX2_spanAt_137 X fu  M3 l1 l2 r4 l8 hl1 hl2 gr4 hl8
theorem bX2_spanAt_114 (X : jm_X) (fu : Nat) : ∀ (n : Nat) (M : jm_M) (l1 l2 r4 l8 : Int) (hl1 : jm_in l1) (hl2 : jm_in l2) (gr4 : 0 ≤ r4 ∧ r4 < 6) (hl8 : jm_in l8), jm_J wd1 (jm_qi .int) cX2_spanAt 10 RX2 rmX2_spanAt X M [(0, jm_vr wd1 X 2 0), (1, jm_i l1), (2, jm_i l2), (4, jm_vr wd1 X 9 r4), (8, jm_i l8)] [] 114 (fX2_spanAt_114 fu n M l1 l2 r4 l8) := by
  intro n
  induction n with
  | zero => intro M l1 l2 r4 l8 hl1 hl2 gr4 hl8; exact j_none
  | succ n ih => intro M l1 l2 r4 l8 hl1 hl2 gr4 hl8; exact b0X2_spanAt_114 X fu (fX2_spanAt_114 fu n) ih M l1 l2 r4 l8 hl1 hl2 gr4 hl8
set_option maxHeartbeats 4000000 in
set_option maxRecDepth 100000 in
theorem bX2_spanAt_76 (X : jm_X) (fu : Nat) : ∀ (M : jm_M) (l1 l2 l3 r4 l6 : Int) (hl1 : jm_in l1) (hl2 : jm_in l2) (hl3 : jm_in l3) (gr4 : 0 ≤ r4 ∧ r4 < 6) (hl6 : jm_in l6), jm_J wd1 (jm_qi .int) cX2_spanAt 10 RX2 rmX2_spanAt X M [(0, jm_vr wd1 X 2 0), (1, jm_i l1), (2, jm_i l2), (3, jm_i l3), (4, jm_vr wd1 X 9 r4), (6, jm_i l6)] [] 76 (gX2_spanAt_76 fu M l1 l2 l3 r4 l6) := by
  intro M l1 l2 l3 r4 l6 hl1 hl2 hl3 gr4 hl6
  unfold gX2_spanAt_76
  refine j_aload (pc := 76) dX2_spanAt_76 (q := 4) rfl ?_
  refine j_iload (pc := 78) dX2_spanAt_78 (q := 5) rfl ?_
  refine j_callVi1 (pc := 80) (ct_X6_timeAt M r4 l6 gr4 hl6) kg_966 km_X6_timeAt kv_X6_timeAt rfl rfl ⟨(Nat.le_of_ble_eq_true rfl), (Nat.le_of_ble_eq_true rfl)⟩ jv1_9 gr4 ko1_9 rfl rfl (Nat.le_of_ble_eq_true rfl) dX2_spanAt_80 (fun v1 M2 h3 => ?_)
  refine j_istore (pc := 83) [(7, jm_i v1), (0, jm_vr wd1 X 2 0), (1, jm_i l1), (2, jm_i l2), (3, jm_i l3), (4, jm_vr wd1 X 9 r4), (6, jm_i l6)] dX2_spanAt_83 (by decide) rfl ?_
  refine j_iload (pc := 85) dX2_spanAt_85 (q := 0) rfl ?_
  refine j_iconst (pc := 87) dX2_spanAt_87 ?_
  refine j_icmp_ne (tgt := 93) (pc := 88) h3 (jm_inL (by decide) (by decide)) dX2_spanAt_88 (by decide) (fun c4 => ?_) (fun c4 => ?_)
  · skip
    refine j_iconst (pc := 91) dX2_spanAt_91 ?_
    exact j_iret (pc := 92) (jm_inL (by decide) (by decide)) rfl dX2_spanAt_92
  · skip
    refine j_iload_n (pc := 93) dX2_spanAt_93 rfl (q := 4) rfl ?_
    refine j_if_ne (tgt := 109) (pc := 94) hl3 dX2_spanAt_94 (by decide) (fun c5 => ?_) (fun c5 => ?_)
    · skip
      refine j_iload (pc := 97) dX2_spanAt_97 (q := 0) rfl ?_
      refine j_sipush (pc := 99) 1000 dX2_spanAt_99 (by decide) ?_
      refine j_iload (pc := 102) dX2_spanAt_102 (q := 6) rfl ?_
      refine j_iload_n (pc := 104) dX2_spanAt_104 rfl (q := 3) rfl ?_
      refine j_isub (pc := 105) dX2_spanAt_105 ?_
      refine j_imul (pc := 106) dX2_spanAt_106 ?_
      refine j_isub (pc := 107) dX2_spanAt_107 ?_
      exact j_iret (pc := 108) (jm_w_in _) rfl dX2_spanAt_108
    · skip
      refine j_iload_n (pc := 109) dX2_spanAt_109 rfl (q := 3) rfl ?_
      refine j_iconst (pc := 110) dX2_spanAt_110 ?_
      refine j_isub (pc := 111) dX2_spanAt_111 ?_
      refine j_nm (pc := 112) (jm_w_in _) (fun v6 h7 => ?_)
      refine j_istore (pc := 112) [(8, jm_i v6), (7, jm_i v1), (0, jm_vr wd1 X 2 0), (1, jm_i l1), (2, jm_i l2), (3, jm_i l3), (4, jm_vr wd1 X 9 r4), (6, jm_i l6)] dX2_spanAt_112 (by decide) rfl ?_
      refine j_sub (pc := 114) [(0, jm_vr wd1 X 2 0), (1, jm_i l1), (2, jm_i l2), (4, jm_vr wd1 X 9 r4), (8, jm_i v6)] [2, 3, 4, 6, 0] rfl ?_
      exact bX2_spanAt_114 X fu  fu M2 l1 l2 r4 v6 hl1 hl2 gr4 h7
set_option maxHeartbeats 4000000 in
set_option maxRecDepth 100000 in
theorem b0X2_spanAt_51 (X : jm_X) (fu : Nat) (k51 : jm_M → Int → Int → Int → Int → Int → jm_R) (hk51 : ∀ (M : jm_M) (l1 l2 l3 r4 l6 : Int) (hl1 : jm_in l1) (hl2 : jm_in l2) (hl3 : jm_in l3) (gr4 : 0 ≤ r4 ∧ r4 < 6) (hl6 : jm_in l6), jm_J wd1 (jm_qi .int) cX2_spanAt 10 RX2 rmX2_spanAt X M [(0, jm_vr wd1 X 2 0), (1, jm_i l1), (2, jm_i l2), (3, jm_i l3), (4, jm_vr wd1 X 9 r4), (6, jm_i l6)] [] 51 (k51 M l1 l2 l3 r4 l6)) : ∀ (M : jm_M) (l1 l2 l3 r4 l6 : Int) (hl1 : jm_in l1) (hl2 : jm_in l2) (hl3 : jm_in l3) (gr4 : 0 ≤ r4 ∧ r4 < 6) (hl6 : jm_in l6), jm_J wd1 (jm_qi .int) cX2_spanAt 10 RX2 rmX2_spanAt X M [(0, jm_vr wd1 X 2 0), (1, jm_i l1), (2, jm_i l2), (3, jm_i l3), (4, jm_vr wd1 X 9 r4), (6, jm_i l6)] [] 51 (gX2_spanAt_51 fu k51 M l1 l2 l3 r4 l6) := by
  intro M l1 l2 l3 r4 l6 hl1 hl2 hl3 gr4 hl6
  unfold gX2_spanAt_51
  refine j_iload (pc := 51) dX2_spanAt_51 (q := 5) rfl ?_
  refine j_bipush (pc := 53) 60 dX2_spanAt_53 (by decide) ?_
  refine j_icmp_ge (tgt := 76) (pc := 55) hl6 (jm_inL (by decide) (by decide)) dX2_spanAt_55 (by decide) (fun c1 => ?_) (fun c1 => ?_)
  · skip
    refine j_sub (pc := 76) [(0, jm_vr wd1 X 2 0), (1, jm_i l1), (2, jm_i l2), (3, jm_i l3), (4, jm_vr wd1 X 9 r4), (6, jm_i l6)] [0, 1, 2, 3, 4, 5] rfl ?_
    exact bX2_spanAt_76 X fu  M l1 l2 l3 r4 l6 hl1 hl2 hl3 gr4 hl6
  · skip
    refine j_aload_n (pc := 58) dX2_spanAt_58 rfl (q := 0) rfl ?_
    refine j_getr (pc := 59) jv1_2 jm_01 kf_RX2_9 0 kg1_2_0 rfl dX2_spanAt_59 ?_
    refine j_iload (pc := 62) dX2_spanAt_62 (q := 5) rfl ?_
    refine j_callVi1 (pc := 64) (ct_X9_tells M l6 hl6) kg_1227 km_X9_tells kv_X9_tells rfl rfl ⟨(Nat.le_of_ble_eq_true rfl), (Nat.le_of_ble_eq_true rfl)⟩ jv1_1 jm_01 ko1_1 rfl rfl (Nat.le_of_ble_eq_true rfl) dX2_spanAt_64 (fun v2 M3 h4 => ?_)
    refine j_if_ne (tgt := 76) (pc := 67) h4 dX2_spanAt_67 (by decide) (fun c5 => ?_) (fun c5 => ?_)
    · skip
      refine j_iinc (pc := 70) [(0, jm_vr wd1 X 2 0), (1, jm_i l1), (2, jm_i l2), (3, jm_i l3), (4, jm_vr wd1 X 9 r4)] (q := 5) dX2_spanAt_70 rfl (by decide) (fun _ => rfl) (fun v6 h7 => ?_)
      refine j_goto (tgt := 51) (pc := 73) dX2_spanAt_73 (by decide) ?_
      refine j_sub (pc := 51) [(0, jm_vr wd1 X 2 0), (1, jm_i l1), (2, jm_i l2), (3, jm_i l3), (4, jm_vr wd1 X 9 r4), (6, jm_i v6)] [1, 2, 3, 4, 5, 0] rfl ?_
      exact hk51 M3 l1 l2 l3 r4 v6 hl1 hl2 hl3 gr4 h7
    · skip
      refine j_sub (pc := 76) [(0, jm_vr wd1 X 2 0), (1, jm_i l1), (2, jm_i l2), (3, jm_i l3), (4, jm_vr wd1 X 9 r4), (6, jm_i l6)] [0, 1, 2, 3, 4, 5] rfl ?_
      exact bX2_spanAt_76 X fu  M3 l1 l2 l3 r4 l6 hl1 hl2 hl3 gr4 hl6
theorem bX2_spanAt_51 (X : jm_X) (fu : Nat) : ∀ (n : Nat) (M : jm_M) (l1 l2 l3 r4 l6 : Int) (hl1 : jm_in l1) (hl2 : jm_in l2) (hl3 : jm_in l3) (gr4 : 0 ≤ r4 ∧ r4 < 6) (hl6 : jm_in l6), jm_J wd1 (jm_qi .int) cX2_spanAt 10 RX2 rmX2_spanAt X M [(0, jm_vr wd1 X 2 0), (1, jm_i l1), (2, jm_i l2), (3, jm_i l3), (4, jm_vr wd1 X 9 r4), (6, jm_i l6)] [] 51 (fX2_spanAt_51 fu n M l1 l2 l3 r4 l6) := by
  intro n
  induction n with
  | zero => intro M l1 l2 l3 r4 l6 hl1 hl2 hl3 gr4 hl6; exact j_none
  | succ n ih => intro M l1 l2 l3 r4 l6 hl1 hl2 hl3 gr4 hl6; exact b0X2_spanAt_51 X fu (fX2_spanAt_51 fu n) ih M l1 l2 l3 r4 l6 hl1 hl2 hl3 gr4 hl6
set_option maxHeartbeats 4000000 in
set_option maxRecDepth 100000 in
theorem ct_X2_spanAt (fu : Nat) (M : jm_M) (l1 l2 l3 : Int) (hl1 : jm_in l1) (hl2 : jm_in l2) (hl3 : jm_in l3) : jm_Ci wd1 yX2_spanAt cX2_spanAt 10 (some .int) rmX2_spanAt M (fun G ad => [.ref (ad (jm_r wd1 2 0)), jm_i l1, jm_i l2, jm_i l3]) (fX2_spanAt fu M l1 l2 l3) := by
  refine jm_met_i (fun X => [(0, jm_vr wd1 X 2 0), (1, jm_i l1), (2, jm_i l2), (3, jm_i l3)]) (by decide) (fun _ _ => (Nat.le_of_ble_eq_true rfl)) (fun _ => rfl) (fun X => ?_)
  unfold fX2_spanAt
  refine j_aload_n (pc := 0) dX2_spanAt_0 rfl (q := 0) rfl ?_
  refine j_iload_n (pc := 1) dX2_spanAt_1 rfl (q := 1) rfl ?_
  refine j_callVi1 (pc := 2) (ct_X2_has M l1 hl1) kg_881 km_X2_has kv_X2_has rfl rfl ⟨(Nat.le_of_ble_eq_true rfl), (Nat.le_of_ble_eq_true rfl)⟩ jv1_2 jm_01 ko1_2 rfl rfl (Nat.le_of_ble_eq_true rfl) dX2_spanAt_2 (fun v1 M2 h3 => ?_)
  refine j_if_ne (tgt := 10) (pc := 5) h3 dX2_spanAt_5 (by decide) (fun c4 => ?_) (fun c4 => ?_)
  · skip
    refine j_iconst (pc := 8) dX2_spanAt_8 ?_
    exact j_iret (pc := 9) (jm_inL (by decide) (by decide)) rfl dX2_spanAt_9
  · skip
    refine j_aload_n (pc := 10) dX2_spanAt_10 rfl (q := 0) rfl ?_
    refine j_getr (pc := 11) jv1_2 jm_01 kf_RX2_27 0 kg1_2_3 rfl dX2_spanAt_11 ?_
    refine j_iload_n (pc := 14) dX2_spanAt_14 rfl (q := 1) rfl ?_
    refine j_aald (pc := 15) jv1_47 jm_01 (by decide) kr1_47 dX2_spanAt_15 (fun c5 => ?_)
    refine j_astore (pc := 16) [(4, jm_vr wd1 X 9 l1), (0, jm_vr wd1 X 2 0), (1, jm_i l1), (2, jm_i l2), (3, jm_i l3)] dX2_spanAt_16 (by decide) rfl ?_
    refine j_aload (pc := 18) dX2_spanAt_18 (q := 0) rfl ?_
    refine j_iload_n (pc := 20) dX2_spanAt_20 rfl (q := 3) rfl ?_
    refine j_callVi1 (pc := 21) (ct_X6_timeAt M2 l1 l2 (by omega) hl2) kg_966 km_X6_timeAt kv_X6_timeAt rfl rfl ⟨(Nat.le_of_ble_eq_true rfl), (Nat.le_of_ble_eq_true rfl)⟩ jv1_9 (by omega) ko1_9 rfl rfl (Nat.le_of_ble_eq_true rfl) dX2_spanAt_21 (fun v6 M7 h8 => ?_)
    refine j_istore (pc := 24) [(5, jm_i v6), (4, jm_vr wd1 X 9 l1), (0, jm_vr wd1 X 2 0), (1, jm_i l1), (2, jm_i l2), (3, jm_i l3)] dX2_spanAt_24 (by decide) rfl ?_
    refine j_iload (pc := 26) dX2_spanAt_26 (q := 0) rfl ?_
    refine j_iconst (pc := 28) dX2_spanAt_28 ?_
    refine j_icmp_eq (tgt := 43) (pc := 29) h8 (jm_inL (by decide) (by decide)) dX2_spanAt_29 (by decide) (fun c9 => ?_) (fun c9 => ?_)
    · skip
      refine j_iload (pc := 43) dX2_spanAt_43 (q := 0) rfl ?_
      exact j_iret (pc := 45) h8 rfl dX2_spanAt_45
    · skip
      refine j_aload_n (pc := 32) dX2_spanAt_32 rfl (q := 2) rfl ?_
      refine j_getr (pc := 33) jv1_2 jm_01 kf_RX2_9 0 kg1_2_0 rfl dX2_spanAt_33 ?_
      refine j_iload_n (pc := 36) dX2_spanAt_36 rfl (q := 4) rfl ?_
      refine j_callVi1 (pc := 37) (ct_X9_tells M7 l2 hl2) kg_1227 km_X9_tells kv_X9_tells rfl rfl ⟨(Nat.le_of_ble_eq_true rfl), (Nat.le_of_ble_eq_true rfl)⟩ jv1_1 jm_01 ko1_1 rfl rfl (Nat.le_of_ble_eq_true rfl) dX2_spanAt_37 (fun v10 M11 h12 => ?_)
      refine j_if_eq (tgt := 46) (pc := 40) h12 dX2_spanAt_40 (by decide) (fun c13 => ?_) (fun c13 => ?_)
      · skip
        refine j_iload_n (pc := 46) dX2_spanAt_46 rfl (q := 4) rfl ?_
        refine j_iconst (pc := 47) dX2_spanAt_47 ?_
        refine j_iadd (pc := 48) dX2_spanAt_48 ?_
        refine j_nm (pc := 49) (jm_w_in _) (fun v14 h15 => ?_)
        refine j_istore (pc := 49) [(6, jm_i v14), (5, jm_i v6), (4, jm_vr wd1 X 9 l1), (0, jm_vr wd1 X 2 0), (1, jm_i l1), (2, jm_i l2), (3, jm_i l3)] dX2_spanAt_49 (by decide) rfl ?_
        refine j_sub (pc := 51) [(0, jm_vr wd1 X 2 0), (1, jm_i l1), (2, jm_i l2), (3, jm_i l3), (4, jm_vr wd1 X 9 l1), (6, jm_i v14)] [3, 4, 5, 6, 2, 0] rfl ?_
        exact bX2_spanAt_51 X fu  fu M11 l1 l2 l3 l1 v14 hl1 hl2 hl3 (by omega) h15
      · skip
        refine j_iload (pc := 43) dX2_spanAt_43 (q := 0) rfl ?_
        exact j_iret (pc := 45) h8 rfl dX2_spanAt_45
abbrev rmX11_known : Room := { frames := 7, cells := 0, slots := 0, locals := 178 }
set_option maxHeartbeats 4000000 in
set_option maxRecDepth 100000 in
theorem ct_X11_known (fu : Nat) (M : jm_M) (l1 l2 l3 l4 : Int) (hl1 : jm_in l1) (hl2 : jm_in l2) (hl3 : jm_in l3) (hl4 : jm_in l4) : jm_Ci wd1 yX11_known cX11_known 5 (some .int) rmX11_known M (fun G ad => [.ref (ad (jm_r wd1 0 0)), jm_i l1, jm_i l2, jm_i l3, jm_i l4]) (fX11_known fu M l1 l2 l3 l4) := by
  refine jm_met_i (fun X => [(0, jm_vr wd1 X 0 0), (1, jm_i l1), (2, jm_i l2), (3, jm_i l3), (4, jm_i l4)]) (by decide) (fun _ _ => (Nat.le_of_ble_eq_true rfl)) (fun _ => rfl) (fun X => ?_)
  unfold fX11_known
  refine j_aload_n (pc := 0) dX11_known_0 rfl (q := 0) rfl ?_
  refine j_getr (pc := 1) jv1_0 jm_01 kf_RX11_24 0 kg1_0_1 rfl dX11_known_1 ?_
  refine j_iload_n (pc := 4) dX11_known_4 rfl (q := 1) rfl ?_
  refine j_callVi1 (pc := 5) (ct_X2_has M l1 hl1) kg_619 km_X2_has kv_X2_has rfl rfl ⟨(Nat.le_of_ble_eq_true rfl), (Nat.le_of_ble_eq_true rfl)⟩ jv1_2 jm_01 ko1_2 rfl rfl (Nat.le_of_ble_eq_true rfl) dX11_known_5 (fun v1 M2 h3 => ?_)
  refine j_if_eq (tgt := 33) (pc := 8) h3 dX11_known_8 (by decide) (fun c4 => ?_) (fun c4 => ?_)
  · skip
    refine j_iconst (pc := 33) dX11_known_33 ?_
    exact j_iret (pc := 34) (jm_inL (by decide) (by decide)) rfl dX11_known_34
  · skip
    refine j_aload_n (pc := 11) dX11_known_11 rfl (q := 0) rfl ?_
    refine j_getr (pc := 12) jv1_0 jm_01 kf_RX11_15 0 kg1_0_0 rfl dX11_known_12 ?_
    refine j_iload_n (pc := 15) dX11_known_15 rfl (q := 2) rfl ?_
    refine j_iload_n (pc := 16) dX11_known_16 rfl (q := 3) rfl ?_
    refine j_callVi2 (pc := 17) (ct_X9_hasLine M2 l2 l3 hl2 hl3) kg_852 km_X9_hasLine kv_X9_hasLine rfl rfl ⟨(Nat.le_of_ble_eq_true rfl), (Nat.le_of_ble_eq_true rfl)⟩ jv1_1 jm_01 ko1_1 rfl rfl (Nat.le_of_ble_eq_true rfl) dX11_known_17 (fun v5 M6 h7 => ?_)
    refine j_if_eq (tgt := 33) (pc := 20) h7 dX11_known_20 (by decide) (fun c8 => ?_) (fun c8 => ?_)
    · skip
      refine j_iconst (pc := 33) dX11_known_33 ?_
      exact j_iret (pc := 34) (jm_inL (by decide) (by decide)) rfl dX11_known_34
    · skip
      refine j_iload (pc := 23) dX11_known_23 (q := 4) rfl ?_
      refine j_iconst (pc := 25) dX11_known_25 ?_
      refine j_iconst (pc := 26) dX11_known_26 ?_
      refine j_callSi3 (pc := 27) (ct_X11_isWithin M6 l4 0 1 hl4 (jm_inL (by decide) (by decide)) (jm_inL (by decide) (by decide))) kg_565 km_X11_isWithin kg_566 rfl rfl ⟨(Nat.le_of_ble_eq_true rfl), (Nat.le_of_ble_eq_true rfl)⟩ rfl rfl (Nat.le_of_ble_eq_true rfl) dX11_known_27 (fun v9 M10 h11 => ?_)
      refine j_if_ne (tgt := 35) (pc := 30) h11 dX11_known_30 (by decide) (fun c12 => ?_) (fun c12 => ?_)
      · skip
        refine j_iconst (pc := 33) dX11_known_33 ?_
        exact j_iret (pc := 34) (jm_inL (by decide) (by decide)) rfl dX11_known_34
      · skip
        refine j_aload_n (pc := 35) dX11_known_35 rfl (q := 0) rfl ?_
        refine j_getr (pc := 36) jv1_0 jm_01 kf_RX11_24 0 kg1_0_1 rfl dX11_known_36 ?_
        refine j_callVv0 (pc := 39) (ct_X2_reckon fu M10 ) kg_857 km_X2_reckon kv_X2_reckon rfl rfl ⟨(Nat.le_of_ble_eq_true rfl), (Nat.le_of_ble_eq_true rfl)⟩ jv1_2 jm_01 ko1_2 rfl rfl (Nat.le_of_ble_eq_true rfl) dX11_known_39 (fun v13 M14 => ?_)
        refine j_aload_n (pc := 42) dX11_known_42 rfl (q := 0) rfl ?_
        refine j_getr (pc := 43) jv1_0 jm_01 kf_RX11_24 0 kg1_0_1 rfl dX11_known_43 ?_
        refine j_iload_n (pc := 46) dX11_known_46 rfl (q := 1) rfl ?_
        refine j_aload_n (pc := 47) dX11_known_47 rfl (q := 0) rfl ?_
        refine j_getr (pc := 48) jv1_0 jm_01 kf_RX11_15 0 kg1_0_0 rfl dX11_known_48 ?_
        refine j_iload_n (pc := 51) dX11_known_51 rfl (q := 2) rfl ?_
        refine j_iload_n (pc := 52) dX11_known_52 rfl (q := 3) rfl ?_
        refine j_callVi2 (pc := 53) (ct_X9_lineOf M14 l2 l3 hl2 hl3) kg_1021 km_X9_lineOf kv_X9_lineOf rfl rfl ⟨(Nat.le_of_ble_eq_true rfl), (Nat.le_of_ble_eq_true rfl)⟩ jv1_1 jm_01 ko1_1 rfl rfl (Nat.le_of_ble_eq_true rfl) dX11_known_53 (fun v15 M16 h17 => ?_)
        refine j_iload (pc := 56) dX11_known_56 (q := 4) rfl ?_
        refine j_if_ne (tgt := 65) (pc := 58) hl4 dX11_known_58 (by decide) (fun c18 => ?_) (fun c18 => ?_)
        · skip
          refine j_iconst (pc := 61) dX11_known_61 ?_
          refine j_goto (tgt := 66) (pc := 62) dX11_known_62 (by decide) ?_
          refine j_callVi3 (pc := 66) (ct_X2_spanAt fu M16 l1 v15 1 hl1 h17 (jm_inL (by decide) (by decide))) kg_1223 km_X2_spanAt kv_X2_spanAt rfl rfl ⟨(Nat.le_of_ble_eq_true rfl), (Nat.le_of_ble_eq_true rfl)⟩ jv1_2 jm_01 ko1_2 rfl rfl (Nat.le_of_ble_eq_true rfl) dX11_known_66 (fun v19 M20 h21 => ?_)
          exact j_iret (pc := 69) h21 rfl dX11_known_69
        · skip
          refine j_iconst (pc := 65) dX11_known_65 ?_
          refine j_callVi3 (pc := 66) (ct_X2_spanAt fu M16 l1 v15 0 hl1 h17 (jm_inL (by decide) (by decide))) kg_1223 km_X2_spanAt kv_X2_spanAt rfl rfl ⟨(Nat.le_of_ble_eq_true rfl), (Nat.le_of_ble_eq_true rfl)⟩ jv1_2 jm_01 ko1_2 rfl rfl (Nat.le_of_ble_eq_true rfl) dX11_known_66 (fun v22 M23 h24 => ?_)
          exact j_iret (pc := 69) h24 rfl dX11_known_69
abbrev rmX11_ahead : Room := { frames := 7, cells := 0, slots := 0, locals := 178 }
set_option maxHeartbeats 4000000 in
set_option maxRecDepth 100000 in
theorem ct_X11_ahead (fu : Nat) (M : jm_M) (l1 l2 l3 l4 : Int) (hl1 : jm_in l1) (hl2 : jm_in l2) (hl3 : jm_in l3) (hl4 : jm_in l4) : jm_Ci wd1 yX11_ahead cX11_ahead 8 (some .int) rmX11_ahead M (fun G ad => [.ref (ad (jm_r wd1 0 0)), jm_i l1, jm_i l2, jm_i l3, jm_i l4]) (fX11_ahead fu M l1 l2 l3 l4) := by
  refine jm_met_i (fun X => [(0, jm_vr wd1 X 0 0), (1, jm_i l1), (2, jm_i l2), (3, jm_i l3), (4, jm_i l4)]) (by decide) (fun _ _ => (Nat.le_of_ble_eq_true rfl)) (fun _ => rfl) (fun X => ?_)
  unfold fX11_ahead
  refine j_aload_n (pc := 0) dX11_ahead_0 rfl (q := 0) rfl ?_
  refine j_getr (pc := 1) jv1_0 jm_01 kf_RX11_24 0 kg1_0_1 rfl dX11_ahead_1 ?_
  refine j_iload_n (pc := 4) dX11_ahead_4 rfl (q := 1) rfl ?_
  refine j_callVi1 (pc := 5) (ct_X2_has M l1 hl1) kg_619 km_X2_has kv_X2_has rfl rfl ⟨(Nat.le_of_ble_eq_true rfl), (Nat.le_of_ble_eq_true rfl)⟩ jv1_2 jm_01 ko1_2 rfl rfl (Nat.le_of_ble_eq_true rfl) dX11_ahead_5 (fun v1 M2 h3 => ?_)
  refine j_if_eq (tgt := 40) (pc := 8) h3 dX11_ahead_8 (by decide) (fun c4 => ?_) (fun c4 => ?_)
  · skip
    refine j_iconst (pc := 40) dX11_ahead_40 ?_
    exact j_iret (pc := 41) (jm_inL (by decide) (by decide)) rfl dX11_ahead_41
  · skip
    refine j_aload_n (pc := 11) dX11_ahead_11 rfl (q := 0) rfl ?_
    refine j_getr (pc := 12) jv1_0 jm_01 kf_RX11_24 0 kg1_0_1 rfl dX11_ahead_12 ?_
    refine j_iload_n (pc := 15) dX11_ahead_15 rfl (q := 2) rfl ?_
    refine j_callVi1 (pc := 16) (ct_X2_has M2 l2 hl2) kg_619 km_X2_has kv_X2_has rfl rfl ⟨(Nat.le_of_ble_eq_true rfl), (Nat.le_of_ble_eq_true rfl)⟩ jv1_2 jm_01 ko1_2 rfl rfl (Nat.le_of_ble_eq_true rfl) dX11_ahead_16 (fun v5 M6 h7 => ?_)
    refine j_if_eq (tgt := 40) (pc := 19) h7 dX11_ahead_19 (by decide) (fun c8 => ?_) (fun c8 => ?_)
    · skip
      refine j_iconst (pc := 40) dX11_ahead_40 ?_
      exact j_iret (pc := 41) (jm_inL (by decide) (by decide)) rfl dX11_ahead_41
    · skip
      refine j_iload_n (pc := 22) dX11_ahead_22 rfl (q := 1) rfl ?_
      refine j_iload_n (pc := 23) dX11_ahead_23 rfl (q := 2) rfl ?_
      refine j_icmp_eq (tgt := 40) (pc := 24) hl1 hl2 dX11_ahead_24 (by decide) (fun c9 => ?_) (fun c9 => ?_)
      · skip
        refine j_iconst (pc := 40) dX11_ahead_40 ?_
        exact j_iret (pc := 41) (jm_inL (by decide) (by decide)) rfl dX11_ahead_41
      · skip
        refine j_aload_n (pc := 27) dX11_ahead_27 rfl (q := 0) rfl ?_
        refine j_getr (pc := 28) jv1_0 jm_01 kf_RX11_15 0 kg1_0_0 rfl dX11_ahead_28 ?_
        refine j_iload_n (pc := 31) dX11_ahead_31 rfl (q := 3) rfl ?_
        refine j_iload (pc := 32) dX11_ahead_32 (q := 4) rfl ?_
        refine j_callVi2 (pc := 34) (ct_X9_hasLine M6 l3 l4 hl3 hl4) kg_852 km_X9_hasLine kv_X9_hasLine rfl rfl ⟨(Nat.le_of_ble_eq_true rfl), (Nat.le_of_ble_eq_true rfl)⟩ jv1_1 jm_01 ko1_1 rfl rfl (Nat.le_of_ble_eq_true rfl) dX11_ahead_34 (fun v10 M11 h12 => ?_)
        refine j_if_ne (tgt := 42) (pc := 37) h12 dX11_ahead_37 (by decide) (fun c13 => ?_) (fun c13 => ?_)
        · skip
          refine j_iconst (pc := 40) dX11_ahead_40 ?_
          exact j_iret (pc := 41) (jm_inL (by decide) (by decide)) rfl dX11_ahead_41
        · skip
          refine j_aload_n (pc := 42) dX11_ahead_42 rfl (q := 0) rfl ?_
          refine j_getr (pc := 43) jv1_0 jm_01 kf_RX11_24 0 kg1_0_1 rfl dX11_ahead_43 ?_
          refine j_callVv0 (pc := 46) (ct_X2_reckon fu M11 ) kg_857 km_X2_reckon kv_X2_reckon rfl rfl ⟨(Nat.le_of_ble_eq_true rfl), (Nat.le_of_ble_eq_true rfl)⟩ jv1_2 jm_01 ko1_2 rfl rfl (Nat.le_of_ble_eq_true rfl) dX11_ahead_46 (fun v14 M15 => ?_)
          refine j_aload_n (pc := 49) dX11_ahead_49 rfl (q := 0) rfl ?_
          refine j_getr (pc := 50) jv1_0 jm_01 kf_RX11_15 0 kg1_0_0 rfl dX11_ahead_50 ?_
          refine j_iload_n (pc := 53) dX11_ahead_53 rfl (q := 3) rfl ?_
          refine j_iload (pc := 54) dX11_ahead_54 (q := 4) rfl ?_
          refine j_callVi2 (pc := 56) (ct_X9_lineOf M15 l3 l4 hl3 hl4) kg_1021 km_X9_lineOf kv_X9_lineOf rfl rfl ⟨(Nat.le_of_ble_eq_true rfl), (Nat.le_of_ble_eq_true rfl)⟩ jv1_1 jm_01 ko1_1 rfl rfl (Nat.le_of_ble_eq_true rfl) dX11_ahead_56 (fun v16 M17 h18 => ?_)
          refine j_istore (pc := 59) [(5, jm_i v16), (0, jm_vr wd1 X 0 0), (1, jm_i l1), (2, jm_i l2), (3, jm_i l3), (4, jm_i l4)] dX11_ahead_59 (by decide) rfl ?_
          refine j_aload_n (pc := 61) dX11_ahead_61 rfl (q := 1) rfl ?_
          refine j_getr (pc := 62) jv1_0 jm_01 kf_RX11_24 0 kg1_0_1 rfl dX11_ahead_62 ?_
          refine j_iload_n (pc := 65) dX11_ahead_65 rfl (q := 2) rfl ?_
          refine j_iload (pc := 66) dX11_ahead_66 (q := 0) rfl ?_
          refine j_iconst (pc := 68) dX11_ahead_68 ?_
          refine j_callVi3 (pc := 69) (ct_X2_spanAt fu M17 l1 v16 0 hl1 h18 (jm_inL (by decide) (by decide))) kg_1223 km_X2_spanAt kv_X2_spanAt rfl rfl ⟨(Nat.le_of_ble_eq_true rfl), (Nat.le_of_ble_eq_true rfl)⟩ jv1_2 jm_01 ko1_2 rfl rfl (Nat.le_of_ble_eq_true rfl) dX11_ahead_69 (fun v19 M20 h21 => ?_)
          refine j_istore (pc := 72) [(6, jm_i v19), (5, jm_i v16), (0, jm_vr wd1 X 0 0), (1, jm_i l1), (2, jm_i l2), (3, jm_i l3), (4, jm_i l4)] dX11_ahead_72 (by decide) rfl ?_
          refine j_aload_n (pc := 74) dX11_ahead_74 rfl (q := 2) rfl ?_
          refine j_getr (pc := 75) jv1_0 jm_01 kf_RX11_24 0 kg1_0_1 rfl dX11_ahead_75 ?_
          refine j_iload_n (pc := 78) dX11_ahead_78 rfl (q := 4) rfl ?_
          refine j_iload (pc := 79) dX11_ahead_79 (q := 1) rfl ?_
          refine j_iconst (pc := 81) dX11_ahead_81 ?_
          refine j_callVi3 (pc := 82) (ct_X2_spanAt fu M20 l2 v16 1 hl2 h18 (jm_inL (by decide) (by decide))) kg_1223 km_X2_spanAt kv_X2_spanAt rfl rfl ⟨(Nat.le_of_ble_eq_true rfl), (Nat.le_of_ble_eq_true rfl)⟩ jv1_2 jm_01 ko1_2 rfl rfl (Nat.le_of_ble_eq_true rfl) dX11_ahead_82 (fun v22 M23 h24 => ?_)
          refine j_istore (pc := 85) [(7, jm_i v22), (6, jm_i v19), (5, jm_i v16), (0, jm_vr wd1 X 0 0), (1, jm_i l1), (2, jm_i l2), (3, jm_i l3), (4, jm_i l4)] dX11_ahead_85 (by decide) rfl ?_
          refine j_iload (pc := 87) dX11_ahead_87 (q := 1) rfl ?_
          refine j_iconst (pc := 89) dX11_ahead_89 ?_
          refine j_icmp_eq (tgt := 99) (pc := 90) h21 (jm_inL (by decide) (by decide)) dX11_ahead_90 (by decide) (fun c25 => ?_) (fun c25 => ?_)
          · skip
            refine j_iconst (pc := 99) dX11_ahead_99 ?_
            exact j_iret (pc := 100) (jm_inL (by decide) (by decide)) rfl dX11_ahead_100
          · skip
            refine j_iload (pc := 93) dX11_ahead_93 (q := 0) rfl ?_
            refine j_iconst (pc := 95) dX11_ahead_95 ?_
            refine j_icmp_ne (tgt := 101) (pc := 96) h24 (jm_inL (by decide) (by decide)) dX11_ahead_96 (by decide) (fun c26 => ?_) (fun c26 => ?_)
            · skip
              refine j_iconst (pc := 99) dX11_ahead_99 ?_
              exact j_iret (pc := 100) (jm_inL (by decide) (by decide)) rfl dX11_ahead_100
            · skip
              refine j_iload (pc := 101) dX11_ahead_101 (q := 1) rfl ?_
              refine j_iload (pc := 103) dX11_ahead_103 (q := 0) rfl ?_
              refine j_icmp_ge (tgt := 112) (pc := 105) h21 h24 dX11_ahead_105 (by decide) (fun c27 => ?_) (fun c27 => ?_)
              · skip
                refine j_iconst (pc := 112) dX11_ahead_112 ?_
                exact j_iret (pc := 113) (jm_inL (by decide) (by decide)) rfl dX11_ahead_113
              · skip
                refine j_iconst (pc := 108) dX11_ahead_108 ?_
                refine j_goto (tgt := 113) (pc := 109) dX11_ahead_109 (by decide) ?_
                exact j_iret (pc := 113) (jm_inL (by decide) (by decide)) rfl dX11_ahead_113
abbrev rmX2_endedByWall : Room := { frames := 2, cells := 0, slots := 0, locals := 42 }
set_option maxHeartbeats 4000000 in
set_option maxRecDepth 100000 in
theorem b0X2_endedByWall_22 (X : jm_X) (fu : Nat) (k22 : jm_M → Int → Int → Int → jm_R) (hk22 : ∀ (M : jm_M) (l1 l2 l3 : Int) (hl1 : jm_in l1) (hl2 : jm_in l2) (hl3 : jm_in l3), jm_J wd1 (jm_qi .int) cX2_endedByWall 4 RX2 rmX2_endedByWall X M [(0, jm_vr wd1 X 2 0), (1, jm_i l1), (2, jm_i l2), (3, jm_i l3)] [] 22 (k22 M l1 l2 l3)) : ∀ (M : jm_M) (l1 l2 l3 : Int) (hl1 : jm_in l1) (hl2 : jm_in l2) (hl3 : jm_in l3), jm_J wd1 (jm_qi .int) cX2_endedByWall 4 RX2 rmX2_endedByWall X M [(0, jm_vr wd1 X 2 0), (1, jm_i l1), (2, jm_i l2), (3, jm_i l3)] [] 22 (gX2_endedByWall_22 fu k22 M l1 l2 l3) := by
  intro M l1 l2 l3 hl1 hl2 hl3
  unfold gX2_endedByWall_22
  refine j_iload_n (pc := 22) dX2_endedByWall_22 rfl (q := 3) rfl ?_
  refine j_if_lt (tgt := 61) (pc := 23) hl3 dX2_endedByWall_23 (by decide) (fun c1 => ?_) (fun c1 => ?_)
  · skip
    refine j_iconst (pc := 61) dX2_endedByWall_61 ?_
    exact j_iret (pc := 62) (jm_inL (by decide) (by decide)) rfl dX2_endedByWall_62
  · skip
    refine j_aload_n (pc := 26) dX2_endedByWall_26 rfl (q := 0) rfl ?_
    refine j_getr (pc := 27) jv1_2 jm_01 kf_RX2_9 0 kg1_2_0 rfl dX2_endedByWall_27 ?_
    refine j_iload_n (pc := 30) dX2_endedByWall_30 rfl (q := 3) rfl ?_
    refine j_callVi1 (pc := 31) (ct_X9_tells M l3 hl3) kg_1227 km_X9_tells kv_X9_tells rfl rfl ⟨(Nat.le_of_ble_eq_true rfl), (Nat.le_of_ble_eq_true rfl)⟩ jv1_1 jm_01 ko1_1 rfl rfl (Nat.le_of_ble_eq_true rfl) dX2_endedByWall_31 (fun v2 M3 h4 => ?_)
    refine j_if_eq (tgt := 55) (pc := 34) h4 dX2_endedByWall_34 (by decide) (fun c5 => ?_) (fun c5 => ?_)
    · skip
      refine j_iinc (pc := 55) [(0, jm_vr wd1 X 2 0), (1, jm_i l1), (2, jm_i l2)] (q := 3) dX2_endedByWall_55 rfl (by decide) (fun _ => rfl) (fun v6 h7 => ?_)
      refine j_goto (tgt := 22) (pc := 58) dX2_endedByWall_58 (by decide) ?_
      refine j_sub (pc := 22) [(0, jm_vr wd1 X 2 0), (1, jm_i l1), (2, jm_i l2), (3, jm_i v6)] [1, 2, 3, 0] rfl ?_
      exact hk22 M3 l1 l2 v6 hl1 hl2 h7
    · skip
      refine j_aload_n (pc := 37) dX2_endedByWall_37 rfl (q := 0) rfl ?_
      refine j_getr (pc := 38) jv1_2 jm_01 kf_RX2_27 0 kg1_2_3 rfl dX2_endedByWall_38 ?_
      refine j_iload_n (pc := 41) dX2_endedByWall_41 rfl (q := 1) rfl ?_
      refine j_aald (pc := 42) jv1_47 jm_01 (by decide) kr1_47 dX2_endedByWall_42 (fun c8 => ?_)
      refine j_iload_n (pc := 43) dX2_endedByWall_43 rfl (q := 3) rfl ?_
      refine j_callVi1 (pc := 44) (ct_X6_timeAt M3 l1 l3 (by omega) hl3) kg_966 km_X6_timeAt kv_X6_timeAt rfl rfl ⟨(Nat.le_of_ble_eq_true rfl), (Nat.le_of_ble_eq_true rfl)⟩ jv1_9 (by omega) ko1_9 rfl rfl (Nat.le_of_ble_eq_true rfl) dX2_endedByWall_44 (fun v9 M10 h11 => ?_)
      refine j_iload_n (pc := 47) dX2_endedByWall_47 rfl (q := 2) rfl ?_
      refine j_icmp_gt (tgt := 55) (pc := 48) h11 hl2 dX2_endedByWall_48 (by decide) (fun c12 => ?_) (fun c12 => ?_)
      · skip
        refine j_iinc (pc := 55) [(0, jm_vr wd1 X 2 0), (1, jm_i l1), (2, jm_i l2)] (q := 3) dX2_endedByWall_55 rfl (by decide) (fun _ => rfl) (fun v13 h14 => ?_)
        refine j_goto (tgt := 22) (pc := 58) dX2_endedByWall_58 (by decide) ?_
        refine j_sub (pc := 22) [(0, jm_vr wd1 X 2 0), (1, jm_i l1), (2, jm_i l2), (3, jm_i v13)] [1, 2, 3, 0] rfl ?_
        exact hk22 M10 l1 l2 v13 hl1 hl2 h14
      · skip
        refine j_iload_n (pc := 51) dX2_endedByWall_51 rfl (q := 3) rfl ?_
        refine j_iconst (pc := 52) dX2_endedByWall_52 ?_
        refine j_iadd (pc := 53) dX2_endedByWall_53 ?_
        exact j_iret (pc := 54) (jm_w_in _) rfl dX2_endedByWall_54
theorem bX2_endedByWall_22 (X : jm_X) (fu : Nat) : ∀ (n : Nat) (M : jm_M) (l1 l2 l3 : Int) (hl1 : jm_in l1) (hl2 : jm_in l2) (hl3 : jm_in l3), jm_J wd1 (jm_qi .int) cX2_endedByWall 4 RX2 rmX2_endedByWall X M [(0, jm_vr wd1 X 2 0), (1, jm_i l1), (2, jm_i l2), (3, jm_i l3)] [] 22 (fX2_endedByWall_22 fu n M l1 l2 l3) := by
  intro n
  induction n with
  | zero => intro M l1 l2 l3 hl1 hl2 hl3; exact j_none
  | succ n ih => intro M l1 l2 l3 hl1 hl2 hl3; exact b0X2_endedByWall_22 X fu (fX2_endedByWall_22 fu n) ih M l1 l2 l3 hl1 hl2 hl3
set_option maxHeartbeats 4000000 in
set_option maxRecDepth 100000 in
theorem ct_X2_endedByWall (fu : Nat) (M : jm_M) (l1 l2 : Int) (hl1 : jm_in l1) (hl2 : jm_in l2) : jm_Ci wd1 yX2_endedByWall cX2_endedByWall 4 (some .int) rmX2_endedByWall M (fun G ad => [.ref (ad (jm_r wd1 2 0)), jm_i l1, jm_i l2]) (fX2_endedByWall fu M l1 l2) := by
  refine jm_met_i (fun X => [(0, jm_vr wd1 X 2 0), (1, jm_i l1), (2, jm_i l2)]) (by decide) (fun _ _ => (Nat.le_of_ble_eq_true rfl)) (fun _ => rfl) (fun X => ?_)
  unfold fX2_endedByWall
  refine j_aload_n (pc := 0) dX2_endedByWall_0 rfl (q := 0) rfl ?_
  refine j_iload_n (pc := 1) dX2_endedByWall_1 rfl (q := 1) rfl ?_
  refine j_callVi1 (pc := 2) (ct_X2_has M l1 hl1) kg_881 km_X2_has kv_X2_has rfl rfl ⟨(Nat.le_of_ble_eq_true rfl), (Nat.le_of_ble_eq_true rfl)⟩ jv1_2 jm_01 ko1_2 rfl rfl (Nat.le_of_ble_eq_true rfl) dX2_endedByWall_2 (fun v1 M2 h3 => ?_)
  refine j_if_ne (tgt := 10) (pc := 5) h3 dX2_endedByWall_5 (by decide) (fun c4 => ?_) (fun c4 => ?_)
  · skip
    refine j_iconst (pc := 8) dX2_endedByWall_8 ?_
    exact j_iret (pc := 9) (jm_inL (by decide) (by decide)) rfl dX2_endedByWall_9
  · skip
    refine j_aload_n (pc := 10) dX2_endedByWall_10 rfl (q := 0) rfl ?_
    refine j_getr (pc := 11) jv1_2 jm_01 kf_RX2_27 0 kg1_2_3 rfl dX2_endedByWall_11 ?_
    refine j_iload_n (pc := 14) dX2_endedByWall_14 rfl (q := 1) rfl ?_
    refine j_aald (pc := 15) jv1_47 jm_01 (by decide) kr1_47 dX2_endedByWall_15 (fun c5 => ?_)
    refine j_geti (pc := 16) jv1_9 (by omega) kf_RX2_275 kg1_9_2 dX2_endedByWall_16 (fun h6 => ?_)
    refine j_iconst (pc := 19) dX2_endedByWall_19 ?_
    refine j_isub (pc := 20) dX2_endedByWall_20 ?_
    refine j_nm (pc := 21) (jm_w_in _) (fun v7 h8 => ?_)
    refine j_istore_n (pc := 21) [(3, jm_i v7), (0, jm_vr wd1 X 2 0), (1, jm_i l1), (2, jm_i l2)] dX2_endedByWall_21 rfl (by decide) rfl ?_
    refine j_sub (pc := 22) [(0, jm_vr wd1 X 2 0), (1, jm_i l1), (2, jm_i l2), (3, jm_i v7)] [1, 2, 3, 0] rfl ?_
    exact bX2_endedByWall_22 X fu  fu M2 l1 l2 v7 hl1 hl2 h8
abbrev rmX6_timeOrStart : Room := { frames := 1, cells := 0, slots := 0, locals := 21 }
set_option maxHeartbeats 4000000 in
set_option maxRecDepth 100000 in
theorem ct_X6_timeOrStart (M : jm_M) (r0 l1 : Int) (gr0 : 0 ≤ r0 ∧ r0 < 6) (hl1 : jm_in l1) : jm_Ci wd1 yX6_timeOrStart cX6_timeOrStart 2 (some .int) rmX6_timeOrStart M (fun G ad => [.ref (ad (jm_r wd1 9 r0)), jm_i l1]) (fX6_timeOrStart M r0 l1) := by
  refine jm_met_i (fun X => [(0, jm_vr wd1 X 9 r0), (1, jm_i l1)]) (by decide) (fun _ _ => (Nat.le_of_ble_eq_true rfl)) (fun _ => rfl) (fun X => ?_)
  unfold fX6_timeOrStart
  refine j_iload_n (pc := 0) dX6_timeOrStart_0 rfl (q := 1) rfl ?_
  refine j_aload_n (pc := 1) dX6_timeOrStart_1 rfl (q := 0) rfl ?_
  refine j_geti (pc := 2) jv1_9 gr0 kf_RX6_34 kg1_9_2 dX6_timeOrStart_2 (fun h1 => ?_)
  refine j_callNi2 (pc := 5) (ct_X11_isIndex M l1 (M 9 r0 2) hl1 h1) (host := "RaceByLaps") (by decide) km_X11_isIndex kg_562 rfl rfl ⟨(Nat.le_of_ble_eq_true rfl), (Nat.le_of_ble_eq_true rfl)⟩ rfl rfl (Nat.le_of_ble_eq_true rfl) dX6_timeOrStart_5 (fun v2 M3 h4 => ?_)
  refine j_if_eq (tgt := 20) (pc := 8) h4 dX6_timeOrStart_8 (by decide) (fun c5 => ?_) (fun c5 => ?_)
  · skip
    refine j_iconst (pc := 20) dX6_timeOrStart_20 ?_
    exact j_iret (pc := 21) (jm_inL (by decide) (by decide)) rfl dX6_timeOrStart_21
  · skip
    refine j_aload_n (pc := 11) dX6_timeOrStart_11 rfl (q := 0) rfl ?_
    refine j_getr (pc := 12) jv1_9 gr0 kf_RX6_15 r0 kg1_9_16 rfl dX6_timeOrStart_12 ?_
    refine j_iload_n (pc := 15) dX6_timeOrStart_15 rfl (q := 1) rfl ?_
    refine j_iald (pc := 16) jv1_30 (by omega) rfl (by decide) ka1_30 dX6_timeOrStart_16 (fun c6 h7 => ?_)
    refine j_goto (tgt := 21) (pc := 17) dX6_timeOrStart_17 (by decide) ?_
    exact j_iret (pc := 21) h7 rfl dX6_timeOrStart_21
abbrev rmX11_wall : Room := { frames := 7, cells := 0, slots := 0, locals := 178 }
set_option maxHeartbeats 4000000 in
set_option maxRecDepth 100000 in
theorem bX11_wall_132 (X : jm_X) (fu : Nat) (k57 : jm_M → Int → Int → Int → Int → Int → Int → jm_R) (hk57 : ∀ (M : jm_M) (l1 l2 l3 l4 l5 l6 : Int) (hl1 : jm_in l1) (hl2 : jm_in l2) (hl3 : jm_in l3) (hl4 : jm_in l4) (hl5 : jm_in l5) (hl6 : jm_in l6), jm_J wd1 (jm_qi .int) cX11_wall 10 RX11 rmX11_wall X M [(0, jm_vr wd1 X 0 0), (1, jm_i l1), (2, jm_i l2), (3, jm_i l3), (4, jm_i l4), (5, jm_i l5), (6, jm_i l6)] [] 57 (k57 M l1 l2 l3 l4 l5 l6)) : ∀ (M : jm_M) (l1 l2 l3 l4 l5 l6 l7 s0 : Int) (hl1 : jm_in l1) (hl2 : jm_in l2) (hl3 : jm_in l3) (hl4 : jm_in l4) (hl5 : jm_in l5) (hl6 : jm_in l6) (hl7 : jm_in l7) (hs0 : jm_in s0), jm_J wd1 (jm_qi .int) cX11_wall 10 RX11 rmX11_wall X M [(0, jm_vr wd1 X 0 0), (1, jm_i l1), (2, jm_i l2), (3, jm_i l3), (4, jm_i l4), (5, jm_i l5), (6, jm_i l6), (7, jm_i l7)] [jm_i s0] 132 (gX11_wall_132 fu k57 M l1 l2 l3 l4 l5 l6 l7 s0) := by
  intro M l1 l2 l3 l4 l5 l6 l7 s0 hl1 hl2 hl3 hl4 hl5 hl6 hl7 hs0
  unfold gX11_wall_132
  refine j_istore (pc := 132) [(9, jm_i s0), (0, jm_vr wd1 X 0 0), (1, jm_i l1), (2, jm_i l2), (3, jm_i l3), (4, jm_i l4), (5, jm_i l5), (6, jm_i l6), (7, jm_i l7)] dX11_wall_132 (by decide) rfl ?_
  refine j_iload (pc := 134) dX11_wall_134 (q := 8) rfl ?_
  refine j_iload_n (pc := 136) dX11_wall_136 rfl (q := 4) rfl ?_
  refine j_icmp_gt (tgt := 151) (pc := 137) hl7 hl3 dX11_wall_137 (by decide) (fun c1 => ?_) (fun c1 => ?_)
  · skip
    refine j_iinc (pc := 151) [(9, jm_i s0), (0, jm_vr wd1 X 0 0), (1, jm_i l1), (2, jm_i l2), (3, jm_i l3), (4, jm_i l4), (6, jm_i l6), (7, jm_i l7)] (q := 6) dX11_wall_151 rfl (by decide) (fun _ => rfl) (fun v2 h3 => ?_)
    refine j_iinc (pc := 154) [(5, jm_i v2), (9, jm_i s0), (0, jm_vr wd1 X 0 0), (1, jm_i l1), (2, jm_i l2), (3, jm_i l3), (4, jm_i l4), (7, jm_i l7)] (q := 7) dX11_wall_154 rfl (by decide) (fun _ => rfl) (fun v4 h5 => ?_)
    refine j_goto (tgt := 57) (pc := 157) dX11_wall_157 (by decide) ?_
    refine j_sub (pc := 57) [(0, jm_vr wd1 X 0 0), (1, jm_i l1), (2, jm_i l2), (3, jm_i l3), (4, jm_i l4), (5, jm_i v2), (6, jm_i v4)] [3, 4, 5, 6, 7, 1, 0] rfl ?_
    exact hk57 M l1 l2 l3 l4 v2 v4 hl1 hl2 hl3 hl4 h3 h5
  · skip
    refine j_iload (pc := 140) dX11_wall_140 (q := 8) rfl ?_
    refine j_iload_n (pc := 142) dX11_wall_142 rfl (q := 4) rfl ?_
    refine j_icmp_ne (tgt := 154) (pc := 143) hl7 hl3 dX11_wall_143 (by decide) (fun c6 => ?_) (fun c6 => ?_)
    · skip
      refine j_iload (pc := 146) dX11_wall_146 (q := 0) rfl ?_
      refine j_if_eq (tgt := 154) (pc := 148) hs0 dX11_wall_148 (by decide) (fun c7 => ?_) (fun c7 => ?_)
      · skip
        refine j_iinc (pc := 154) [(9, jm_i s0), (0, jm_vr wd1 X 0 0), (1, jm_i l1), (2, jm_i l2), (3, jm_i l3), (4, jm_i l4), (5, jm_i l5), (7, jm_i l7)] (q := 7) dX11_wall_154 rfl (by decide) (fun _ => rfl) (fun v8 h9 => ?_)
        refine j_goto (tgt := 57) (pc := 157) dX11_wall_157 (by decide) ?_
        refine j_sub (pc := 57) [(0, jm_vr wd1 X 0 0), (1, jm_i l1), (2, jm_i l2), (3, jm_i l3), (4, jm_i l4), (5, jm_i l5), (6, jm_i v8)] [2, 3, 4, 5, 6, 7, 0] rfl ?_
        exact hk57 M l1 l2 l3 l4 l5 v8 hl1 hl2 hl3 hl4 hl5 h9
      · skip
        refine j_iinc (pc := 151) [(9, jm_i s0), (0, jm_vr wd1 X 0 0), (1, jm_i l1), (2, jm_i l2), (3, jm_i l3), (4, jm_i l4), (6, jm_i l6), (7, jm_i l7)] (q := 6) dX11_wall_151 rfl (by decide) (fun _ => rfl) (fun v10 h11 => ?_)
        refine j_iinc (pc := 154) [(5, jm_i v10), (9, jm_i s0), (0, jm_vr wd1 X 0 0), (1, jm_i l1), (2, jm_i l2), (3, jm_i l3), (4, jm_i l4), (7, jm_i l7)] (q := 7) dX11_wall_154 rfl (by decide) (fun _ => rfl) (fun v12 h13 => ?_)
        refine j_goto (tgt := 57) (pc := 157) dX11_wall_157 (by decide) ?_
        refine j_sub (pc := 57) [(0, jm_vr wd1 X 0 0), (1, jm_i l1), (2, jm_i l2), (3, jm_i l3), (4, jm_i l4), (5, jm_i v10), (6, jm_i v12)] [3, 4, 5, 6, 7, 1, 0] rfl ?_
        exact hk57 M l1 l2 l3 l4 v10 v12 hl1 hl2 hl3 hl4 h11 h13
    · skip
      refine j_iinc (pc := 154) [(9, jm_i s0), (0, jm_vr wd1 X 0 0), (1, jm_i l1), (2, jm_i l2), (3, jm_i l3), (4, jm_i l4), (5, jm_i l5), (7, jm_i l7)] (q := 7) dX11_wall_154 rfl (by decide) (fun _ => rfl) (fun v14 h15 => ?_)
      refine j_goto (tgt := 57) (pc := 157) dX11_wall_157 (by decide) ?_
      refine j_sub (pc := 57) [(0, jm_vr wd1 X 0 0), (1, jm_i l1), (2, jm_i l2), (3, jm_i l3), (4, jm_i l4), (5, jm_i l5), (6, jm_i v14)] [2, 3, 4, 5, 6, 7, 0] rfl ?_
      exact hk57 M l1 l2 l3 l4 l5 v14 hl1 hl2 hl3 hl4 hl5 h15
set_option maxHeartbeats 4000000 in
set_option maxRecDepth 100000 in
theorem b0X11_wall_57 (X : jm_X) (fu : Nat) (k57 : jm_M → Int → Int → Int → Int → Int → Int → jm_R) (hk57 : ∀ (M : jm_M) (l1 l2 l3 l4 l5 l6 : Int) (hl1 : jm_in l1) (hl2 : jm_in l2) (hl3 : jm_in l3) (hl4 : jm_in l4) (hl5 : jm_in l5) (hl6 : jm_in l6), jm_J wd1 (jm_qi .int) cX11_wall 10 RX11 rmX11_wall X M [(0, jm_vr wd1 X 0 0), (1, jm_i l1), (2, jm_i l2), (3, jm_i l3), (4, jm_i l4), (5, jm_i l5), (6, jm_i l6)] [] 57 (k57 M l1 l2 l3 l4 l5 l6)) : ∀ (M : jm_M) (l1 l2 l3 l4 l5 l6 : Int) (hl1 : jm_in l1) (hl2 : jm_in l2) (hl3 : jm_in l3) (hl4 : jm_in l4) (hl5 : jm_in l5) (hl6 : jm_in l6), jm_J wd1 (jm_qi .int) cX11_wall 10 RX11 rmX11_wall X M [(0, jm_vr wd1 X 0 0), (1, jm_i l1), (2, jm_i l2), (3, jm_i l3), (4, jm_i l4), (5, jm_i l5), (6, jm_i l6)] [] 57 (gX11_wall_57 fu k57 M l1 l2 l3 l4 l5 l6) := by
  intro M l1 l2 l3 l4 l5 l6 hl1 hl2 hl3 hl4 hl5 hl6
  unfold gX11_wall_57
  refine j_iload (pc := 57) dX11_wall_57 (q := 6) rfl ?_
  refine j_aload_n (pc := 59) dX11_wall_59 rfl (q := 0) rfl ?_
  refine j_getr (pc := 60) jv1_0 jm_01 kf_RX11_24 0 kg1_0_1 rfl dX11_wall_60 ?_
  refine j_geti (pc := 63) jv1_2 jm_01 kf_RX11_80 kg1_2_5 dX11_wall_63 (fun h1 => ?_)
  refine j_icmp_ge (tgt := 160) (pc := 66) hl6 h1 dX11_wall_66 (by decide) (fun c2 => ?_) (fun c2 => ?_)
  · skip
    refine j_iload (pc := 160) dX11_wall_160 (q := 5) rfl ?_
    exact j_iret (pc := 162) hl5 rfl dX11_wall_162
  · skip
    refine j_iload (pc := 69) dX11_wall_69 (q := 6) rfl ?_
    refine j_bipush (pc := 71) 6 dX11_wall_71 (by decide) ?_
    refine j_icmp_ge (tgt := 160) (pc := 73) hl6 (jm_inL (by decide) (by decide)) dX11_wall_73 (by decide) (fun c3 => ?_) (fun c3 => ?_)
    · skip
      refine j_iload (pc := 160) dX11_wall_160 (q := 5) rfl ?_
      exact j_iret (pc := 162) hl5 rfl dX11_wall_162
    · skip
      refine j_aload_n (pc := 76) dX11_wall_76 rfl (q := 0) rfl ?_
      refine j_getr (pc := 77) jv1_0 jm_01 kf_RX11_24 0 kg1_0_1 rfl dX11_wall_77 ?_
      refine j_iload (pc := 80) dX11_wall_80 (q := 6) rfl ?_
      refine j_iload_n (pc := 82) dX11_wall_82 rfl (q := 2) rfl ?_
      refine j_callVi2 (pc := 83) (ct_X2_endedByWall fu M l6 l2 hl6 hl2) kg_1240 km_X2_endedByWall kv_X2_endedByWall rfl rfl ⟨(Nat.le_of_ble_eq_true rfl), (Nat.le_of_ble_eq_true rfl)⟩ jv1_2 jm_01 ko1_2 rfl rfl (Nat.le_of_ble_eq_true rfl) dX11_wall_83 (fun v4 M5 h6 => ?_)
      refine j_istore (pc := 86) [(7, jm_i v4), (0, jm_vr wd1 X 0 0), (1, jm_i l1), (2, jm_i l2), (3, jm_i l3), (4, jm_i l4), (5, jm_i l5), (6, jm_i l6)] dX11_wall_86 (by decide) rfl ?_
      refine j_aload_n (pc := 88) dX11_wall_88 rfl (q := 1) rfl ?_
      refine j_getr (pc := 89) jv1_0 jm_01 kf_RX11_24 0 kg1_0_1 rfl dX11_wall_89 ?_
      refine j_getr (pc := 92) jv1_2 jm_01 kf_RX11_230 0 kg1_2_3 rfl dX11_wall_92 ?_
      refine j_iload (pc := 95) dX11_wall_95 (q := 7) rfl ?_
      refine j_aald (pc := 97) jv1_47 jm_01 (by decide) kr1_47 dX11_wall_97 (fun c7 => ?_)
      refine j_iload (pc := 98) dX11_wall_98 (q := 0) rfl ?_
      refine j_iconst (pc := 100) dX11_wall_100 ?_
      refine j_isub (pc := 101) dX11_wall_101 ?_
      refine j_callVi1 (pc := 102) (ct_X6_timeOrStart M5 l6 (jm_w (v4 - 1)) (by omega) (jm_w_in _)) kg_1244 km_X6_timeOrStart kv_X6_timeOrStart rfl rfl ⟨(Nat.le_of_ble_eq_true rfl), (Nat.le_of_ble_eq_true rfl)⟩ jv1_9 (by omega) ko1_9 rfl rfl (Nat.le_of_ble_eq_true rfl) dX11_wall_102 (fun v8 M9 h10 => ?_)
      refine j_istore (pc := 105) [(8, jm_i v8), (7, jm_i v4), (0, jm_vr wd1 X 0 0), (1, jm_i l1), (2, jm_i l2), (3, jm_i l3), (4, jm_i l4), (5, jm_i l5), (6, jm_i l6)] dX11_wall_105 (by decide) rfl ?_
      refine j_iload (pc := 107) dX11_wall_107 (q := 0) rfl ?_
      refine j_iload (pc := 109) dX11_wall_109 (q := 6) rfl ?_
      refine j_icmp_lt (tgt := 127) (pc := 111) h10 hl4 dX11_wall_111 (by decide) (fun c11 => ?_) (fun c11 => ?_)
      · skip
        refine j_iconst (pc := 127) dX11_wall_127 ?_
        refine j_goto (tgt := 132) (pc := 128) dX11_wall_128 (by decide) ?_
        refine j_sub (pc := 132) [(0, jm_vr wd1 X 0 0), (1, jm_i l1), (2, jm_i l2), (3, jm_i l3), (4, jm_i l4), (5, jm_i l5), (6, jm_i l6), (7, jm_i v4)] [2, 3, 4, 5, 6, 7, 8, 1] rfl ?_
        exact bX11_wall_132 X fu k57 hk57 M9 l1 l2 l3 l4 l5 l6 v4 1 hl1 hl2 hl3 hl4 hl5 hl6 h6 (jm_inL (by decide) (by decide))
      · skip
        refine j_iload (pc := 114) dX11_wall_114 (q := 0) rfl ?_
        refine j_iload (pc := 116) dX11_wall_116 (q := 6) rfl ?_
        refine j_icmp_ne (tgt := 131) (pc := 118) h10 hl4 dX11_wall_118 (by decide) (fun c12 => ?_) (fun c12 => ?_)
        · skip
          refine j_iload (pc := 121) dX11_wall_121 (q := 8) rfl ?_
          refine j_iload_n (pc := 123) dX11_wall_123 rfl (q := 3) rfl ?_
          refine j_icmp_ge (tgt := 131) (pc := 124) hl6 hl1 dX11_wall_124 (by decide) (fun c13 => ?_) (fun c13 => ?_)
          · skip
            refine j_iconst (pc := 131) dX11_wall_131 ?_
            refine j_sub (pc := 132) [(0, jm_vr wd1 X 0 0), (1, jm_i l1), (2, jm_i l2), (3, jm_i l3), (4, jm_i l4), (5, jm_i l5), (6, jm_i l6), (7, jm_i v4)] [2, 3, 4, 5, 6, 7, 8, 1] rfl ?_
            exact bX11_wall_132 X fu k57 hk57 M9 l1 l2 l3 l4 l5 l6 v4 0 hl1 hl2 hl3 hl4 hl5 hl6 h6 (jm_inL (by decide) (by decide))
          · skip
            refine j_iconst (pc := 127) dX11_wall_127 ?_
            refine j_goto (tgt := 132) (pc := 128) dX11_wall_128 (by decide) ?_
            refine j_sub (pc := 132) [(0, jm_vr wd1 X 0 0), (1, jm_i l1), (2, jm_i l2), (3, jm_i l3), (4, jm_i l4), (5, jm_i l5), (6, jm_i l6), (7, jm_i v4)] [2, 3, 4, 5, 6, 7, 8, 1] rfl ?_
            exact bX11_wall_132 X fu k57 hk57 M9 l1 l2 l3 l4 l5 l6 v4 1 hl1 hl2 hl3 hl4 hl5 hl6 h6 (jm_inL (by decide) (by decide))
        · skip
          refine j_iconst (pc := 131) dX11_wall_131 ?_
          refine j_sub (pc := 132) [(0, jm_vr wd1 X 0 0), (1, jm_i l1), (2, jm_i l2), (3, jm_i l3), (4, jm_i l4), (5, jm_i l5), (6, jm_i l6), (7, jm_i v4)] [2, 3, 4, 5, 6, 7, 8, 1] rfl ?_
          exact bX11_wall_132 X fu k57 hk57 M9 l1 l2 l3 l4 l5 l6 v4 0 hl1 hl2 hl3 hl4 hl5 hl6 h6 (jm_inL (by decide) (by decide))
theorem bX11_wall_57 (X : jm_X) (fu : Nat) : ∀ (n : Nat) (M : jm_M) (l1 l2 l3 l4 l5 l6 : Int) (hl1 : jm_in l1) (hl2 : jm_in l2) (hl3 : jm_in l3) (hl4 : jm_in l4) (hl5 : jm_in l5) (hl6 : jm_in l6), jm_J wd1 (jm_qi .int) cX11_wall 10 RX11 rmX11_wall X M [(0, jm_vr wd1 X 0 0), (1, jm_i l1), (2, jm_i l2), (3, jm_i l3), (4, jm_i l4), (5, jm_i l5), (6, jm_i l6)] [] 57 (fX11_wall_57 fu n M l1 l2 l3 l4 l5 l6) := by
  intro n
  induction n with
  | zero => intro M l1 l2 l3 l4 l5 l6 hl1 hl2 hl3 hl4 hl5 hl6; exact j_none
  | succ n ih => intro M l1 l2 l3 l4 l5 l6 hl1 hl2 hl3 hl4 hl5 hl6; exact b0X11_wall_57 X fu (fX11_wall_57 fu n) ih M l1 l2 l3 l4 l5 l6 hl1 hl2 hl3 hl4 hl5 hl6
set_option maxHeartbeats 4000000 in
set_option maxRecDepth 100000 in
theorem ct_X11_wall (fu : Nat) (M : jm_M) (l1 l2 : Int) (hl1 : jm_in l1) (hl2 : jm_in l2) : jm_Ci wd1 yX11_wall cX11_wall 10 (some .int) rmX11_wall M (fun G ad => [.ref (ad (jm_r wd1 0 0)), jm_i l1, jm_i l2]) (fX11_wall fu M l1 l2) := by
  refine jm_met_i (fun X => [(0, jm_vr wd1 X 0 0), (1, jm_i l1), (2, jm_i l2)]) (by decide) (fun _ _ => (Nat.le_of_ble_eq_true rfl)) (fun _ => rfl) (fun X => ?_)
  unfold fX11_wall
  refine j_aload_n (pc := 0) dX11_wall_0 rfl (q := 0) rfl ?_
  refine j_getr (pc := 1) jv1_0 jm_01 kf_RX11_24 0 kg1_0_1 rfl dX11_wall_1 ?_
  refine j_iload_n (pc := 4) dX11_wall_4 rfl (q := 1) rfl ?_
  refine j_callVi1 (pc := 5) (ct_X2_has M l1 hl1) kg_619 km_X2_has kv_X2_has rfl rfl ⟨(Nat.le_of_ble_eq_true rfl), (Nat.le_of_ble_eq_true rfl)⟩ jv1_2 jm_01 ko1_2 rfl rfl (Nat.le_of_ble_eq_true rfl) dX11_wall_5 (fun v1 M2 h3 => ?_)
  refine j_if_eq (tgt := 15) (pc := 8) h3 dX11_wall_8 (by decide) (fun c4 => ?_) (fun c4 => ?_)
  · skip
    refine j_iconst (pc := 15) dX11_wall_15 ?_
    exact j_iret (pc := 16) (jm_inL (by decide) (by decide)) rfl dX11_wall_16
  · skip
    refine j_iload_n (pc := 11) dX11_wall_11 rfl (q := 2) rfl ?_
    refine j_if_ge (tgt := 17) (pc := 12) hl2 dX11_wall_12 (by decide) (fun c5 => ?_) (fun c5 => ?_)
    · skip
      refine j_aload_n (pc := 17) dX11_wall_17 rfl (q := 0) rfl ?_
      refine j_getr (pc := 18) jv1_0 jm_01 kf_RX11_24 0 kg1_0_1 rfl dX11_wall_18 ?_
      refine j_callVv0 (pc := 21) (ct_X2_reckon fu M2 ) kg_857 km_X2_reckon kv_X2_reckon rfl rfl ⟨(Nat.le_of_ble_eq_true rfl), (Nat.le_of_ble_eq_true rfl)⟩ jv1_2 jm_01 ko1_2 rfl rfl (Nat.le_of_ble_eq_true rfl) dX11_wall_21 (fun v6 M7 => ?_)
      refine j_aload_n (pc := 24) dX11_wall_24 rfl (q := 0) rfl ?_
      refine j_getr (pc := 25) jv1_0 jm_01 kf_RX11_24 0 kg1_0_1 rfl dX11_wall_25 ?_
      refine j_iload_n (pc := 28) dX11_wall_28 rfl (q := 1) rfl ?_
      refine j_iload_n (pc := 29) dX11_wall_29 rfl (q := 2) rfl ?_
      refine j_callVi2 (pc := 30) (ct_X2_endedByWall fu M7 l1 l2 hl1 hl2) kg_1240 km_X2_endedByWall kv_X2_endedByWall rfl rfl ⟨(Nat.le_of_ble_eq_true rfl), (Nat.le_of_ble_eq_true rfl)⟩ jv1_2 jm_01 ko1_2 rfl rfl (Nat.le_of_ble_eq_true rfl) dX11_wall_30 (fun v8 M9 h10 => ?_)
      refine j_istore_n (pc := 33) [(3, jm_i v8), (0, jm_vr wd1 X 0 0), (1, jm_i l1), (2, jm_i l2)] dX11_wall_33 rfl (by decide) rfl ?_
      refine j_aload_n (pc := 34) dX11_wall_34 rfl (q := 1) rfl ?_
      refine j_getr (pc := 35) jv1_0 jm_01 kf_RX11_24 0 kg1_0_1 rfl dX11_wall_35 ?_
      refine j_getr (pc := 38) jv1_2 jm_01 kf_RX11_230 0 kg1_2_3 rfl dX11_wall_38 ?_
      refine j_iload_n (pc := 41) dX11_wall_41 rfl (q := 2) rfl ?_
      refine j_aald (pc := 42) jv1_47 jm_01 (by decide) kr1_47 dX11_wall_42 (fun c11 => ?_)
      refine j_iload_n (pc := 43) dX11_wall_43 rfl (q := 0) rfl ?_
      refine j_iconst (pc := 44) dX11_wall_44 ?_
      refine j_isub (pc := 45) dX11_wall_45 ?_
      refine j_callVi1 (pc := 46) (ct_X6_timeOrStart M9 l1 (jm_w (v8 - 1)) (by omega) (jm_w_in _)) kg_1244 km_X6_timeOrStart kv_X6_timeOrStart rfl rfl ⟨(Nat.le_of_ble_eq_true rfl), (Nat.le_of_ble_eq_true rfl)⟩ jv1_9 (by omega) ko1_9 rfl rfl (Nat.le_of_ble_eq_true rfl) dX11_wall_46 (fun v12 M13 h14 => ?_)
      refine j_istore (pc := 49) [(4, jm_i v12), (3, jm_i v8), (0, jm_vr wd1 X 0 0), (1, jm_i l1), (2, jm_i l2)] dX11_wall_49 (by decide) rfl ?_
      refine j_iconst (pc := 51) dX11_wall_51 ?_
      refine j_istore (pc := 52) [(5, jm_i 0), (4, jm_i v12), (3, jm_i v8), (0, jm_vr wd1 X 0 0), (1, jm_i l1), (2, jm_i l2)] dX11_wall_52 (by decide) rfl ?_
      refine j_iconst (pc := 54) dX11_wall_54 ?_
      refine j_istore (pc := 55) [(6, jm_i 0), (5, jm_i 0), (4, jm_i v12), (3, jm_i v8), (0, jm_vr wd1 X 0 0), (1, jm_i l1), (2, jm_i l2)] dX11_wall_55 (by decide) rfl ?_
      refine j_sub (pc := 57) [(0, jm_vr wd1 X 0 0), (1, jm_i l1), (2, jm_i l2), (3, jm_i v8), (4, jm_i v12), (5, jm_i 0), (6, jm_i 0)] [4, 5, 6, 3, 2, 1, 0] rfl ?_
      exact bX11_wall_57 X fu  fu M13 l1 l2 v8 v12 0 0 hl1 hl2 h10 h14 (jm_inL (by decide) (by decide)) (jm_inL (by decide) (by decide))
    · skip
      refine j_iconst (pc := 15) dX11_wall_15 ?_
      exact j_iret (pc := 16) (jm_inL (by decide) (by decide)) rfl dX11_wall_16
abbrev rmX11_why : Room := { frames := 7, cells := 0, slots := 0, locals := 178 }
set_option maxHeartbeats 4000000 in
set_option maxRecDepth 100000 in
theorem ct_X11_why (fu : Nat) (M : jm_M) (l1 l2 : Int) (hl1 : jm_in l1) (hl2 : jm_in l2) : jm_Ci wd1 yX11_why cX11_why 3 (some .int) rmX11_why M (fun G ad => [.ref (ad (jm_r wd1 0 0)), jm_i l1, jm_i l2]) (fX11_why fu M l1 l2) := by
  refine jm_met_i (fun X => [(0, jm_vr wd1 X 0 0), (1, jm_i l1), (2, jm_i l2)]) (by decide) (fun _ _ => (Nat.le_of_ble_eq_true rfl)) (fun _ => rfl) (fun X => ?_)
  unfold fX11_why
  refine j_aload_n (pc := 0) dX11_why_0 rfl (q := 0) rfl ?_
  refine j_getr (pc := 1) jv1_0 jm_01 kf_RX11_24 0 kg1_0_1 rfl dX11_why_1 ?_
  refine j_iload_n (pc := 4) dX11_why_4 rfl (q := 1) rfl ?_
  refine j_callVi1 (pc := 5) (ct_X2_has M l1 hl1) kg_619 km_X2_has kv_X2_has rfl rfl ⟨(Nat.le_of_ble_eq_true rfl), (Nat.le_of_ble_eq_true rfl)⟩ jv1_2 jm_01 ko1_2 rfl rfl (Nat.le_of_ble_eq_true rfl) dX11_why_5 (fun v1 M2 h3 => ?_)
  refine j_if_eq (tgt := 25) (pc := 8) h3 dX11_why_8 (by decide) (fun c4 => ?_) (fun c4 => ?_)
  · skip
    refine j_iconst (pc := 25) dX11_why_25 ?_
    exact j_iret (pc := 26) (jm_inL (by decide) (by decide)) rfl dX11_why_26
  · skip
    refine j_iload_n (pc := 11) dX11_why_11 rfl (q := 2) rfl ?_
    refine j_aload_n (pc := 12) dX11_why_12 rfl (q := 0) rfl ?_
    refine j_getr (pc := 13) jv1_0 jm_01 kf_RX11_15 0 kg1_0_0 rfl dX11_why_13 ?_
    refine j_geti (pc := 16) jv1_1 jm_01 kf_RX11_185 kg1_1_1 dX11_why_16 (fun h5 => ?_)
    refine j_callSi2 (pc := 19) (ct_X11_isIndex M2 l2 (M2 1 0 1) hl2 h5) kg_572 km_X11_isIndex kg_562 rfl rfl ⟨(Nat.le_of_ble_eq_true rfl), (Nat.le_of_ble_eq_true rfl)⟩ rfl rfl (Nat.le_of_ble_eq_true rfl) dX11_why_19 (fun v6 M7 h8 => ?_)
    refine j_if_ne (tgt := 27) (pc := 22) h8 dX11_why_22 (by decide) (fun c9 => ?_) (fun c9 => ?_)
    · skip
      refine j_iconst (pc := 25) dX11_why_25 ?_
      exact j_iret (pc := 26) (jm_inL (by decide) (by decide)) rfl dX11_why_26
    · skip
      refine j_aload_n (pc := 27) dX11_why_27 rfl (q := 0) rfl ?_
      refine j_getr (pc := 28) jv1_0 jm_01 kf_RX11_24 0 kg1_0_1 rfl dX11_why_28 ?_
      refine j_callVv0 (pc := 31) (ct_X2_reckon fu M7 ) kg_857 km_X2_reckon kv_X2_reckon rfl rfl ⟨(Nat.le_of_ble_eq_true rfl), (Nat.le_of_ble_eq_true rfl)⟩ jv1_2 jm_01 ko1_2 rfl rfl (Nat.le_of_ble_eq_true rfl) dX11_why_31 (fun v10 M11 => ?_)
      refine j_aload_n (pc := 34) dX11_why_34 rfl (q := 0) rfl ?_
      refine j_getr (pc := 35) jv1_0 jm_01 kf_RX11_24 0 kg1_0_1 rfl dX11_why_35 ?_
      refine j_getr (pc := 38) jv1_2 jm_01 kf_RX11_230 0 kg1_2_3 rfl dX11_why_38 ?_
      refine j_iload_n (pc := 41) dX11_why_41 rfl (q := 1) rfl ?_
      refine j_aald (pc := 42) jv1_47 jm_01 (by decide) kr1_47 dX11_why_42 (fun c12 => ?_)
      refine j_getr (pc := 43) jv1_9 (by omega) kf_RX11_333 l1 kg1_9_17 rfl dX11_why_43 ?_
      refine j_iload_n (pc := 46) dX11_why_46 rfl (q := 2) rfl ?_
      refine j_iald (pc := 47) jv1_31 (by omega) rfl (by decide) ka1_31 dX11_why_47 (fun c13 h14 => ?_)
      exact j_iret (pc := 48) h14 rfl dX11_why_48
abbrev rmX11_row : Room := { frames := 6, cells := 1, slots := 6, locals := 81 }
set_option maxHeartbeats 4000000 in
set_option maxRecDepth 100000 in
theorem ct_X11_row (M : jm_M) (l1 : Int) (hl1 : jm_in l1) : jm_Cx wd1 yX11_row cX11_row 2 (some .int) rmX11_row M (fun G ad => [.ref (ad (jm_r wd1 0 0)), jm_i l1]) (fX11_row M l1) := by
  refine jm_met_x (fun X => [(0, jm_vr wd1 X 0 0), (1, jm_i l1)]) (by decide) (fun _ _ => (Nat.le_of_ble_eq_true rfl)) (fun _ => rfl) (fun X => ?_)
  unfold fX11_row
  refine j_iload_n (pc := 0) dX11_row_0 rfl (q := 1) rfl ?_
  refine j_aload_n (pc := 1) dX11_row_1 rfl (q := 0) rfl ?_
  refine j_geti (pc := 2) jv1_0 jm_01 kf_RX11_215 kg1_0_9 dX11_row_2 (fun h1 => ?_)
  refine j_callSi2 (pc := 5) (ct_X11_isIndex M l1 (M 0 0 9) hl1 h1) kg_572 km_X11_isIndex kg_562 rfl rfl ⟨(Nat.le_of_ble_eq_true rfl), (Nat.le_of_ble_eq_true rfl)⟩ rfl rfl (Nat.le_of_ble_eq_true rfl) dX11_row_5 (fun v2 M3 h4 => ?_)
  refine j_if_eq (tgt := 17) (pc := 8) h4 dX11_row_8 (by decide) (fun c5 => ?_) (fun c5 => ?_)
  · skip
    exact j_throw (pc := 17) dX11_row_17 dX11_row_20 dX11_row_21 dX11_row_24
  · skip
    refine j_iload_n (pc := 11) dX11_row_11 rfl (q := 1) rfl ?_
    refine j_bipush (pc := 12) 6 dX11_row_12 (by decide) ?_
    refine j_icmp_lt (tgt := 25) (pc := 14) hl1 (jm_inL (by decide) (by decide)) dX11_row_14 (by decide) (fun c6 => ?_) (fun c6 => ?_)
    · skip
      refine j_aload_n (pc := 25) dX11_row_25 rfl (q := 0) rfl ?_
      refine j_getr (pc := 26) jv1_0 jm_01 kf_RX11_66 0 kg1_0_8 rfl dX11_row_26 ?_
      refine j_iload_n (pc := 29) dX11_row_29 rfl (q := 1) rfl ?_
      refine j_iald (pc := 30) jv1_13 jm_01 rfl (by decide) ka1_13 dX11_row_30 (fun c7 h8 => ?_)
      exact j_ixret (pc := 31) h8 dX11_row_31
    · skip
      exact j_throw (pc := 17) dX11_row_17 dX11_row_20 dX11_row_21 dX11_row_24
abbrev rmX12_in : Room := { frames := 0, cells := 0, slots := 0, locals := 0 }
set_option maxHeartbeats 4000000 in
set_option maxRecDepth 100000 in
theorem ct_X12_in (M : jm_M) (l0 l2 l4 : Int) (hl0 : jm_in l0) (hl2 : jm_in l2) (hl4 : jm_in l4) : jm_Ci wd2 yX12_in cX12_in 6 (some .boolean) rmX12_in M (fun G ad => [jm_l l0, jm_l l2, jm_l l4]) (fX12_in M l0 l2 l4) := by
  refine jm_met_i (fun X => [(0, jm_l l0), (2, jm_l l2), (4, jm_l l4)]) (by decide) (fun _ _ => (Nat.le_of_ble_eq_true rfl)) (fun _ => rfl) (fun X => ?_)
  unfold fX12_in
  refine j_lload_n (pc := 0) dX12_in_0 rfl (q := 0) rfl ?_
  refine j_lload_n (pc := 1) dX12_in_1 rfl (q := 1) rfl ?_
  refine j_lcmp_lt (tgt := 17) (pc := 2) hl0 hl2 dX12_in_2 dX12_in_3 (by decide) (fun c1 => ?_) (fun c1 => ?_)
  · skip
    refine j_iconst (pc := 17) dX12_in_17 ?_
    exact j_iret (pc := 18) (jm_inL (by decide) (by decide)) rfl dX12_in_18
  · skip
    refine j_lload_n (pc := 6) dX12_in_6 rfl (q := 0) rfl ?_
    refine j_lload (pc := 7) dX12_in_7 (q := 2) rfl ?_
    refine j_lcmp_gt (tgt := 17) (pc := 9) hl0 hl4 dX12_in_9 dX12_in_10 (by decide) (fun c2 => ?_) (fun c2 => ?_)
    · skip
      refine j_iconst (pc := 17) dX12_in_17 ?_
      exact j_iret (pc := 18) (jm_inL (by decide) (by decide)) rfl dX12_in_18
    · skip
      refine j_iconst (pc := 13) dX12_in_13 ?_
      refine j_goto (tgt := 18) (pc := 14) dX12_in_14 (by decide) ?_
      exact j_iret (pc := 18) (jm_inL (by decide) (by decide)) rfl dX12_in_18
abbrev rmX12_lays : Room := { frames := 0, cells := 0, slots := 0, locals := 0 }
set_option maxHeartbeats 4000000 in
set_option maxRecDepth 100000 in
theorem b0X12_lays_75 (X : jm_X) (fu : Nat) (k75 : jm_M → Int → jm_R) (hk75 : ∀ (M : jm_M) (l3 : Int) (hl3 : jm_in l3), jm_J wd2 jm_qv cX12_lays 4 RX12 rmX12_lays X M [(0, jm_vr wd2 X 0 0), (3, jm_i l3)] [] 75 (k75 M l3)) : ∀ (M : jm_M) (l3 : Int) (hl3 : jm_in l3), jm_J wd2 jm_qv cX12_lays 4 RX12 rmX12_lays X M [(0, jm_vr wd2 X 0 0), (3, jm_i l3)] [] 75 (gX12_lays_75 fu k75 M l3) := by
  intro M l3 hl3
  unfold gX12_lays_75
  refine j_iload_n (pc := 75) dX12_lays_75 rfl (q := 1) rfl ?_
  refine j_bipush (pc := 76) 6 dX12_lays_76 (by decide) ?_
  refine j_icmp_ge (tgt := 94) (pc := 78) hl3 (jm_inL (by decide) (by decide)) dX12_lays_78 (by decide) (fun c1 => ?_) (fun c1 => ?_)
  · skip
    exact j_vret (pc := 94) dX12_lays_94
  · skip
    refine j_aload_n (pc := 81) dX12_lays_81 rfl (q := 0) rfl ?_
    refine j_getr (pc := 82) jv2_0 jm_01 kf_RX12_39 0 kg2_0_36 rfl dX12_lays_82 ?_
    refine j_iload_n (pc := 85) dX12_lays_85 rfl (q := 1) rfl ?_
    refine j_iconst (pc := 86) dX12_lays_86 ?_
    refine j_iast (pc := 87) jv2_31 jm_01 rfl (by decide) wI2 ka2_31 (jm_inL (by decide) (by decide)) dX12_lays_87 (fun c2 M3 => ?_)
    refine j_iinc (pc := 88) [(0, jm_vr wd2 X 0 0)] (q := 1) dX12_lays_88 rfl (by decide) (fun _ => rfl) (fun v4 h5 => ?_)
    refine j_goto (tgt := 75) (pc := 91) dX12_lays_91 (by decide) ?_
    refine j_sub (pc := 75) [(0, jm_vr wd2 X 0 0), (3, jm_i v4)] [1, 0] rfl ?_
    exact hk75 M3 v4 h5
theorem bX12_lays_75 (X : jm_X) (fu : Nat) : ∀ (n : Nat) (M : jm_M) (l3 : Int) (hl3 : jm_in l3), jm_J wd2 jm_qv cX12_lays 4 RX12 rmX12_lays X M [(0, jm_vr wd2 X 0 0), (3, jm_i l3)] [] 75 (fX12_lays_75 fu n M l3) := by
  intro n
  induction n with
  | zero => intro M l3 hl3; exact j_none
  | succ n ih => intro M l3 hl3; exact b0X12_lays_75 X fu (fX12_lays_75 fu n) ih M l3 hl3
set_option maxHeartbeats 4000000 in
set_option maxRecDepth 100000 in
theorem b0X12_lays_12 (X : jm_X) (fu : Nat) (k12 : jm_M → Int → jm_R) (hk12 : ∀ (M : jm_M) (l3 : Int) (hl3 : jm_in l3), jm_J wd2 jm_qv cX12_lays 4 RX12 rmX12_lays X M [(0, jm_vr wd2 X 0 0), (3, jm_i l3)] [] 12 (k12 M l3)) : ∀ (M : jm_M) (l3 : Int) (hl3 : jm_in l3), jm_J wd2 jm_qv cX12_lays 4 RX12 rmX12_lays X M [(0, jm_vr wd2 X 0 0), (3, jm_i l3)] [] 12 (gX12_lays_12 fu k12 M l3) := by
  intro M l3 hl3
  unfold gX12_lays_12
  refine j_iload_n (pc := 12) dX12_lays_12 rfl (q := 1) rfl ?_
  refine j_iconst (pc := 13) dX12_lays_13 ?_
  refine j_icmp_ge (tgt := 48) (pc := 14) hl3 (jm_inL (by decide) (by decide)) dX12_lays_14 (by decide) (fun c1 => ?_) (fun c1 => ?_)
  · skip
    refine j_aload_n (pc := 48) dX12_lays_48 rfl (q := 0) rfl ?_
    refine j_iconst (pc := 49) dX12_lays_49 ?_
    refine j_put (pc := 50) jv2_0 jm_01 kf_RX12_24 wI2 kp_X12_8 kx2_0_8 (jm_inL (by decide) (by decide)) rfl rfl dX12_lays_50 (fun M2 => ?_)
    refine j_aload_n (pc := 53) dX12_lays_53 rfl (q := 0) rfl ?_
    refine j_iconst (pc := 54) dX12_lays_54 ?_
    refine j_put (pc := 55) jv2_0 jm_01 kf_RX12_27 wI2 kp_X12_12 kx2_0_12 (jm_inL (by decide) (by decide)) rfl rfl dX12_lays_55 (fun M3 => ?_)
    refine j_aload_n (pc := 58) dX12_lays_58 rfl (q := 0) rfl ?_
    refine j_iconst (pc := 59) dX12_lays_59 ?_
    refine j_put (pc := 60) jv2_0 jm_01 kf_RX12_30 wI2 kp_X12_17 kx2_0_17 (jm_inL (by decide) (by decide)) rfl rfl dX12_lays_60 (fun M4 => ?_)
    refine j_aload_n (pc := 63) dX12_lays_63 rfl (q := 0) rfl ?_
    refine j_iconst (pc := 64) dX12_lays_64 ?_
    refine j_put (pc := 65) jv2_0 jm_01 kf_RX12_33 wI2 kp_X12_72 kx2_0_72 (jm_inL (by decide) (by decide)) rfl rfl dX12_lays_65 (fun M5 => ?_)
    refine j_aload_n (pc := 68) dX12_lays_68 rfl (q := 0) rfl ?_
    refine j_iconst (pc := 69) dX12_lays_69 ?_
    refine j_put (pc := 70) jv2_0 jm_01 kf_RX12_36 wI2 kp_X12_75 kx2_0_75 (jm_inL (by decide) (by decide)) rfl rfl dX12_lays_70 (fun M6 => ?_)
    refine j_iconst (pc := 73) dX12_lays_73 ?_
    refine j_istore_n (pc := 74) [(3, jm_i 0), (0, jm_vr wd2 X 0 0)] dX12_lays_74 rfl (by decide) rfl ?_
    refine j_sub (pc := 75) [(0, jm_vr wd2 X 0 0), (3, jm_i 0)] [1, 0] rfl ?_
    exact bX12_lays_75 X fu  fu M6 0 (jm_inL (by decide) (by decide))
  · skip
    refine j_aload_n (pc := 17) dX12_lays_17 rfl (q := 0) rfl ?_
    refine j_getr (pc := 18) jv2_0 jm_01 kf_RX12_13 0 kg2_0_3 rfl dX12_lays_18 ?_
    refine j_iload_n (pc := 21) dX12_lays_21 rfl (q := 1) rfl ?_
    refine j_sipush (pc := 22) 20000 dX12_lays_22 (by decide) ?_
    refine j_iast (pc := 25) jv2_1 jm_01 rfl (by decide) wI2 ka2_1 (jm_inL (by decide) (by decide)) dX12_lays_25 (fun c7 M8 => ?_)
    refine j_aload_n (pc := 26) dX12_lays_26 rfl (q := 0) rfl ?_
    refine j_getr (pc := 27) jv2_0 jm_01 kf_RX12_17 0 kg2_0_4 rfl dX12_lays_27 ?_
    refine j_iload_n (pc := 30) dX12_lays_30 rfl (q := 1) rfl ?_
    refine j_sipush (pc := 31) 300 dX12_lays_31 (by decide) ?_
    refine j_iast (pc := 34) jv2_2 jm_01 rfl (by decide) wI2 ka2_2 (jm_inL (by decide) (by decide)) dX12_lays_34 (fun c9 M10 => ?_)
    refine j_aload_n (pc := 35) dX12_lays_35 rfl (q := 0) rfl ?_
    refine j_getr (pc := 36) jv2_0 jm_01 kf_RX12_20 0 kg2_0_5 rfl dX12_lays_36 ?_
    refine j_iload_n (pc := 39) dX12_lays_39 rfl (q := 1) rfl ?_
    refine j_iconst (pc := 40) dX12_lays_40 ?_
    refine j_bast (pc := 41) jv2_3 jm_01 rfl (by decide) wI2 ka2_3 (jm_inL (by decide) (by decide)) dX12_lays_41 (fun c11 c13 M12 => ?_)
    refine j_iinc (pc := 42) [(0, jm_vr wd2 X 0 0)] (q := 1) dX12_lays_42 rfl (by decide) (fun _ => rfl) (fun v14 h15 => ?_)
    refine j_goto (tgt := 12) (pc := 45) dX12_lays_45 (by decide) ?_
    refine j_sub (pc := 12) [(0, jm_vr wd2 X 0 0), (3, jm_i v14)] [1, 0] rfl ?_
    exact hk12 M12 v14 h15
theorem bX12_lays_12 (X : jm_X) (fu : Nat) : ∀ (n : Nat) (M : jm_M) (l3 : Int) (hl3 : jm_in l3), jm_J wd2 jm_qv cX12_lays 4 RX12 rmX12_lays X M [(0, jm_vr wd2 X 0 0), (3, jm_i l3)] [] 12 (fX12_lays_12 fu n M l3) := by
  intro n
  induction n with
  | zero => intro M l3 hl3; exact j_none
  | succ n ih => intro M l3 hl3; exact b0X12_lays_12 X fu (fX12_lays_12 fu n) ih M l3 hl3
set_option maxHeartbeats 4000000 in
set_option maxRecDepth 100000 in
theorem ct_X12_lays (fu : Nat) (M : jm_M) (l1 l2 : Int) (hl1 : jm_in l1) (hl2 : jm_in l2) : jm_Cv wd2 yX12_lays cX12_lays 4 none rmX12_lays M (fun G ad => [.ref (ad (jm_r wd2 0 0)), jm_i l1, jm_i l2]) (fX12_lays fu M l1 l2) := by
  refine jm_met_v (fun X => [(0, jm_vr wd2 X 0 0), (1, jm_i l1), (2, jm_i l2)]) (by decide) (fun _ _ => (Nat.le_of_ble_eq_true rfl)) (fun _ => rfl) (fun X => ?_)
  unfold fX12_lays
  refine j_aload_n (pc := 0) dX12_lays_0 rfl (q := 0) rfl ?_
  refine j_iload_n (pc := 1) dX12_lays_1 rfl (q := 1) rfl ?_
  refine j_put (pc := 2) jv2_0 jm_01 kf_RX12_7 wI2 kp_X12_1 kx2_0_1 hl1 rfl rfl dX12_lays_2 (fun M1 => ?_)
  refine j_aload_n (pc := 5) dX12_lays_5 rfl (q := 0) rfl ?_
  refine j_iload_n (pc := 6) dX12_lays_6 rfl (q := 2) rfl ?_
  refine j_put (pc := 7) jv2_0 jm_01 kf_RX12_10 wI2 kp_X12_2 kx2_0_2 hl2 rfl rfl dX12_lays_7 (fun M2 => ?_)
  refine j_iconst (pc := 10) dX12_lays_10 ?_
  refine j_istore_n (pc := 11) [(3, jm_i 0), (0, jm_vr wd2 X 0 0), (1, jm_i l1), (2, jm_i l2)] dX12_lays_11 rfl (by decide) rfl ?_
  refine j_sub (pc := 12) [(0, jm_vr wd2 X 0 0), (3, jm_i 0)] [1, 0] rfl ?_
  exact bX12_lays_12 X fu  fu M2 0 (jm_inL (by decide) (by decide))
abbrev rmX12_track : Room := { frames := 1, cells := 0, slots := 0, locals := 25 }
set_option maxHeartbeats 4000000 in
set_option maxRecDepth 100000 in
theorem ct_X12_track (fu : Nat) (M : jm_M) (l1 l2 : Int) (hl1 : jm_in l1) (hl2 : jm_in l2) : jm_Ci wd2 yX12_track cX12_track 3 (some .boolean) rmX12_track M (fun G ad => [.ref (ad (jm_r wd2 0 0)), jm_i l1, jm_i l2]) (fX12_track fu M l1 l2) := by
  refine jm_met_i (fun X => [(0, jm_vr wd2 X 0 0), (1, jm_i l1), (2, jm_i l2)]) (by decide) (fun _ _ => (Nat.le_of_ble_eq_true rfl)) (fun _ => rfl) (fun X => ?_)
  unfold fX12_track
  refine j_aload_n (pc := 0) dX12_track_0 rfl (q := 0) rfl ?_
  refine j_iconst (pc := 1) dX12_track_1 ?_
  refine j_put (pc := 2) jv2_0 jm_01 kf_RX12_3 wI2 kp_X12_0 kx2_0_0 (jm_inL (by decide) (by decide)) rfl rfl dX12_track_2 (fun M1 => ?_)
  refine j_iload_n (pc := 5) dX12_track_5 rfl (q := 1) rfl ?_
  refine j_i2l (pc := 6) hl1 dX12_track_6 ?_
  refine j_ldc2 (pc := 7) 2 kg_1345 (by decide) dX12_track_7 ?_
  refine j_ldc2 (pc := 10) 5 kg_1346 (by decide) dX12_track_10 ?_
  refine j_callSi3 (pc := 13) (ct_X12_in M1 l1 2 5 hl1 (jm_inL (by decide) (by decide)) (jm_inL (by decide) (by decide))) kg_1347 km_X12_in kg_1348 rfl rfl ⟨(Nat.le_of_ble_eq_true rfl), (Nat.le_of_ble_eq_true rfl)⟩ rfl rfl (Nat.le_of_ble_eq_true rfl) dX12_track_13 (fun v2 M3 h4 => ?_)
  refine j_if_eq (tgt := 31) (pc := 16) h4 dX12_track_16 (by decide) (fun c5 => ?_) (fun c5 => ?_)
  · skip
    refine j_iconst (pc := 31) dX12_track_31 ?_
    exact j_iret (pc := 32) (jm_inL (by decide) (by decide)) rfl dX12_track_32
  · skip
    refine j_iload_n (pc := 19) dX12_track_19 rfl (q := 2) rfl ?_
    refine j_i2l (pc := 20) hl2 dX12_track_20 ?_
    refine j_lconst (pc := 21) 1 dX12_track_21 rfl ?_
    refine j_ldc2 (pc := 22) 12 kg_1350 (by decide) dX12_track_22 ?_
    refine j_callSi3 (pc := 25) (ct_X12_in M3 l2 1 12 hl2 (jm_inL (by decide) (by decide)) (jm_inL (by decide) (by decide))) kg_1347 km_X12_in kg_1348 rfl rfl ⟨(Nat.le_of_ble_eq_true rfl), (Nat.le_of_ble_eq_true rfl)⟩ rfl rfl (Nat.le_of_ble_eq_true rfl) dX12_track_25 (fun v6 M7 h8 => ?_)
    refine j_if_ne (tgt := 33) (pc := 28) h8 dX12_track_28 (by decide) (fun c9 => ?_) (fun c9 => ?_)
    · skip
      refine j_iconst (pc := 31) dX12_track_31 ?_
      exact j_iret (pc := 32) (jm_inL (by decide) (by decide)) rfl dX12_track_32
    · skip
      refine j_aload_n (pc := 33) dX12_track_33 rfl (q := 0) rfl ?_
      refine j_iload_n (pc := 34) dX12_track_34 rfl (q := 1) rfl ?_
      refine j_iload_n (pc := 35) dX12_track_35 rfl (q := 2) rfl ?_
      refine j_callVv2 (pc := 36) (ct_X12_lays fu M7 l1 l2 hl1 hl2) kg_1351 km_X12_lays kv_X12_lays rfl rfl ⟨(Nat.le_of_ble_eq_true rfl), (Nat.le_of_ble_eq_true rfl)⟩ jv2_0 jm_01 ko2_0 rfl rfl (Nat.le_of_ble_eq_true rfl) dX12_track_36 (fun v10 M11 => ?_)
      refine j_iconst (pc := 39) dX12_track_39 ?_
      exact j_iret (pc := 40) (jm_inL (by decide) (by decide)) rfl dX12_track_40
abbrev rmX12_isSector : Room := { frames := 1, cells := 0, slots := 0, locals := 25 }
set_option maxHeartbeats 4000000 in
set_option maxRecDepth 100000 in
theorem ct_X12_isSector (M : jm_M) (l1 : Int) (hl1 : jm_in l1) : jm_Ci wd2 yX12_isSector cX12_isSector 2 (some .boolean) rmX12_isSector M (fun G ad => [.ref (ad (jm_r wd2 0 0)), jm_i l1]) (fX12_isSector M l1) := by
  refine jm_met_i (fun X => [(0, jm_vr wd2 X 0 0), (1, jm_i l1)]) (by decide) (fun _ _ => (Nat.le_of_ble_eq_true rfl)) (fun _ => rfl) (fun X => ?_)
  unfold fX12_isSector
  refine j_iload_n (pc := 0) dX12_isSector_0 rfl (q := 1) rfl ?_
  refine j_i2l (pc := 1) hl1 dX12_isSector_1 ?_
  refine j_lconst (pc := 2) 0 dX12_isSector_2 rfl ?_
  refine j_aload_n (pc := 3) dX12_isSector_3 rfl (q := 0) rfl ?_
  refine j_geti (pc := 4) jv2_0 jm_01 kf_RX12_7 kg2_0_1 dX12_isSector_4 (fun h1 => ?_)
  refine j_iconst (pc := 7) dX12_isSector_7 ?_
  refine j_isub (pc := 8) dX12_isSector_8 ?_
  refine j_i2l (pc := 9) (jm_w_in _) dX12_isSector_9 ?_
  refine j_callSi3 (pc := 10) (ct_X12_in M l1 0 (jm_w ((M 0 0 1) - 1)) hl1 (jm_inL (by decide) (by decide)) (jm_w_in _)) kg_1347 km_X12_in kg_1348 rfl rfl ⟨(Nat.le_of_ble_eq_true rfl), (Nat.le_of_ble_eq_true rfl)⟩ rfl rfl (Nat.le_of_ble_eq_true rfl) dX12_isSector_10 (fun v2 M3 h4 => ?_)
  exact j_zret (pc := 13) h4 dX12_isSector_13
abbrev rmX12_sector : Room := { frames := 2, cells := 0, slots := 0, locals := 46 }
set_option maxHeartbeats 4000000 in
set_option maxRecDepth 100000 in
theorem ct_X12_sector (M : jm_M) (l1 l2 l3 : Int) (hl1 : jm_in l1) (hl2 : jm_in l2) (hl3 : jm_in l3) : jm_Ci wd2 yX12_sector cX12_sector 4 (some .boolean) rmX12_sector M (fun G ad => [.ref (ad (jm_r wd2 0 0)), jm_i l1, jm_i l2, jm_i l3]) (fX12_sector M l1 l2 l3) := by
  refine jm_met_i (fun X => [(0, jm_vr wd2 X 0 0), (1, jm_i l1), (2, jm_i l2), (3, jm_i l3)]) (by decide) (fun _ _ => (Nat.le_of_ble_eq_true rfl)) (fun _ => rfl) (fun X => ?_)
  unfold fX12_sector
  refine j_aload_n (pc := 0) dX12_sector_0 rfl (q := 0) rfl ?_
  refine j_iconst (pc := 1) dX12_sector_1 ?_
  refine j_put (pc := 2) jv2_0 jm_01 kf_RX12_3 wI2 kp_X12_0 kx2_0_0 (jm_inL (by decide) (by decide)) rfl rfl dX12_sector_2 (fun M1 => ?_)
  refine j_aload_n (pc := 5) dX12_sector_5 rfl (q := 0) rfl ?_
  refine j_iload_n (pc := 6) dX12_sector_6 rfl (q := 1) rfl ?_
  refine j_callVi1 (pc := 7) (ct_X12_isSector M1 l1 hl1) kg_1360 km_X12_isSector kv_X12_isSector rfl rfl ⟨(Nat.le_of_ble_eq_true rfl), (Nat.le_of_ble_eq_true rfl)⟩ jv2_0 jm_01 ko2_0 rfl rfl (Nat.le_of_ble_eq_true rfl) dX12_sector_7 (fun v2 M3 h4 => ?_)
  refine j_if_eq (tgt := 41) (pc := 10) h4 dX12_sector_10 (by decide) (fun c5 => ?_) (fun c5 => ?_)
  · skip
    refine j_iconst (pc := 41) dX12_sector_41 ?_
    exact j_iret (pc := 42) (jm_inL (by decide) (by decide)) rfl dX12_sector_42
  · skip
    refine j_iload_n (pc := 13) dX12_sector_13 rfl (q := 2) rfl ?_
    refine j_i2l (pc := 14) hl2 dX12_sector_14 ?_
    refine j_ldc2 (pc := 15) 5000 kg_1364 (by decide) dX12_sector_15 ?_
    refine j_ldc2 (pc := 18) 60000 kg_1365 (by decide) dX12_sector_18 ?_
    refine j_callSi3 (pc := 21) (ct_X12_in M3 l2 5000 60000 hl2 (jm_inL (by decide) (by decide)) (jm_inL (by decide) (by decide))) kg_1347 km_X12_in kg_1348 rfl rfl ⟨(Nat.le_of_ble_eq_true rfl), (Nat.le_of_ble_eq_true rfl)⟩ rfl rfl (Nat.le_of_ble_eq_true rfl) dX12_sector_21 (fun v6 M7 h8 => ?_)
    refine j_if_eq (tgt := 41) (pc := 24) h8 dX12_sector_24 (by decide) (fun c9 => ?_) (fun c9 => ?_)
    · skip
      refine j_iconst (pc := 41) dX12_sector_41 ?_
      exact j_iret (pc := 42) (jm_inL (by decide) (by decide)) rfl dX12_sector_42
    · skip
      refine j_iload_n (pc := 27) dX12_sector_27 rfl (q := 3) rfl ?_
      refine j_i2l (pc := 28) hl3 dX12_sector_28 ?_
      refine j_ldc2 (pc := 29) (-1) kg_1366 (by decide) dX12_sector_29 ?_
      refine j_ldc2 (pc := 32) 5000 kg_1364 (by decide) dX12_sector_32 ?_
      refine j_callSi3 (pc := 35) (ct_X12_in M7 l3 (-1) 5000 hl3 (jm_inL (by decide) (by decide)) (jm_inL (by decide) (by decide))) kg_1347 km_X12_in kg_1348 rfl rfl ⟨(Nat.le_of_ble_eq_true rfl), (Nat.le_of_ble_eq_true rfl)⟩ rfl rfl (Nat.le_of_ble_eq_true rfl) dX12_sector_35 (fun v10 M11 h12 => ?_)
      refine j_if_ne (tgt := 43) (pc := 38) h12 dX12_sector_38 (by decide) (fun c13 => ?_) (fun c13 => ?_)
      · skip
        refine j_iconst (pc := 41) dX12_sector_41 ?_
        exact j_iret (pc := 42) (jm_inL (by decide) (by decide)) rfl dX12_sector_42
      · skip
        refine j_aload_n (pc := 43) dX12_sector_43 rfl (q := 0) rfl ?_
        refine j_getr (pc := 44) jv2_0 jm_01 kf_RX12_13 0 kg2_0_3 rfl dX12_sector_44 ?_
        refine j_iload_n (pc := 47) dX12_sector_47 rfl (q := 1) rfl ?_
        refine j_iload_n (pc := 48) dX12_sector_48 rfl (q := 2) rfl ?_
        refine j_iast (pc := 49) jv2_1 jm_01 rfl (by decide) wI2 ka2_1 hl2 dX12_sector_49 (fun c14 M15 => ?_)
        refine j_aload_n (pc := 50) dX12_sector_50 rfl (q := 0) rfl ?_
        refine j_getr (pc := 51) jv2_0 jm_01 kf_RX12_17 0 kg2_0_4 rfl dX12_sector_51 ?_
        refine j_iload_n (pc := 54) dX12_sector_54 rfl (q := 1) rfl ?_
        refine j_iload_n (pc := 55) dX12_sector_55 rfl (q := 3) rfl ?_
        refine j_iast (pc := 56) jv2_2 jm_01 rfl (by decide) wI2 ka2_2 hl3 dX12_sector_56 (fun c16 M17 => ?_)
        refine j_iconst (pc := 57) dX12_sector_57 ?_
        exact j_iret (pc := 58) (jm_inL (by decide) (by decide)) rfl dX12_sector_58
abbrev rmX12_mostOfTyres : Room := { frames := 0, cells := 0, slots := 0, locals := 0 }
set_option maxHeartbeats 4000000 in
set_option maxRecDepth 100000 in
theorem ct_X12_mostOfTyres (M : jm_M) (l0 : Int) (hl0 : jm_in l0) : jm_Ci wd2 yX12_mostOfTyres cX12_mostOfTyres 1 (some .int) rmX12_mostOfTyres M (fun G ad => [jm_i l0]) (fX12_mostOfTyres M l0) := by
  refine jm_met_i (fun X => [(0, jm_i l0)]) (by decide) (fun _ _ => (Nat.le_of_ble_eq_true rfl)) (fun _ => rfl) (fun X => ?_)
  unfold fX12_mostOfTyres
  refine j_iload_n (pc := 0) dX12_mostOfTyres_0 rfl (q := 0) rfl ?_
  refine j_if_ne (tgt := 10) (pc := 1) hl0 dX12_mostOfTyres_1 (by decide) (fun c1 => ?_) (fun c1 => ?_)
  · skip
    refine j_sipush (pc := 4) 3000 dX12_mostOfTyres_4 (by decide) ?_
    refine j_goto (tgt := 34) (pc := 7) dX12_mostOfTyres_7 (by decide) ?_
    exact j_iret (pc := 34) (jm_inL (by decide) (by decide)) rfl dX12_mostOfTyres_34
  · skip
    refine j_iload_n (pc := 10) dX12_mostOfTyres_10 rfl (q := 0) rfl ?_
    refine j_iconst (pc := 11) dX12_mostOfTyres_11 ?_
    refine j_icmp_ne (tgt := 21) (pc := 12) hl0 (jm_inL (by decide) (by decide)) dX12_mostOfTyres_12 (by decide) (fun c2 => ?_) (fun c2 => ?_)
    · skip
      refine j_sipush (pc := 15) 200 dX12_mostOfTyres_15 (by decide) ?_
      refine j_goto (tgt := 34) (pc := 18) dX12_mostOfTyres_18 (by decide) ?_
      exact j_iret (pc := 34) (jm_inL (by decide) (by decide)) rfl dX12_mostOfTyres_34
    · skip
      refine j_iload_n (pc := 21) dX12_mostOfTyres_21 rfl (q := 0) rfl ?_
      refine j_iconst (pc := 22) dX12_mostOfTyres_22 ?_
      refine j_icmp_ne (tgt := 32) (pc := 23) hl0 (jm_inL (by decide) (by decide)) dX12_mostOfTyres_23 (by decide) (fun c3 => ?_) (fun c3 => ?_)
      · skip
        refine j_sipush (pc := 26) 5000 dX12_mostOfTyres_26 (by decide) ?_
        refine j_goto (tgt := 34) (pc := 29) dX12_mostOfTyres_29 (by decide) ?_
        exact j_iret (pc := 34) (jm_inL (by decide) (by decide)) rfl dX12_mostOfTyres_34
      · skip
        refine j_bipush (pc := 32) 100 dX12_mostOfTyres_32 (by decide) ?_
        exact j_iret (pc := 34) (jm_inL (by decide) (by decide)) rfl dX12_mostOfTyres_34
abbrev rmX12_tyres : Room := { frames := 1, cells := 0, slots := 0, locals := 25 }
set_option maxHeartbeats 4000000 in
set_option maxRecDepth 100000 in
theorem ct_X12_tyres (M : jm_M) (l1 l2 l3 : Int) (hl1 : jm_in l1) (hl2 : jm_in l2) (hl3 : jm_in l3) : jm_Ci wd2 yX12_tyres cX12_tyres 5 (some .int) rmX12_tyres M (fun G ad => [.ref (ad (jm_r wd2 0 0)), jm_i l1, jm_i l2, jm_i l3]) (fX12_tyres M l1 l2 l3) := by
  refine jm_met_i (fun X => [(0, jm_vr wd2 X 0 0), (1, jm_i l1), (2, jm_i l2), (3, jm_i l3)]) (by decide) (fun _ _ => (Nat.le_of_ble_eq_true rfl)) (fun _ => rfl) (fun X => ?_)
  unfold fX12_tyres
  refine j_aload_n (pc := 0) dX12_tyres_0 rfl (q := 0) rfl ?_
  refine j_iconst (pc := 1) dX12_tyres_1 ?_
  refine j_put (pc := 2) jv2_0 jm_01 kf_RX12_3 wI2 kp_X12_0 kx2_0_0 (jm_inL (by decide) (by decide)) rfl rfl dX12_tyres_2 (fun M1 => ?_)
  refine j_iload_n (pc := 5) dX12_tyres_5 rfl (q := 1) rfl ?_
  refine j_i2l (pc := 6) hl1 dX12_tyres_6 ?_
  refine j_lconst (pc := 7) 0 dX12_tyres_7 rfl ?_
  refine j_ldc2 (pc := 8) 3 kg_1371 (by decide) dX12_tyres_8 ?_
  refine j_callSi3 (pc := 11) (ct_X12_in M1 l1 0 3 hl1 (jm_inL (by decide) (by decide)) (jm_inL (by decide) (by decide))) kg_1347 km_X12_in kg_1348 rfl rfl ⟨(Nat.le_of_ble_eq_true rfl), (Nat.le_of_ble_eq_true rfl)⟩ rfl rfl (Nat.le_of_ble_eq_true rfl) dX12_tyres_11 (fun v2 M3 h4 => ?_)
  refine j_if_eq (tgt := 43) (pc := 14) h4 dX12_tyres_14 (by decide) (fun c5 => ?_) (fun c5 => ?_)
  · skip
    refine j_iconst (pc := 43) dX12_tyres_43 ?_
    exact j_iret (pc := 44) (jm_inL (by decide) (by decide)) rfl dX12_tyres_44
  · skip
    refine j_iload_n (pc := 17) dX12_tyres_17 rfl (q := 2) rfl ?_
    refine j_i2l (pc := 18) hl2 dX12_tyres_18 ?_
    refine j_lconst (pc := 19) 0 dX12_tyres_19 rfl ?_
    refine j_ldc2 (pc := 20) 5 kg_1346 (by decide) dX12_tyres_20 ?_
    refine j_callSi3 (pc := 23) (ct_X12_in M3 l2 0 5 hl2 (jm_inL (by decide) (by decide)) (jm_inL (by decide) (by decide))) kg_1347 km_X12_in kg_1348 rfl rfl ⟨(Nat.le_of_ble_eq_true rfl), (Nat.le_of_ble_eq_true rfl)⟩ rfl rfl (Nat.le_of_ble_eq_true rfl) dX12_tyres_23 (fun v6 M7 h8 => ?_)
    refine j_if_eq (tgt := 43) (pc := 26) h8 dX12_tyres_26 (by decide) (fun c9 => ?_) (fun c9 => ?_)
    · skip
      refine j_iconst (pc := 43) dX12_tyres_43 ?_
      exact j_iret (pc := 44) (jm_inL (by decide) (by decide)) rfl dX12_tyres_44
    · skip
      refine j_iload_n (pc := 29) dX12_tyres_29 rfl (q := 3) rfl ?_
      refine j_i2l (pc := 30) hl3 dX12_tyres_30 ?_
      refine j_lconst (pc := 31) 0 dX12_tyres_31 rfl ?_
      refine j_iload_n (pc := 32) dX12_tyres_32 rfl (q := 2) rfl ?_
      refine j_callSi1 (pc := 33) (ct_X12_mostOfTyres M7 l2 hl2) kg_1372 km_X12_mostOfTyres kg_1373 rfl rfl ⟨(Nat.le_of_ble_eq_true rfl), (Nat.le_of_ble_eq_true rfl)⟩ rfl rfl (Nat.le_of_ble_eq_true rfl) dX12_tyres_33 (fun v10 M11 h12 => ?_)
      refine j_i2l (pc := 36) h12 dX12_tyres_36 ?_
      refine j_callSi3 (pc := 37) (ct_X12_in M11 l3 0 v10 hl3 (jm_inL (by decide) (by decide)) h12) kg_1347 km_X12_in kg_1348 rfl rfl ⟨(Nat.le_of_ble_eq_true rfl), (Nat.le_of_ble_eq_true rfl)⟩ rfl rfl (Nat.le_of_ble_eq_true rfl) dX12_tyres_37 (fun v13 M14 h15 => ?_)
      refine j_if_ne (tgt := 45) (pc := 40) h15 dX12_tyres_40 (by decide) (fun c16 => ?_) (fun c16 => ?_)
      · skip
        refine j_iconst (pc := 43) dX12_tyres_43 ?_
        exact j_iret (pc := 44) (jm_inL (by decide) (by decide)) rfl dX12_tyres_44
      · skip
        refine j_aload_n (pc := 45) dX12_tyres_45 rfl (q := 0) rfl ?_
        refine j_getr (pc := 46) jv2_0 jm_01 kf_RX12_72 0 kg2_0_6 rfl dX12_tyres_46 ?_
        refine j_bipush (pc := 49) 6 dX12_tyres_49 (by decide) ?_
        refine j_iload_n (pc := 51) dX12_tyres_51 rfl (q := 1) rfl ?_
        refine j_imul (pc := 52) dX12_tyres_52 ?_
        refine j_iload_n (pc := 53) dX12_tyres_53 rfl (q := 2) rfl ?_
        refine j_iadd (pc := 54) dX12_tyres_54 ?_
        refine j_iald (pc := 55) jv2_4 jm_01 rfl (by decide) ka2_4 dX12_tyres_55 (fun c17 h18 => ?_)
        refine j_nm (pc := 56) h18 (fun v19 h20 => ?_)
        refine j_istore (pc := 56) [(4, jm_i v19), (0, jm_vr wd2 X 0 0), (1, jm_i l1), (2, jm_i l2), (3, jm_i l3)] dX12_tyres_56 (by decide) rfl ?_
        refine j_aload_n (pc := 58) dX12_tyres_58 rfl (q := 1) rfl ?_
        refine j_getr (pc := 59) jv2_0 jm_01 kf_RX12_72 0 kg2_0_6 rfl dX12_tyres_59 ?_
        refine j_bipush (pc := 62) 6 dX12_tyres_62 (by decide) ?_
        refine j_iload_n (pc := 64) dX12_tyres_64 rfl (q := 2) rfl ?_
        refine j_imul (pc := 65) dX12_tyres_65 ?_
        refine j_iload_n (pc := 66) dX12_tyres_66 rfl (q := 3) rfl ?_
        refine j_iadd (pc := 67) dX12_tyres_67 ?_
        refine j_iload_n (pc := 68) dX12_tyres_68 rfl (q := 4) rfl ?_
        refine j_iast (pc := 69) jv2_4 jm_01 rfl (by decide) wI2 ka2_4 hl3 dX12_tyres_69 (fun c21 M22 => ?_)
        refine j_iload (pc := 70) dX12_tyres_70 (q := 0) rfl ?_
        exact j_iret (pc := 72) h20 rfl dX12_tyres_72
abbrev rmX12_mostOf : Room := { frames := 0, cells := 0, slots := 0, locals := 0 }
set_option maxHeartbeats 4000000 in
set_option maxRecDepth 100000 in
theorem ct_X12_mostOf (M : jm_M) (l0 : Int) (hl0 : jm_in l0) : jm_Ci wd2 yX12_mostOf cX12_mostOf 1 (some .int) rmX12_mostOf M (fun G ad => [jm_i l0]) (fX12_mostOf M l0) := by
  refine jm_met_i (fun X => [(0, jm_i l0)]) (by decide) (fun _ _ => (Nat.le_of_ble_eq_true rfl)) (fun _ => rfl) (fun X => ?_)
  unfold fX12_mostOf
  refine j_iload_n (pc := 0) dX12_mostOf_0 rfl (q := 0) rfl ?_
  refine j_ite (pc := 1) (fun c1 => ?_) (fun c1 => ?_)
  · skip
    refine j_tabIn (off := (43)) (tgt := 44) (pc := 1) 0 hl0 dX12_mostOf_1 c1 (by decide) (by decide) rfl (by decide) ?_
    refine j_sipush (pc := 44) 2000 dX12_mostOf_44 (by decide) ?_
    exact j_iret (pc := 47) (jm_inL (by decide) (by decide)) rfl dX12_mostOf_47
  · skip
    refine j_ite (pc := 1) (fun c2 => ?_) (fun c2 => ?_)
    · skip
      refine j_tabIn (off := (47)) (tgt := 48) (pc := 1) 1 hl0 dX12_mostOf_1 c2 (by decide) (by decide) rfl (by decide) ?_
      refine j_bipush (pc := 48) 50 dX12_mostOf_48 (by decide) ?_
      exact j_iret (pc := 50) (jm_inL (by decide) (by decide)) rfl dX12_mostOf_50
    · skip
      refine j_ite (pc := 1) (fun c3 => ?_) (fun c3 => ?_)
      · skip
        refine j_tabIn (off := (50)) (tgt := 51) (pc := 1) 2 hl0 dX12_mostOf_1 c3 (by decide) (by decide) rfl (by decide) ?_
        refine j_sipush (pc := 51) 500 dX12_mostOf_51 (by decide) ?_
        exact j_iret (pc := 54) (jm_inL (by decide) (by decide)) rfl dX12_mostOf_54
      · skip
        refine j_ite (pc := 1) (fun c4 => ?_) (fun c4 => ?_)
        · skip
          refine j_tabIn (off := (54)) (tgt := 55) (pc := 1) 3 hl0 dX12_mostOf_1 c4 (by decide) (by decide) rfl (by decide) ?_
          refine j_ldc (pc := 55) 60000 kg_1384 (by decide) dX12_mostOf_55 ?_
          exact j_iret (pc := 57) (jm_inL (by decide) (by decide)) rfl dX12_mostOf_57
        · skip
          refine j_ite (pc := 1) (fun c5 => ?_) (fun c5 => ?_)
          · skip
            refine j_tabIn (off := (57)) (tgt := 58) (pc := 1) 4 hl0 dX12_mostOf_1 c5 (by decide) (by decide) rfl (by decide) ?_
            refine j_sipush (pc := 58) 20000 dX12_mostOf_58 (by decide) ?_
            exact j_iret (pc := 61) (jm_inL (by decide) (by decide)) rfl dX12_mostOf_61
          · skip
            refine j_ite (pc := 1) (fun c6 => ?_) (fun c6 => ?_)
            · skip
              refine j_tabIn (off := (61)) (tgt := 62) (pc := 1) 5 hl0 dX12_mostOf_1 c6 (by decide) (by decide) rfl (by decide) ?_
              refine j_sipush (pc := 62) 200 dX12_mostOf_62 (by decide) ?_
              exact j_iret (pc := 65) (jm_inL (by decide) (by decide)) rfl dX12_mostOf_65
            · skip
              refine j_ite (pc := 1) (fun c7 => ?_) (fun c7 => ?_)
              · skip
                refine j_tabIn (off := (65)) (tgt := 66) (pc := 1) 6 hl0 dX12_mostOf_1 c7 (by decide) (by decide) rfl (by decide) ?_
                refine j_sipush (pc := 66) 2000 dX12_mostOf_66 (by decide) ?_
                exact j_iret (pc := 69) (jm_inL (by decide) (by decide)) rfl dX12_mostOf_69
              · skip
                refine j_tabOut (tgt := 70) (pc := 1) hl0 dX12_mostOf_1 (by omega) (by decide) ?_
                refine j_bipush (pc := 70) 9 dX12_mostOf_70 (by decide) ?_
                exact j_iret (pc := 72) (jm_inL (by decide) (by decide)) rfl dX12_mostOf_72
abbrev rmX12_set : Room := { frames := 1, cells := 0, slots := 0, locals := 25 }
set_option maxHeartbeats 4000000 in
set_option maxRecDepth 100000 in
theorem bX12_set_30 (X : jm_X) (fu : Nat) : ∀ (M : jm_M) (l1 l2 s0 s1 : Int) (hl1 : jm_in l1) (hl2 : jm_in l2) (hs0 : jm_in s0) (hs1 : jm_in s1), jm_J wd2 (jm_qi .int) cX12_set 4 RX12 rmX12_set X M [(0, jm_vr wd2 X 0 0), (1, jm_i l1), (2, jm_i l2)] [jm_l s0, jm_l s1] 30 (gX12_set_30 fu M l1 l2 s0 s1) := by
  intro M l1 l2 s0 s1 hl1 hl2 hs0 hs1
  unfold gX12_set_30
  refine j_iload_n (pc := 30) dX12_set_30 rfl (q := 1) rfl ?_
  refine j_callSi1 (pc := 31) (ct_X12_mostOf M l1 hl1) kg_1381 km_X12_mostOf kg_1382 rfl rfl ⟨(Nat.le_of_ble_eq_true rfl), (Nat.le_of_ble_eq_true rfl)⟩ rfl rfl (Nat.le_of_ble_eq_true rfl) dX12_set_31 (fun v1 M2 h3 => ?_)
  refine j_i2l (pc := 34) h3 dX12_set_34 ?_
  refine j_callSi3 (pc := 35) (ct_X12_in M2 s1 s0 v1 hs1 hs0 h3) kg_1347 km_X12_in kg_1348 rfl rfl ⟨(Nat.le_of_ble_eq_true rfl), (Nat.le_of_ble_eq_true rfl)⟩ rfl rfl (Nat.le_of_ble_eq_true rfl) dX12_set_35 (fun v4 M5 h6 => ?_)
  refine j_if_ne (tgt := 43) (pc := 38) h6 dX12_set_38 (by decide) (fun c7 => ?_) (fun c7 => ?_)
  · skip
    refine j_iconst (pc := 41) dX12_set_41 ?_
    exact j_iret (pc := 42) (jm_inL (by decide) (by decide)) rfl dX12_set_42
  · skip
    refine j_aload_n (pc := 43) dX12_set_43 rfl (q := 0) rfl ?_
    refine j_getr (pc := 44) jv2_0 jm_01 kf_RX12_83 0 kg2_0_7 rfl dX12_set_44 ?_
    refine j_iload_n (pc := 47) dX12_set_47 rfl (q := 1) rfl ?_
    refine j_iald (pc := 48) jv2_5 jm_01 rfl (by decide) ka2_5 dX12_set_48 (fun c8 h9 => ?_)
    refine j_nm (pc := 49) h9 (fun v10 h11 => ?_)
    refine j_istore_n (pc := 49) [(3, jm_i v10), (0, jm_vr wd2 X 0 0), (1, jm_i l1), (2, jm_i l2)] dX12_set_49 rfl (by decide) rfl ?_
    refine j_aload_n (pc := 50) dX12_set_50 rfl (q := 1) rfl ?_
    refine j_getr (pc := 51) jv2_0 jm_01 kf_RX12_83 0 kg2_0_7 rfl dX12_set_51 ?_
    refine j_iload_n (pc := 54) dX12_set_54 rfl (q := 2) rfl ?_
    refine j_iload_n (pc := 55) dX12_set_55 rfl (q := 3) rfl ?_
    refine j_iast (pc := 56) jv2_5 jm_01 rfl (by decide) wI2 ka2_5 hl2 dX12_set_56 (fun c12 M13 => ?_)
    refine j_iload_n (pc := 57) dX12_set_57 rfl (q := 0) rfl ?_
    exact j_iret (pc := 58) h11 rfl dX12_set_58
set_option maxHeartbeats 4000000 in
set_option maxRecDepth 100000 in
theorem ct_X12_set (fu : Nat) (M : jm_M) (l1 l2 : Int) (hl1 : jm_in l1) (hl2 : jm_in l2) : jm_Ci wd2 yX12_set cX12_set 4 (some .int) rmX12_set M (fun G ad => [.ref (ad (jm_r wd2 0 0)), jm_i l1, jm_i l2]) (fX12_set fu M l1 l2) := by
  refine jm_met_i (fun X => [(0, jm_vr wd2 X 0 0), (1, jm_i l1), (2, jm_i l2)]) (by decide) (fun _ _ => (Nat.le_of_ble_eq_true rfl)) (fun _ => rfl) (fun X => ?_)
  unfold fX12_set
  refine j_aload_n (pc := 0) dX12_set_0 rfl (q := 0) rfl ?_
  refine j_iconst (pc := 1) dX12_set_1 ?_
  refine j_put (pc := 2) jv2_0 jm_01 kf_RX12_3 wI2 kp_X12_0 kx2_0_0 (jm_inL (by decide) (by decide)) rfl rfl dX12_set_2 (fun M1 => ?_)
  refine j_iload_n (pc := 5) dX12_set_5 rfl (q := 1) rfl ?_
  refine j_i2l (pc := 6) hl1 dX12_set_6 ?_
  refine j_lconst (pc := 7) 0 dX12_set_7 rfl ?_
  refine j_ldc2 (pc := 8) 7 kg_1379 (by decide) dX12_set_8 ?_
  refine j_callSi3 (pc := 11) (ct_X12_in M1 l1 0 7 hl1 (jm_inL (by decide) (by decide)) (jm_inL (by decide) (by decide))) kg_1347 km_X12_in kg_1348 rfl rfl ⟨(Nat.le_of_ble_eq_true rfl), (Nat.le_of_ble_eq_true rfl)⟩ rfl rfl (Nat.le_of_ble_eq_true rfl) dX12_set_11 (fun v2 M3 h4 => ?_)
  refine j_if_eq (tgt := 41) (pc := 14) h4 dX12_set_14 (by decide) (fun c5 => ?_) (fun c5 => ?_)
  · skip
    refine j_iconst (pc := 41) dX12_set_41 ?_
    exact j_iret (pc := 42) (jm_inL (by decide) (by decide)) rfl dX12_set_42
  · skip
    refine j_iload_n (pc := 17) dX12_set_17 rfl (q := 2) rfl ?_
    refine j_i2l (pc := 18) hl2 dX12_set_18 ?_
    refine j_iload_n (pc := 19) dX12_set_19 rfl (q := 1) rfl ?_
    refine j_if_ne (tgt := 29) (pc := 20) hl1 dX12_set_20 (by decide) (fun c6 => ?_) (fun c6 => ?_)
    · skip
      refine j_ldc2 (pc := 23) 100 kg_1380 (by decide) dX12_set_23 ?_
      refine j_goto (tgt := 30) (pc := 26) dX12_set_26 (by decide) ?_
      refine j_sub (pc := 30) [(0, jm_vr wd2 X 0 0), (1, jm_i l1), (2, jm_i l2)] [0, 1, 2] rfl ?_
      exact bX12_set_30 X fu  M3 l1 l2 100 l2 hl1 hl2 (jm_inL (by decide) (by decide)) hl2
    · skip
      refine j_lconst (pc := 29) 0 dX12_set_29 rfl ?_
      refine j_sub (pc := 30) [(0, jm_vr wd2 X 0 0), (1, jm_i l1), (2, jm_i l2)] [0, 1, 2] rfl ?_
      exact bX12_set_30 X fu  M3 l1 l2 0 l2 hl1 hl2 (jm_inL (by decide) (by decide)) hl2
abbrev rmX12_rain : Room := { frames := 2, cells := 0, slots := 0, locals := 46 }
set_option maxHeartbeats 4000000 in
set_option maxRecDepth 100000 in
theorem ct_X12_rain (M : jm_M) (l1 l2 l3 : Int) (hl1 : jm_in l1) (hl2 : jm_in l2) (hl3 : jm_in l3) : jm_Ci wd2 yX12_rain cX12_rain 4 (some .int) rmX12_rain M (fun G ad => [.ref (ad (jm_r wd2 0 0)), jm_i l1, jm_i l2, jm_i l3]) (fX12_rain M l1 l2 l3) := by
  refine jm_met_i (fun X => [(0, jm_vr wd2 X 0 0), (1, jm_i l1), (2, jm_i l2), (3, jm_i l3)]) (by decide) (fun _ _ => (Nat.le_of_ble_eq_true rfl)) (fun _ => rfl) (fun X => ?_)
  unfold fX12_rain
  refine j_aload_n (pc := 0) dX12_rain_0 rfl (q := 0) rfl ?_
  refine j_iconst (pc := 1) dX12_rain_1 ?_
  refine j_put (pc := 2) jv2_0 jm_01 kf_RX12_3 wI2 kp_X12_0 kx2_0_0 (jm_inL (by decide) (by decide)) rfl rfl dX12_rain_2 (fun M1 => ?_)
  refine j_aload_n (pc := 5) dX12_rain_5 rfl (q := 0) rfl ?_
  refine j_iload_n (pc := 6) dX12_rain_6 rfl (q := 1) rfl ?_
  refine j_callVi1 (pc := 7) (ct_X12_isSector M1 l1 hl1) kg_1360 km_X12_isSector kv_X12_isSector rfl rfl ⟨(Nat.le_of_ble_eq_true rfl), (Nat.le_of_ble_eq_true rfl)⟩ jv2_0 jm_01 ko2_0 rfl rfl (Nat.le_of_ble_eq_true rfl) dX12_rain_7 (fun v2 M3 h4 => ?_)
  refine j_if_eq (tgt := 38) (pc := 10) h4 dX12_rain_10 (by decide) (fun c5 => ?_) (fun c5 => ?_)
  · skip
    refine j_iconst (pc := 38) dX12_rain_38 ?_
    exact j_iret (pc := 39) (jm_inL (by decide) (by decide)) rfl dX12_rain_39
  · skip
    refine j_iload_n (pc := 13) dX12_rain_13 rfl (q := 2) rfl ?_
    refine j_if_lt (tgt := 38) (pc := 14) hl2 dX12_rain_14 (by decide) (fun c6 => ?_) (fun c6 => ?_)
    · skip
      refine j_iconst (pc := 38) dX12_rain_38 ?_
      exact j_iret (pc := 39) (jm_inL (by decide) (by decide)) rfl dX12_rain_39
    · skip
      refine j_iload_n (pc := 17) dX12_rain_17 rfl (q := 3) rfl ?_
      refine j_i2l (pc := 18) hl3 dX12_rain_18 ?_
      refine j_lconst (pc := 19) 0 dX12_rain_19 rfl ?_
      refine j_ldc2 (pc := 20) 100 kg_1380 (by decide) dX12_rain_20 ?_
      refine j_callSi3 (pc := 23) (ct_X12_in M3 l3 0 100 hl3 (jm_inL (by decide) (by decide)) (jm_inL (by decide) (by decide))) kg_1347 km_X12_in kg_1348 rfl rfl ⟨(Nat.le_of_ble_eq_true rfl), (Nat.le_of_ble_eq_true rfl)⟩ rfl rfl (Nat.le_of_ble_eq_true rfl) dX12_rain_23 (fun v7 M8 h9 => ?_)
      refine j_if_eq (tgt := 38) (pc := 26) h9 dX12_rain_26 (by decide) (fun c10 => ?_) (fun c10 => ?_)
      · skip
        refine j_iconst (pc := 38) dX12_rain_38 ?_
        exact j_iret (pc := 39) (jm_inL (by decide) (by decide)) rfl dX12_rain_39
      · skip
        refine j_aload_n (pc := 29) dX12_rain_29 rfl (q := 0) rfl ?_
        refine j_geti (pc := 30) jv2_0 jm_01 kf_RX12_24 kg2_0_8 dX12_rain_30 (fun h11 => ?_)
        refine j_bipush (pc := 33) 30 dX12_rain_33 (by decide) ?_
        refine j_icmp_ne (tgt := 40) (pc := 35) h11 (jm_inL (by decide) (by decide)) dX12_rain_35 (by decide) (fun c12 => ?_) (fun c12 => ?_)
        · skip
          refine j_iconst (pc := 38) dX12_rain_38 ?_
          exact j_iret (pc := 39) (jm_inL (by decide) (by decide)) rfl dX12_rain_39
        · skip
          refine j_aload_n (pc := 40) dX12_rain_40 rfl (q := 0) rfl ?_
          refine j_getr (pc := 41) jv2_0 jm_01 kf_RX12_86 0 kg2_0_9 rfl dX12_rain_41 ?_
          refine j_aload_n (pc := 44) dX12_rain_44 rfl (q := 0) rfl ?_
          refine j_geti (pc := 45) jv2_0 jm_01 kf_RX12_24 kg2_0_8 dX12_rain_45 (fun h13 => ?_)
          refine j_iload_n (pc := 48) dX12_rain_48 rfl (q := 1) rfl ?_
          refine j_iast (pc := 49) jv2_6 jm_01 rfl (by decide) wI2 ka2_6 hl1 dX12_rain_49 (fun c14 M15 => ?_)
          refine j_aload_n (pc := 50) dX12_rain_50 rfl (q := 0) rfl ?_
          refine j_getr (pc := 51) jv2_0 jm_01 kf_RX12_89 0 kg2_0_10 rfl dX12_rain_51 ?_
          refine j_aload_n (pc := 54) dX12_rain_54 rfl (q := 0) rfl ?_
          refine j_geti (pc := 55) jv2_0 jm_01 kf_RX12_24 kg2_0_8 dX12_rain_55 (fun h16 => ?_)
          refine j_iload_n (pc := 58) dX12_rain_58 rfl (q := 2) rfl ?_
          refine j_iast (pc := 59) jv2_7 jm_01 rfl (by decide) wI2 ka2_7 hl2 dX12_rain_59 (fun c17 M18 => ?_)
          refine j_aload_n (pc := 60) dX12_rain_60 rfl (q := 0) rfl ?_
          refine j_getr (pc := 61) jv2_0 jm_01 kf_RX12_92 0 kg2_0_11 rfl dX12_rain_61 ?_
          refine j_aload_n (pc := 64) dX12_rain_64 rfl (q := 0) rfl ?_
          refine j_geti (pc := 65) jv2_0 jm_01 kf_RX12_24 kg2_0_8 dX12_rain_65 (fun h19 => ?_)
          refine j_iload_n (pc := 68) dX12_rain_68 rfl (q := 3) rfl ?_
          refine j_iast (pc := 69) jv2_8 jm_01 rfl (by decide) wI2 ka2_8 hl3 dX12_rain_69 (fun c20 M21 => ?_)
          refine j_aload_n (pc := 70) dX12_rain_70 rfl (q := 0) rfl ?_
          refine j_dup (pc := 71) dX12_rain_71 rfl ?_
          refine j_geti (pc := 72) jv2_0 jm_01 kf_RX12_24 kg2_0_8 dX12_rain_72 (fun h22 => ?_)
          refine j_iconst (pc := 75) dX12_rain_75 ?_
          refine j_iadd (pc := 76) dX12_rain_76 ?_
          refine j_put (pc := 77) jv2_0 jm_01 kf_RX12_24 wI2 kp_X12_8 kx2_0_8 (jm_w_in _) rfl rfl dX12_rain_77 (fun M23 => ?_)
          refine j_aload_n (pc := 80) dX12_rain_80 rfl (q := 0) rfl ?_
          refine j_geti (pc := 81) jv2_0 jm_01 kf_RX12_24 kg2_0_8 dX12_rain_81 (fun h24 => ?_)
          exact j_iret (pc := 84) h24 rfl dX12_rain_84
abbrev rmX12_flag : Room := { frames := 2, cells := 0, slots := 0, locals := 46 }
set_option maxHeartbeats 4000000 in
set_option maxRecDepth 100000 in
theorem bX12_flag_18 (X : jm_X) (fu : Nat) : ∀ (M : jm_M) (l1 l2 l3 l4 : Int) (hl1 : jm_in l1) (hl2 : jm_in l2) (hl3 : jm_in l3) (hl4 : jm_in l4), jm_J wd2 (jm_qi .int) cX12_flag 5 RX12 rmX12_flag X M [(0, jm_vr wd2 X 0 0), (1, jm_i l1), (2, jm_i l2), (3, jm_i l3), (4, jm_i l4)] [] 18 (gX12_flag_18 fu M l1 l2 l3 l4) := by
  intro M l1 l2 l3 l4 hl1 hl2 hl3 hl4
  unfold gX12_flag_18
  refine j_iload_n (pc := 18) dX12_flag_18 rfl (q := 2) rfl ?_
  refine j_if_lt (tgt := 47) (pc := 19) hl2 dX12_flag_19 (by decide) (fun c1 => ?_) (fun c1 => ?_)
  · skip
    refine j_iconst (pc := 47) dX12_flag_47 ?_
    exact j_iret (pc := 48) (jm_inL (by decide) (by decide)) rfl dX12_flag_48
  · skip
    refine j_iload_n (pc := 22) dX12_flag_22 rfl (q := 3) rfl ?_
    refine j_iload_n (pc := 23) dX12_flag_23 rfl (q := 2) rfl ?_
    refine j_icmp_lt (tgt := 47) (pc := 24) hl3 hl2 dX12_flag_24 (by decide) (fun c2 => ?_) (fun c2 => ?_)
    · skip
      refine j_iconst (pc := 47) dX12_flag_47 ?_
      exact j_iret (pc := 48) (jm_inL (by decide) (by decide)) rfl dX12_flag_48
    · skip
      refine j_iload (pc := 27) dX12_flag_27 (q := 4) rfl ?_
      refine j_i2l (pc := 29) hl4 dX12_flag_29 ?_
      refine j_lconst (pc := 30) 0 dX12_flag_30 rfl ?_
      refine j_lconst (pc := 31) 1 dX12_flag_31 rfl ?_
      refine j_callSi3 (pc := 32) (ct_X12_in M l4 0 1 hl4 (jm_inL (by decide) (by decide)) (jm_inL (by decide) (by decide))) kg_1347 km_X12_in kg_1348 rfl rfl ⟨(Nat.le_of_ble_eq_true rfl), (Nat.le_of_ble_eq_true rfl)⟩ rfl rfl (Nat.le_of_ble_eq_true rfl) dX12_flag_32 (fun v3 M4 h5 => ?_)
      refine j_if_eq (tgt := 47) (pc := 35) h5 dX12_flag_35 (by decide) (fun c6 => ?_) (fun c6 => ?_)
      · skip
        refine j_iconst (pc := 47) dX12_flag_47 ?_
        exact j_iret (pc := 48) (jm_inL (by decide) (by decide)) rfl dX12_flag_48
      · skip
        refine j_aload_n (pc := 38) dX12_flag_38 rfl (q := 0) rfl ?_
        refine j_geti (pc := 39) jv2_0 jm_01 kf_RX12_27 kg2_0_12 dX12_flag_39 (fun h7 => ?_)
        refine j_bipush (pc := 42) 20 dX12_flag_42 (by decide) ?_
        refine j_icmp_ne (tgt := 49) (pc := 44) h7 (jm_inL (by decide) (by decide)) dX12_flag_44 (by decide) (fun c8 => ?_) (fun c8 => ?_)
        · skip
          refine j_iconst (pc := 47) dX12_flag_47 ?_
          exact j_iret (pc := 48) (jm_inL (by decide) (by decide)) rfl dX12_flag_48
        · skip
          refine j_aload_n (pc := 49) dX12_flag_49 rfl (q := 0) rfl ?_
          refine j_getr (pc := 50) jv2_0 jm_01 kf_RX12_95 0 kg2_0_13 rfl dX12_flag_50 ?_
          refine j_aload_n (pc := 53) dX12_flag_53 rfl (q := 0) rfl ?_
          refine j_geti (pc := 54) jv2_0 jm_01 kf_RX12_27 kg2_0_12 dX12_flag_54 (fun h9 => ?_)
          refine j_iload_n (pc := 57) dX12_flag_57 rfl (q := 1) rfl ?_
          refine j_iast (pc := 58) jv2_9 jm_01 rfl (by decide) wI2 ka2_9 hl1 dX12_flag_58 (fun c10 M11 => ?_)
          refine j_aload_n (pc := 59) dX12_flag_59 rfl (q := 0) rfl ?_
          refine j_getr (pc := 60) jv2_0 jm_01 kf_RX12_98 0 kg2_0_14 rfl dX12_flag_60 ?_
          refine j_aload_n (pc := 63) dX12_flag_63 rfl (q := 0) rfl ?_
          refine j_geti (pc := 64) jv2_0 jm_01 kf_RX12_27 kg2_0_12 dX12_flag_64 (fun h12 => ?_)
          refine j_iload_n (pc := 67) dX12_flag_67 rfl (q := 2) rfl ?_
          refine j_iast (pc := 68) jv2_10 jm_01 rfl (by decide) wI2 ka2_10 hl2 dX12_flag_68 (fun c13 M14 => ?_)
          refine j_aload_n (pc := 69) dX12_flag_69 rfl (q := 0) rfl ?_
          refine j_getr (pc := 70) jv2_0 jm_01 kf_RX12_101 0 kg2_0_15 rfl dX12_flag_70 ?_
          refine j_aload_n (pc := 73) dX12_flag_73 rfl (q := 0) rfl ?_
          refine j_geti (pc := 74) jv2_0 jm_01 kf_RX12_27 kg2_0_12 dX12_flag_74 (fun h15 => ?_)
          refine j_iload_n (pc := 77) dX12_flag_77 rfl (q := 3) rfl ?_
          refine j_iast (pc := 78) jv2_11 jm_01 rfl (by decide) wI2 ka2_11 hl3 dX12_flag_78 (fun c16 M17 => ?_)
          refine j_aload_n (pc := 79) dX12_flag_79 rfl (q := 0) rfl ?_
          refine j_getr (pc := 80) jv2_0 jm_01 kf_RX12_104 0 kg2_0_16 rfl dX12_flag_80 ?_
          refine j_aload_n (pc := 83) dX12_flag_83 rfl (q := 0) rfl ?_
          refine j_geti (pc := 84) jv2_0 jm_01 kf_RX12_27 kg2_0_12 dX12_flag_84 (fun h18 => ?_)
          refine j_iload (pc := 87) dX12_flag_87 (q := 4) rfl ?_
          refine j_iast (pc := 89) jv2_12 jm_01 rfl (by decide) wI2 ka2_12 hl4 dX12_flag_89 (fun c19 M20 => ?_)
          refine j_aload_n (pc := 90) dX12_flag_90 rfl (q := 0) rfl ?_
          refine j_dup (pc := 91) dX12_flag_91 rfl ?_
          refine j_geti (pc := 92) jv2_0 jm_01 kf_RX12_27 kg2_0_12 dX12_flag_92 (fun h21 => ?_)
          refine j_iconst (pc := 95) dX12_flag_95 ?_
          refine j_iadd (pc := 96) dX12_flag_96 ?_
          refine j_put (pc := 97) jv2_0 jm_01 kf_RX12_27 wI2 kp_X12_12 kx2_0_12 (jm_w_in _) rfl rfl dX12_flag_97 (fun M22 => ?_)
          refine j_aload_n (pc := 100) dX12_flag_100 rfl (q := 0) rfl ?_
          refine j_geti (pc := 101) jv2_0 jm_01 kf_RX12_27 kg2_0_12 dX12_flag_101 (fun h23 => ?_)
          exact j_iret (pc := 104) h23 rfl dX12_flag_104
set_option maxHeartbeats 4000000 in
set_option maxRecDepth 100000 in
theorem ct_X12_flag (fu : Nat) (M : jm_M) (l1 l2 l3 l4 : Int) (hl1 : jm_in l1) (hl2 : jm_in l2) (hl3 : jm_in l3) (hl4 : jm_in l4) : jm_Ci wd2 yX12_flag cX12_flag 5 (some .int) rmX12_flag M (fun G ad => [.ref (ad (jm_r wd2 0 0)), jm_i l1, jm_i l2, jm_i l3, jm_i l4]) (fX12_flag fu M l1 l2 l3 l4) := by
  refine jm_met_i (fun X => [(0, jm_vr wd2 X 0 0), (1, jm_i l1), (2, jm_i l2), (3, jm_i l3), (4, jm_i l4)]) (by decide) (fun _ _ => (Nat.le_of_ble_eq_true rfl)) (fun _ => rfl) (fun X => ?_)
  unfold fX12_flag
  refine j_aload_n (pc := 0) dX12_flag_0 rfl (q := 0) rfl ?_
  refine j_iconst (pc := 1) dX12_flag_1 ?_
  refine j_put (pc := 2) jv2_0 jm_01 kf_RX12_3 wI2 kp_X12_0 kx2_0_0 (jm_inL (by decide) (by decide)) rfl rfl dX12_flag_2 (fun M1 => ?_)
  refine j_iload_n (pc := 5) dX12_flag_5 rfl (q := 1) rfl ?_
  refine j_iconst (pc := 6) dX12_flag_6 ?_
  refine j_icmp_eq (tgt := 18) (pc := 7) hl1 (jm_inL (by decide) (by decide)) dX12_flag_7 (by decide) (fun c2 => ?_) (fun c2 => ?_)
  · skip
    refine j_sub (pc := 18) [(0, jm_vr wd2 X 0 0), (1, jm_i l1), (2, jm_i l2), (3, jm_i l3), (4, jm_i l4)] [0, 1, 2, 3, 4] rfl ?_
    exact bX12_flag_18 X fu  M1 l1 l2 l3 l4 hl1 hl2 hl3 hl4
  · skip
    refine j_aload_n (pc := 10) dX12_flag_10 rfl (q := 0) rfl ?_
    refine j_iload_n (pc := 11) dX12_flag_11 rfl (q := 1) rfl ?_
    refine j_callVi1 (pc := 12) (ct_X12_isSector M1 l1 hl1) kg_1360 km_X12_isSector kv_X12_isSector rfl rfl ⟨(Nat.le_of_ble_eq_true rfl), (Nat.le_of_ble_eq_true rfl)⟩ jv2_0 jm_01 ko2_0 rfl rfl (Nat.le_of_ble_eq_true rfl) dX12_flag_12 (fun v3 M4 h5 => ?_)
    refine j_if_eq (tgt := 47) (pc := 15) h5 dX12_flag_15 (by decide) (fun c6 => ?_) (fun c6 => ?_)
    · skip
      refine j_iconst (pc := 47) dX12_flag_47 ?_
      exact j_iret (pc := 48) (jm_inL (by decide) (by decide)) rfl dX12_flag_48
    · skip
      refine j_sub (pc := 18) [(0, jm_vr wd2 X 0 0), (1, jm_i l1), (2, jm_i l2), (3, jm_i l3), (4, jm_i l4)] [0, 1, 2, 3, 4] rfl ?_
      exact bX12_flag_18 X fu  M4 l1 l2 l3 l4 hl1 hl2 hl3 hl4
abbrev rmX12_car : Room := { frames := 1, cells := 0, slots := 0, locals := 25 }
set_option maxHeartbeats 4000000 in
set_option maxRecDepth 100000 in
theorem ct_X12_car (M : jm_M) (l1 l2 l3 l4 l5 l6 : Int) (hl1 : jm_in l1) (hl2 : jm_in l2) (hl3 : jm_in l3) (hl4 : jm_in l4) (hl5 : jm_in l5) (hl6 : jm_in l6) : jm_Ci wd2 yX12_car cX12_car 8 (some .int) rmX12_car M (fun G ad => [.ref (ad (jm_r wd2 0 0)), jm_i l1, jm_i l2, jm_i l3, jm_i l4, jm_i l5, jm_i l6]) (fX12_car M l1 l2 l3 l4 l5 l6) := by
  refine jm_met_i (fun X => [(0, jm_vr wd2 X 0 0), (1, jm_i l1), (2, jm_i l2), (3, jm_i l3), (4, jm_i l4), (5, jm_i l5), (6, jm_i l6)]) (by decide) (fun _ _ => (Nat.le_of_ble_eq_true rfl)) (fun _ => rfl) (fun X => ?_)
  unfold fX12_car
  refine j_aload_n (pc := 0) dX12_car_0 rfl (q := 0) rfl ?_
  refine j_iconst (pc := 1) dX12_car_1 ?_
  refine j_put (pc := 2) jv2_0 jm_01 kf_RX12_3 wI2 kp_X12_0 kx2_0_0 (jm_inL (by decide) (by decide)) rfl rfl dX12_car_2 (fun M1 => ?_)
  refine j_iload_n (pc := 5) dX12_car_5 rfl (q := 1) rfl ?_
  refine j_i2l (pc := 6) hl1 dX12_car_6 ?_
  refine j_ldc2 (pc := 7) (-2000) kg_1397 (by decide) dX12_car_7 ?_
  refine j_ldc2 (pc := 10) 2000 kg_1398 (by decide) dX12_car_10 ?_
  refine j_callSi3 (pc := 13) (ct_X12_in M1 l1 (-2000) 2000 hl1 (jm_inL (by decide) (by decide)) (jm_inL (by decide) (by decide))) kg_1347 km_X12_in kg_1348 rfl rfl ⟨(Nat.le_of_ble_eq_true rfl), (Nat.le_of_ble_eq_true rfl)⟩ rfl rfl (Nat.le_of_ble_eq_true rfl) dX12_car_13 (fun v2 M3 h4 => ?_)
  refine j_if_eq (tgt := 88) (pc := 16) h4 dX12_car_16 (by decide) (fun c5 => ?_) (fun c5 => ?_)
  · skip
    refine j_iconst (pc := 88) dX12_car_88 ?_
    exact j_iret (pc := 89) (jm_inL (by decide) (by decide)) rfl dX12_car_89
  · skip
    refine j_iload_n (pc := 19) dX12_car_19 rfl (q := 2) rfl ?_
    refine j_i2l (pc := 20) hl2 dX12_car_20 ?_
    refine j_lconst (pc := 21) 1 dX12_car_21 rfl ?_
    refine j_ldc2 (pc := 22) 200 kg_1399 (by decide) dX12_car_22 ?_
    refine j_callSi3 (pc := 25) (ct_X12_in M3 l2 1 200 hl2 (jm_inL (by decide) (by decide)) (jm_inL (by decide) (by decide))) kg_1347 km_X12_in kg_1348 rfl rfl ⟨(Nat.le_of_ble_eq_true rfl), (Nat.le_of_ble_eq_true rfl)⟩ rfl rfl (Nat.le_of_ble_eq_true rfl) dX12_car_25 (fun v6 M7 h8 => ?_)
    refine j_if_eq (tgt := 88) (pc := 28) h8 dX12_car_28 (by decide) (fun c9 => ?_) (fun c9 => ?_)
    · skip
      refine j_iconst (pc := 88) dX12_car_88 ?_
      exact j_iret (pc := 89) (jm_inL (by decide) (by decide)) rfl dX12_car_89
    · skip
      refine j_iload_n (pc := 31) dX12_car_31 rfl (q := 3) rfl ?_
      refine j_i2l (pc := 32) hl3 dX12_car_32 ?_
      refine j_lconst (pc := 33) 1 dX12_car_33 rfl ?_
      refine j_ldc2 (pc := 34) 9 kg_1400 (by decide) dX12_car_34 ?_
      refine j_callSi3 (pc := 37) (ct_X12_in M7 l3 1 9 hl3 (jm_inL (by decide) (by decide)) (jm_inL (by decide) (by decide))) kg_1347 km_X12_in kg_1348 rfl rfl ⟨(Nat.le_of_ble_eq_true rfl), (Nat.le_of_ble_eq_true rfl)⟩ rfl rfl (Nat.le_of_ble_eq_true rfl) dX12_car_37 (fun v10 M11 h12 => ?_)
      refine j_if_eq (tgt := 88) (pc := 40) h12 dX12_car_40 (by decide) (fun c13 => ?_) (fun c13 => ?_)
      · skip
        refine j_iconst (pc := 88) dX12_car_88 ?_
        exact j_iret (pc := 89) (jm_inL (by decide) (by decide)) rfl dX12_car_89
      · skip
        refine j_iload (pc := 43) dX12_car_43 (q := 4) rfl ?_
        refine j_i2l (pc := 45) hl4 dX12_car_45 ?_
        refine j_lconst (pc := 46) 0 dX12_car_46 rfl ?_
        refine j_ldc2 (pc := 47) 3 kg_1371 (by decide) dX12_car_47 ?_
        refine j_callSi3 (pc := 50) (ct_X12_in M11 l4 0 3 hl4 (jm_inL (by decide) (by decide)) (jm_inL (by decide) (by decide))) kg_1347 km_X12_in kg_1348 rfl rfl ⟨(Nat.le_of_ble_eq_true rfl), (Nat.le_of_ble_eq_true rfl)⟩ rfl rfl (Nat.le_of_ble_eq_true rfl) dX12_car_50 (fun v14 M15 h16 => ?_)
        refine j_if_eq (tgt := 88) (pc := 53) h16 dX12_car_53 (by decide) (fun c17 => ?_) (fun c17 => ?_)
        · skip
          refine j_iconst (pc := 88) dX12_car_88 ?_
          exact j_iret (pc := 89) (jm_inL (by decide) (by decide)) rfl dX12_car_89
        · skip
          refine j_iload (pc := 56) dX12_car_56 (q := 5) rfl ?_
          refine j_i2l (pc := 58) hl5 dX12_car_58 ?_
          refine j_lconst (pc := 59) 0 dX12_car_59 rfl ?_
          refine j_lconst (pc := 60) 1 dX12_car_60 rfl ?_
          refine j_callSi3 (pc := 61) (ct_X12_in M15 l5 0 1 hl5 (jm_inL (by decide) (by decide)) (jm_inL (by decide) (by decide))) kg_1347 km_X12_in kg_1348 rfl rfl ⟨(Nat.le_of_ble_eq_true rfl), (Nat.le_of_ble_eq_true rfl)⟩ rfl rfl (Nat.le_of_ble_eq_true rfl) dX12_car_61 (fun v18 M19 h20 => ?_)
          refine j_if_eq (tgt := 88) (pc := 64) h20 dX12_car_64 (by decide) (fun c21 => ?_) (fun c21 => ?_)
          · skip
            refine j_iconst (pc := 88) dX12_car_88 ?_
            exact j_iret (pc := 89) (jm_inL (by decide) (by decide)) rfl dX12_car_89
          · skip
            refine j_iload (pc := 67) dX12_car_67 (q := 6) rfl ?_
            refine j_i2l (pc := 69) hl6 dX12_car_69 ?_
            refine j_lconst (pc := 70) 0 dX12_car_70 rfl ?_
            refine j_iload_n (pc := 71) dX12_car_71 rfl (q := 2) rfl ?_
            refine j_i2l (pc := 72) hl2 dX12_car_72 ?_
            refine j_callSi3 (pc := 73) (ct_X12_in M19 l6 0 l2 hl6 (jm_inL (by decide) (by decide)) hl2) kg_1347 km_X12_in kg_1348 rfl rfl ⟨(Nat.le_of_ble_eq_true rfl), (Nat.le_of_ble_eq_true rfl)⟩ rfl rfl (Nat.le_of_ble_eq_true rfl) dX12_car_73 (fun v22 M23 h24 => ?_)
            refine j_if_eq (tgt := 88) (pc := 76) h24 dX12_car_76 (by decide) (fun c25 => ?_) (fun c25 => ?_)
            · skip
              refine j_iconst (pc := 88) dX12_car_88 ?_
              exact j_iret (pc := 89) (jm_inL (by decide) (by decide)) rfl dX12_car_89
            · skip
              refine j_aload_n (pc := 79) dX12_car_79 rfl (q := 0) rfl ?_
              refine j_geti (pc := 80) jv2_0 jm_01 kf_RX12_30 kg2_0_17 dX12_car_80 (fun h26 => ?_)
              refine j_bipush (pc := 83) 6 dX12_car_83 (by decide) ?_
              refine j_icmp_ne (tgt := 90) (pc := 85) h26 (jm_inL (by decide) (by decide)) dX12_car_85 (by decide) (fun c27 => ?_) (fun c27 => ?_)
              · skip
                refine j_iconst (pc := 88) dX12_car_88 ?_
                exact j_iret (pc := 89) (jm_inL (by decide) (by decide)) rfl dX12_car_89
              · skip
                refine j_aload_n (pc := 90) dX12_car_90 rfl (q := 0) rfl ?_
                refine j_geti (pc := 91) jv2_0 jm_01 kf_RX12_30 kg2_0_17 dX12_car_91 (fun h28 => ?_)
                refine j_nm (pc := 94) h28 (fun v29 h30 => ?_)
                refine j_istore (pc := 94) [(7, jm_i v29), (0, jm_vr wd2 X 0 0), (1, jm_i l1), (2, jm_i l2), (3, jm_i l3), (4, jm_i l4), (5, jm_i l5), (6, jm_i l6)] dX12_car_94 (by decide) rfl ?_
                refine j_aload_n (pc := 96) dX12_car_96 rfl (q := 1) rfl ?_
                refine j_getr (pc := 97) jv2_0 jm_01 kf_RX12_115 0 kg2_0_18 rfl dX12_car_97 ?_
                refine j_iload (pc := 100) dX12_car_100 (q := 0) rfl ?_
                refine j_iload_n (pc := 102) dX12_car_102 rfl (q := 2) rfl ?_
                refine j_iast (pc := 103) jv2_13 jm_01 rfl (by decide) wI2 ka2_13 hl1 dX12_car_103 (fun c31 M32 => ?_)
                refine j_aload_n (pc := 104) dX12_car_104 rfl (q := 1) rfl ?_
                refine j_getr (pc := 105) jv2_0 jm_01 kf_RX12_118 0 kg2_0_19 rfl dX12_car_105 ?_
                refine j_iload (pc := 108) dX12_car_108 (q := 0) rfl ?_
                refine j_iload_n (pc := 110) dX12_car_110 rfl (q := 3) rfl ?_
                refine j_iast (pc := 111) jv2_14 jm_01 rfl (by decide) wI2 ka2_14 hl2 dX12_car_111 (fun c33 M34 => ?_)
                refine j_aload_n (pc := 112) dX12_car_112 rfl (q := 1) rfl ?_
                refine j_getr (pc := 113) jv2_0 jm_01 kf_RX12_121 0 kg2_0_20 rfl dX12_car_113 ?_
                refine j_iload (pc := 116) dX12_car_116 (q := 0) rfl ?_
                refine j_iload_n (pc := 118) dX12_car_118 rfl (q := 4) rfl ?_
                refine j_iast (pc := 119) jv2_15 jm_01 rfl (by decide) wI2 ka2_15 hl3 dX12_car_119 (fun c35 M36 => ?_)
                refine j_aload_n (pc := 120) dX12_car_120 rfl (q := 1) rfl ?_
                refine j_getr (pc := 121) jv2_0 jm_01 kf_RX12_124 0 kg2_0_21 rfl dX12_car_121 ?_
                refine j_iload (pc := 124) dX12_car_124 (q := 0) rfl ?_
                refine j_iload (pc := 126) dX12_car_126 (q := 5) rfl ?_
                refine j_iast (pc := 128) jv2_16 jm_01 rfl (by decide) wI2 ka2_16 hl4 dX12_car_128 (fun c37 M38 => ?_)
                refine j_aload_n (pc := 129) dX12_car_129 rfl (q := 1) rfl ?_
                refine j_getr (pc := 130) jv2_0 jm_01 kf_RX12_127 0 kg2_0_22 rfl dX12_car_130 ?_
                refine j_iload (pc := 133) dX12_car_133 (q := 0) rfl ?_
                refine j_iload (pc := 135) dX12_car_135 (q := 6) rfl ?_
                refine j_iast (pc := 137) jv2_17 jm_01 rfl (by decide) wI2 ka2_17 hl5 dX12_car_137 (fun c39 M40 => ?_)
                refine j_aload_n (pc := 138) dX12_car_138 rfl (q := 1) rfl ?_
                refine j_getr (pc := 139) jv2_0 jm_01 kf_RX12_130 0 kg2_0_23 rfl dX12_car_139 ?_
                refine j_iload (pc := 142) dX12_car_142 (q := 0) rfl ?_
                refine j_iload (pc := 144) dX12_car_144 (q := 7) rfl ?_
                refine j_iast (pc := 146) jv2_18 jm_01 rfl (by decide) wI2 ka2_18 hl6 dX12_car_146 (fun c41 M42 => ?_)
                refine j_aload_n (pc := 147) dX12_car_147 rfl (q := 1) rfl ?_
                refine j_getr (pc := 148) jv2_0 jm_01 kf_RX12_133 0 kg2_0_24 rfl dX12_car_148 ?_
                refine j_iload (pc := 151) dX12_car_151 (q := 0) rfl ?_
                refine j_iconst (pc := 153) dX12_car_153 ?_
                refine j_iast (pc := 154) jv2_19 jm_01 rfl (by decide) wI2 ka2_19 (jm_inL (by decide) (by decide)) dX12_car_154 (fun c43 M44 => ?_)
                refine j_aload_n (pc := 155) dX12_car_155 rfl (q := 1) rfl ?_
                refine j_getr (pc := 156) jv2_0 jm_01 kf_RX12_136 0 kg2_0_27 rfl dX12_car_156 ?_
                refine j_iload (pc := 159) dX12_car_159 (q := 0) rfl ?_
                refine j_iconst (pc := 161) dX12_car_161 ?_
                refine j_iast (pc := 162) jv2_22 jm_01 rfl (by decide) wI2 ka2_22 (jm_inL (by decide) (by decide)) dX12_car_162 (fun c45 M46 => ?_)
                refine j_aload_n (pc := 163) dX12_car_163 rfl (q := 1) rfl ?_
                refine j_getr (pc := 164) jv2_0 jm_01 kf_RX12_139 0 kg2_0_31 rfl dX12_car_164 ?_
                refine j_iload (pc := 167) dX12_car_167 (q := 0) rfl ?_
                refine j_iconst (pc := 169) dX12_car_169 ?_
                refine j_iast (pc := 170) jv2_26 jm_01 rfl (by decide) wI2 ka2_26 (jm_inL (by decide) (by decide)) dX12_car_170 (fun c47 M48 => ?_)
                refine j_aload_n (pc := 171) dX12_car_171 rfl (q := 1) rfl ?_
                refine j_getr (pc := 172) jv2_0 jm_01 kf_RX12_142 0 kg2_0_35 rfl dX12_car_172 ?_
                refine j_iload (pc := 175) dX12_car_175 (q := 0) rfl ?_
                refine j_iconst (pc := 177) dX12_car_177 ?_
                refine j_bast (pc := 178) jv2_30 jm_01 rfl (by decide) wI2 ka2_30 (jm_inL (by decide) (by decide)) dX12_car_178 (fun c49 c51 M50 => ?_)
                refine j_aload_n (pc := 179) dX12_car_179 rfl (q := 1) rfl ?_
                refine j_dup (pc := 180) dX12_car_180 rfl ?_
                refine j_geti (pc := 181) jv2_0 jm_01 kf_RX12_30 kg2_0_17 dX12_car_181 (fun h52 => ?_)
                refine j_iconst (pc := 184) dX12_car_184 ?_
                refine j_iadd (pc := 185) dX12_car_185 ?_
                refine j_put (pc := 186) jv2_0 jm_01 kf_RX12_30 wI2 kp_X12_17 kx2_0_17 (jm_w_in _) rfl rfl dX12_car_186 (fun M53 => ?_)
                refine j_iload (pc := 189) dX12_car_189 (q := 0) rfl ?_
                exact j_iret (pc := 191) h30 rfl dX12_car_191
abbrev rmX12_isCar : Room := { frames := 1, cells := 0, slots := 0, locals := 25 }
set_option maxHeartbeats 4000000 in
set_option maxRecDepth 100000 in
theorem ct_X12_isCar (M : jm_M) (l1 : Int) (hl1 : jm_in l1) : jm_Ci wd2 yX12_isCar cX12_isCar 2 (some .boolean) rmX12_isCar M (fun G ad => [.ref (ad (jm_r wd2 0 0)), jm_i l1]) (fX12_isCar M l1) := by
  refine jm_met_i (fun X => [(0, jm_vr wd2 X 0 0), (1, jm_i l1)]) (by decide) (fun _ _ => (Nat.le_of_ble_eq_true rfl)) (fun _ => rfl) (fun X => ?_)
  unfold fX12_isCar
  refine j_iload_n (pc := 0) dX12_isCar_0 rfl (q := 1) rfl ?_
  refine j_i2l (pc := 1) hl1 dX12_isCar_1 ?_
  refine j_lconst (pc := 2) 0 dX12_isCar_2 rfl ?_
  refine j_aload_n (pc := 3) dX12_isCar_3 rfl (q := 0) rfl ?_
  refine j_geti (pc := 4) jv2_0 jm_01 kf_RX12_30 kg2_0_17 dX12_isCar_4 (fun h1 => ?_)
  refine j_iconst (pc := 7) dX12_isCar_7 ?_
  refine j_isub (pc := 8) dX12_isCar_8 ?_
  refine j_i2l (pc := 9) (jm_w_in _) dX12_isCar_9 ?_
  refine j_callSi3 (pc := 10) (ct_X12_in M l1 0 (jm_w ((M 0 0 17) - 1)) hl1 (jm_inL (by decide) (by decide)) (jm_w_in _)) kg_1347 km_X12_in kg_1348 rfl rfl ⟨(Nat.le_of_ble_eq_true rfl), (Nat.le_of_ble_eq_true rfl)⟩ rfl rfl (Nat.le_of_ble_eq_true rfl) dX12_isCar_10 (fun v2 M3 h4 => ?_)
  exact j_zret (pc := 13) h4 dX12_isCar_13
abbrev rmX12_tyre : Room := { frames := 2, cells := 0, slots := 0, locals := 46 }
set_option maxHeartbeats 4000000 in
set_option maxRecDepth 100000 in
theorem ct_X12_tyre (M : jm_M) (l1 l2 l3 : Int) (hl1 : jm_in l1) (hl2 : jm_in l2) (hl3 : jm_in l3) : jm_Ci wd2 yX12_tyre cX12_tyre 4 (some .int) rmX12_tyre M (fun G ad => [.ref (ad (jm_r wd2 0 0)), jm_i l1, jm_i l2, jm_i l3]) (fX12_tyre M l1 l2 l3) := by
  refine jm_met_i (fun X => [(0, jm_vr wd2 X 0 0), (1, jm_i l1), (2, jm_i l2), (3, jm_i l3)]) (by decide) (fun _ _ => (Nat.le_of_ble_eq_true rfl)) (fun _ => rfl) (fun X => ?_)
  unfold fX12_tyre
  refine j_aload_n (pc := 0) dX12_tyre_0 rfl (q := 0) rfl ?_
  refine j_iconst (pc := 1) dX12_tyre_1 ?_
  refine j_put (pc := 2) jv2_0 jm_01 kf_RX12_3 wI2 kp_X12_0 kx2_0_0 (jm_inL (by decide) (by decide)) rfl rfl dX12_tyre_2 (fun M1 => ?_)
  refine j_aload_n (pc := 5) dX12_tyre_5 rfl (q := 0) rfl ?_
  refine j_iload_n (pc := 6) dX12_tyre_6 rfl (q := 1) rfl ?_
  refine j_callVi1 (pc := 7) (ct_X12_isCar M1 l1 hl1) kg_1405 km_X12_isCar kv_X12_isCar rfl rfl ⟨(Nat.le_of_ble_eq_true rfl), (Nat.le_of_ble_eq_true rfl)⟩ jv2_0 jm_01 ko2_0 rfl rfl (Nat.le_of_ble_eq_true rfl) dX12_tyre_7 (fun v2 M3 h4 => ?_)
  refine j_if_eq (tgt := 47) (pc := 10) h4 dX12_tyre_10 (by decide) (fun c5 => ?_) (fun c5 => ?_)
  · skip
    refine j_iconst (pc := 47) dX12_tyre_47 ?_
    exact j_iret (pc := 48) (jm_inL (by decide) (by decide)) rfl dX12_tyre_48
  · skip
    refine j_iload_n (pc := 13) dX12_tyre_13 rfl (q := 2) rfl ?_
    refine j_i2l (pc := 14) hl2 dX12_tyre_14 ?_
    refine j_lconst (pc := 15) 0 dX12_tyre_15 rfl ?_
    refine j_ldc2 (pc := 16) 3 kg_1371 (by decide) dX12_tyre_16 ?_
    refine j_callSi3 (pc := 19) (ct_X12_in M3 l2 0 3 hl2 (jm_inL (by decide) (by decide)) (jm_inL (by decide) (by decide))) kg_1347 km_X12_in kg_1348 rfl rfl ⟨(Nat.le_of_ble_eq_true rfl), (Nat.le_of_ble_eq_true rfl)⟩ rfl rfl (Nat.le_of_ble_eq_true rfl) dX12_tyre_19 (fun v6 M7 h8 => ?_)
    refine j_if_eq (tgt := 47) (pc := 22) h8 dX12_tyre_22 (by decide) (fun c9 => ?_) (fun c9 => ?_)
    · skip
      refine j_iconst (pc := 47) dX12_tyre_47 ?_
      exact j_iret (pc := 48) (jm_inL (by decide) (by decide)) rfl dX12_tyre_48
    · skip
      refine j_iload_n (pc := 25) dX12_tyre_25 rfl (q := 3) rfl ?_
      refine j_i2l (pc := 26) hl3 dX12_tyre_26 ?_
      refine j_lconst (pc := 27) 0 dX12_tyre_27 rfl ?_
      refine j_ldc2 (pc := 28) 100 kg_1380 (by decide) dX12_tyre_28 ?_
      refine j_callSi3 (pc := 31) (ct_X12_in M7 l3 0 100 hl3 (jm_inL (by decide) (by decide)) (jm_inL (by decide) (by decide))) kg_1347 km_X12_in kg_1348 rfl rfl ⟨(Nat.le_of_ble_eq_true rfl), (Nat.le_of_ble_eq_true rfl)⟩ rfl rfl (Nat.le_of_ble_eq_true rfl) dX12_tyre_31 (fun v10 M11 h12 => ?_)
      refine j_if_eq (tgt := 47) (pc := 34) h12 dX12_tyre_34 (by decide) (fun c13 => ?_) (fun c13 => ?_)
      · skip
        refine j_iconst (pc := 47) dX12_tyre_47 ?_
        exact j_iret (pc := 48) (jm_inL (by decide) (by decide)) rfl dX12_tyre_48
      · skip
        refine j_aload_n (pc := 37) dX12_tyre_37 rfl (q := 0) rfl ?_
        refine j_getr (pc := 38) jv2_0 jm_01 kf_RX12_133 0 kg2_0_24 rfl dX12_tyre_38 ?_
        refine j_iload_n (pc := 41) dX12_tyre_41 rfl (q := 1) rfl ?_
        refine j_iald (pc := 42) jv2_19 jm_01 rfl (by decide) ka2_19 dX12_tyre_42 (fun c14 h15 => ?_)
        refine j_iconst (pc := 43) dX12_tyre_43 ?_
        refine j_icmp_ne (tgt := 49) (pc := 44) h15 (jm_inL (by decide) (by decide)) dX12_tyre_44 (by decide) (fun c16 => ?_) (fun c16 => ?_)
        · skip
          refine j_iconst (pc := 47) dX12_tyre_47 ?_
          exact j_iret (pc := 48) (jm_inL (by decide) (by decide)) rfl dX12_tyre_48
        · skip
          refine j_aload_n (pc := 49) dX12_tyre_49 rfl (q := 0) rfl ?_
          refine j_getr (pc := 50) jv2_0 jm_01 kf_RX12_148 0 kg2_0_25 rfl dX12_tyre_50 ?_
          refine j_iconst (pc := 53) dX12_tyre_53 ?_
          refine j_iload_n (pc := 54) dX12_tyre_54 rfl (q := 1) rfl ?_
          refine j_imul (pc := 55) dX12_tyre_55 ?_
          refine j_aload_n (pc := 56) dX12_tyre_56 rfl (q := 0) rfl ?_
          refine j_getr (pc := 57) jv2_0 jm_01 kf_RX12_133 0 kg2_0_24 rfl dX12_tyre_57 ?_
          refine j_iload_n (pc := 60) dX12_tyre_60 rfl (q := 1) rfl ?_
          refine j_iald (pc := 61) jv2_19 jm_01 rfl (by decide) ka2_19 dX12_tyre_61 (fun c17 h18 => ?_)
          refine j_iadd (pc := 62) dX12_tyre_62 ?_
          refine j_iload_n (pc := 63) dX12_tyre_63 rfl (q := 2) rfl ?_
          refine j_iast (pc := 64) jv2_20 jm_01 rfl (by decide) wI2 ka2_20 hl2 dX12_tyre_64 (fun c19 M20 => ?_)
          refine j_aload_n (pc := 65) dX12_tyre_65 rfl (q := 0) rfl ?_
          refine j_getr (pc := 66) jv2_0 jm_01 kf_RX12_151 0 kg2_0_26 rfl dX12_tyre_66 ?_
          refine j_iconst (pc := 69) dX12_tyre_69 ?_
          refine j_iload_n (pc := 70) dX12_tyre_70 rfl (q := 1) rfl ?_
          refine j_imul (pc := 71) dX12_tyre_71 ?_
          refine j_aload_n (pc := 72) dX12_tyre_72 rfl (q := 0) rfl ?_
          refine j_getr (pc := 73) jv2_0 jm_01 kf_RX12_133 0 kg2_0_24 rfl dX12_tyre_73 ?_
          refine j_iload_n (pc := 76) dX12_tyre_76 rfl (q := 1) rfl ?_
          refine j_iald (pc := 77) jv2_19 jm_01 rfl (by decide) ka2_19 dX12_tyre_77 (fun c21 h22 => ?_)
          refine j_iadd (pc := 78) dX12_tyre_78 ?_
          refine j_iload_n (pc := 79) dX12_tyre_79 rfl (q := 3) rfl ?_
          refine j_iast (pc := 80) jv2_21 jm_01 rfl (by decide) wI2 ka2_21 hl3 dX12_tyre_80 (fun c23 M24 => ?_)
          refine j_aload_n (pc := 81) dX12_tyre_81 rfl (q := 0) rfl ?_
          refine j_getr (pc := 82) jv2_0 jm_01 kf_RX12_133 0 kg2_0_24 rfl dX12_tyre_82 ?_
          refine j_iload_n (pc := 85) dX12_tyre_85 rfl (q := 1) rfl ?_
          refine j_dup2 (pc := 86) dX12_tyre_86 rfl rfl ?_
          refine j_iald (pc := 87) jv2_19 jm_01 rfl (by decide) ka2_19 dX12_tyre_87 (fun c25 h26 => ?_)
          refine j_iconst (pc := 88) dX12_tyre_88 ?_
          refine j_iadd (pc := 89) dX12_tyre_89 ?_
          refine j_iast (pc := 90) jv2_19 jm_01 rfl (by decide) wI2 ka2_19 (jm_w_in _) dX12_tyre_90 (fun c27 M28 => ?_)
          refine j_aload_n (pc := 91) dX12_tyre_91 rfl (q := 0) rfl ?_
          refine j_getr (pc := 92) jv2_0 jm_01 kf_RX12_133 0 kg2_0_24 rfl dX12_tyre_92 ?_
          refine j_iload_n (pc := 95) dX12_tyre_95 rfl (q := 1) rfl ?_
          refine j_iald (pc := 96) jv2_19 jm_01 rfl (by decide) ka2_19 dX12_tyre_96 (fun c29 h30 => ?_)
          refine j_iconst (pc := 97) dX12_tyre_97 ?_
          refine j_isub (pc := 98) dX12_tyre_98 ?_
          exact j_iret (pc := 99) (jm_w_in _) rfl dX12_tyre_99
abbrev rmX12_isLap : Room := { frames := 1, cells := 0, slots := 0, locals := 25 }
set_option maxHeartbeats 4000000 in
set_option maxRecDepth 100000 in
theorem ct_X12_isLap (M : jm_M) (l1 : Int) (hl1 : jm_in l1) : jm_Ci wd2 yX12_isLap cX12_isLap 2 (some .boolean) rmX12_isLap M (fun G ad => [.ref (ad (jm_r wd2 0 0)), jm_i l1]) (fX12_isLap M l1) := by
  refine jm_met_i (fun X => [(0, jm_vr wd2 X 0 0), (1, jm_i l1)]) (by decide) (fun _ _ => (Nat.le_of_ble_eq_true rfl)) (fun _ => rfl) (fun X => ?_)
  unfold fX12_isLap
  refine j_iload_n (pc := 0) dX12_isLap_0 rfl (q := 1) rfl ?_
  refine j_i2l (pc := 1) hl1 dX12_isLap_1 ?_
  refine j_lconst (pc := 2) 0 dX12_isLap_2 rfl ?_
  refine j_aload_n (pc := 3) dX12_isLap_3 rfl (q := 0) rfl ?_
  refine j_geti (pc := 4) jv2_0 jm_01 kf_RX12_10 kg2_0_2 dX12_isLap_4 (fun h1 => ?_)
  refine j_iconst (pc := 7) dX12_isLap_7 ?_
  refine j_isub (pc := 8) dX12_isLap_8 ?_
  refine j_i2l (pc := 9) (jm_w_in _) dX12_isLap_9 ?_
  refine j_callSi3 (pc := 10) (ct_X12_in M l1 0 (jm_w ((M 0 0 2) - 1)) hl1 (jm_inL (by decide) (by decide)) (jm_w_in _)) kg_1347 km_X12_in kg_1348 rfl rfl ⟨(Nat.le_of_ble_eq_true rfl), (Nat.le_of_ble_eq_true rfl)⟩ rfl rfl (Nat.le_of_ble_eq_true rfl) dX12_isLap_10 (fun v2 M3 h4 => ?_)
  exact j_zret (pc := 13) h4 dX12_isLap_13
abbrev rmX12_order : Room := { frames := 2, cells := 0, slots := 0, locals := 46 }
set_option maxHeartbeats 4000000 in
set_option maxRecDepth 100000 in
theorem bX12_order_45 (X : jm_X) (fu : Nat) : ∀ (M : jm_M) (l1 l2 l3 l4 s0 s1 : Int) (hl1 : jm_in l1) (hl2 : jm_in l2) (hl3 : jm_in l3) (hl4 : jm_in l4) (hs0 : jm_in s0) (hs1 : jm_in s1), jm_J wd2 (jm_qi .int) cX12_order 6 RX12 rmX12_order X M [(0, jm_vr wd2 X 0 0), (1, jm_i l1), (2, jm_i l2), (3, jm_i l3), (4, jm_i l4)] [jm_l s0, jm_l s1] 45 (gX12_order_45 fu M l1 l2 l3 l4 s0 s1) := by
  intro M l1 l2 l3 l4 s0 s1 hl1 hl2 hl3 hl4 hs0 hs1
  unfold gX12_order_45
  refine j_lconst (pc := 45) 1 dX12_order_45 rfl ?_
  refine j_callSi3 (pc := 46) (ct_X12_in M s1 s0 1 hs1 hs0 (jm_inL (by decide) (by decide))) kg_1347 km_X12_in kg_1348 rfl rfl ⟨(Nat.le_of_ble_eq_true rfl), (Nat.le_of_ble_eq_true rfl)⟩ rfl rfl (Nat.le_of_ble_eq_true rfl) dX12_order_46 (fun v1 M2 h3 => ?_)
  refine j_if_eq (tgt := 63) (pc := 49) h3 dX12_order_49 (by decide) (fun c4 => ?_) (fun c4 => ?_)
  · skip
    refine j_iconst (pc := 63) dX12_order_63 ?_
    exact j_iret (pc := 64) (jm_inL (by decide) (by decide)) rfl dX12_order_64
  · skip
    refine j_aload_n (pc := 52) dX12_order_52 rfl (q := 0) rfl ?_
    refine j_getr (pc := 53) jv2_0 jm_01 kf_RX12_136 0 kg2_0_27 rfl dX12_order_53 ?_
    refine j_iload_n (pc := 56) dX12_order_56 rfl (q := 1) rfl ?_
    refine j_iald (pc := 57) jv2_22 jm_01 rfl (by decide) ka2_22 dX12_order_57 (fun c5 h6 => ?_)
    refine j_bipush (pc := 58) 12 dX12_order_58 (by decide) ?_
    refine j_icmp_ne (tgt := 65) (pc := 60) h6 (jm_inL (by decide) (by decide)) dX12_order_60 (by decide) (fun c7 => ?_) (fun c7 => ?_)
    · skip
      refine j_iconst (pc := 63) dX12_order_63 ?_
      exact j_iret (pc := 64) (jm_inL (by decide) (by decide)) rfl dX12_order_64
    · skip
      refine j_bipush (pc := 65) 12 dX12_order_65 (by decide) ?_
      refine j_iload_n (pc := 67) dX12_order_67 rfl (q := 1) rfl ?_
      refine j_imul (pc := 68) dX12_order_68 ?_
      refine j_aload_n (pc := 69) dX12_order_69 rfl (q := 0) rfl ?_
      refine j_getr (pc := 70) jv2_0 jm_01 kf_RX12_136 0 kg2_0_27 rfl dX12_order_70 ?_
      refine j_iload_n (pc := 73) dX12_order_73 rfl (q := 1) rfl ?_
      refine j_iald (pc := 74) jv2_22 jm_01 rfl (by decide) ka2_22 dX12_order_74 (fun c8 h9 => ?_)
      refine j_iadd (pc := 75) dX12_order_75 ?_
      refine j_nm (pc := 76) (jm_w_in _) (fun v10 h11 => ?_)
      refine j_istore (pc := 76) [(5, jm_i v10), (0, jm_vr wd2 X 0 0), (1, jm_i l1), (2, jm_i l2), (3, jm_i l3), (4, jm_i l4)] dX12_order_76 (by decide) rfl ?_
      refine j_aload_n (pc := 78) dX12_order_78 rfl (q := 1) rfl ?_
      refine j_getr (pc := 79) jv2_0 jm_01 kf_RX12_157 0 kg2_0_28 rfl dX12_order_79 ?_
      refine j_iload (pc := 82) dX12_order_82 (q := 0) rfl ?_
      refine j_iload_n (pc := 84) dX12_order_84 rfl (q := 3) rfl ?_
      refine j_iast (pc := 85) jv2_23 jm_01 rfl (by decide) wI2 ka2_23 hl2 dX12_order_85 (fun c12 M13 => ?_)
      refine j_aload_n (pc := 86) dX12_order_86 rfl (q := 1) rfl ?_
      refine j_getr (pc := 87) jv2_0 jm_01 kf_RX12_160 0 kg2_0_29 rfl dX12_order_87 ?_
      refine j_iload (pc := 90) dX12_order_90 (q := 0) rfl ?_
      refine j_iload_n (pc := 92) dX12_order_92 rfl (q := 4) rfl ?_
      refine j_iast (pc := 93) jv2_24 jm_01 rfl (by decide) wI2 ka2_24 hl3 dX12_order_93 (fun c14 M15 => ?_)
      refine j_aload_n (pc := 94) dX12_order_94 rfl (q := 1) rfl ?_
      refine j_getr (pc := 95) jv2_0 jm_01 kf_RX12_163 0 kg2_0_30 rfl dX12_order_95 ?_
      refine j_iload (pc := 98) dX12_order_98 (q := 0) rfl ?_
      refine j_iload (pc := 100) dX12_order_100 (q := 5) rfl ?_
      refine j_iast (pc := 102) jv2_25 jm_01 rfl (by decide) wI2 ka2_25 hl4 dX12_order_102 (fun c16 M17 => ?_)
      refine j_aload_n (pc := 103) dX12_order_103 rfl (q := 1) rfl ?_
      refine j_getr (pc := 104) jv2_0 jm_01 kf_RX12_136 0 kg2_0_27 rfl dX12_order_104 ?_
      refine j_iload_n (pc := 107) dX12_order_107 rfl (q := 2) rfl ?_
      refine j_dup2 (pc := 108) dX12_order_108 rfl rfl ?_
      refine j_iald (pc := 109) jv2_22 jm_01 rfl (by decide) ka2_22 dX12_order_109 (fun c18 h19 => ?_)
      refine j_iconst (pc := 110) dX12_order_110 ?_
      refine j_iadd (pc := 111) dX12_order_111 ?_
      refine j_iast (pc := 112) jv2_22 jm_01 rfl (by decide) wI2 ka2_22 (jm_w_in _) dX12_order_112 (fun c20 M21 => ?_)
      refine j_aload_n (pc := 113) dX12_order_113 rfl (q := 1) rfl ?_
      refine j_getr (pc := 114) jv2_0 jm_01 kf_RX12_136 0 kg2_0_27 rfl dX12_order_114 ?_
      refine j_iload_n (pc := 117) dX12_order_117 rfl (q := 2) rfl ?_
      refine j_iald (pc := 118) jv2_22 jm_01 rfl (by decide) ka2_22 dX12_order_118 (fun c22 h23 => ?_)
      exact j_iret (pc := 119) h23 rfl dX12_order_119
set_option maxHeartbeats 4000000 in
set_option maxRecDepth 100000 in
theorem ct_X12_order (fu : Nat) (M : jm_M) (l1 l2 l3 l4 : Int) (hl1 : jm_in l1) (hl2 : jm_in l2) (hl3 : jm_in l3) (hl4 : jm_in l4) : jm_Ci wd2 yX12_order cX12_order 6 (some .int) rmX12_order M (fun G ad => [.ref (ad (jm_r wd2 0 0)), jm_i l1, jm_i l2, jm_i l3, jm_i l4]) (fX12_order fu M l1 l2 l3 l4) := by
  refine jm_met_i (fun X => [(0, jm_vr wd2 X 0 0), (1, jm_i l1), (2, jm_i l2), (3, jm_i l3), (4, jm_i l4)]) (by decide) (fun _ _ => (Nat.le_of_ble_eq_true rfl)) (fun _ => rfl) (fun X => ?_)
  unfold fX12_order
  refine j_aload_n (pc := 0) dX12_order_0 rfl (q := 0) rfl ?_
  refine j_iconst (pc := 1) dX12_order_1 ?_
  refine j_put (pc := 2) jv2_0 jm_01 kf_RX12_3 wI2 kp_X12_0 kx2_0_0 (jm_inL (by decide) (by decide)) rfl rfl dX12_order_2 (fun M1 => ?_)
  refine j_aload_n (pc := 5) dX12_order_5 rfl (q := 0) rfl ?_
  refine j_iload_n (pc := 6) dX12_order_6 rfl (q := 1) rfl ?_
  refine j_callVi1 (pc := 7) (ct_X12_isCar M1 l1 hl1) kg_1405 km_X12_isCar kv_X12_isCar rfl rfl ⟨(Nat.le_of_ble_eq_true rfl), (Nat.le_of_ble_eq_true rfl)⟩ jv2_0 jm_01 ko2_0 rfl rfl (Nat.le_of_ble_eq_true rfl) dX12_order_7 (fun v2 M3 h4 => ?_)
  refine j_if_eq (tgt := 63) (pc := 10) h4 dX12_order_10 (by decide) (fun c5 => ?_) (fun c5 => ?_)
  · skip
    refine j_iconst (pc := 63) dX12_order_63 ?_
    exact j_iret (pc := 64) (jm_inL (by decide) (by decide)) rfl dX12_order_64
  · skip
    refine j_aload_n (pc := 13) dX12_order_13 rfl (q := 0) rfl ?_
    refine j_iload_n (pc := 14) dX12_order_14 rfl (q := 2) rfl ?_
    refine j_callVi1 (pc := 15) (ct_X12_isLap M3 l2 hl2) kg_1413 km_X12_isLap kv_X12_isLap rfl rfl ⟨(Nat.le_of_ble_eq_true rfl), (Nat.le_of_ble_eq_true rfl)⟩ jv2_0 jm_01 ko2_0 rfl rfl (Nat.le_of_ble_eq_true rfl) dX12_order_15 (fun v6 M7 h8 => ?_)
    refine j_if_eq (tgt := 63) (pc := 18) h8 dX12_order_18 (by decide) (fun c9 => ?_) (fun c9 => ?_)
    · skip
      refine j_iconst (pc := 63) dX12_order_63 ?_
      exact j_iret (pc := 64) (jm_inL (by decide) (by decide)) rfl dX12_order_64
    · skip
      refine j_iload_n (pc := 21) dX12_order_21 rfl (q := 3) rfl ?_
      refine j_i2l (pc := 22) hl3 dX12_order_22 ?_
      refine j_lconst (pc := 23) 0 dX12_order_23 rfl ?_
      refine j_lconst (pc := 24) 1 dX12_order_24 rfl ?_
      refine j_callSi3 (pc := 25) (ct_X12_in M7 l3 0 1 hl3 (jm_inL (by decide) (by decide)) (jm_inL (by decide) (by decide))) kg_1347 km_X12_in kg_1348 rfl rfl ⟨(Nat.le_of_ble_eq_true rfl), (Nat.le_of_ble_eq_true rfl)⟩ rfl rfl (Nat.le_of_ble_eq_true rfl) dX12_order_25 (fun v10 M11 h12 => ?_)
      refine j_if_eq (tgt := 63) (pc := 28) h12 dX12_order_28 (by decide) (fun c13 => ?_) (fun c13 => ?_)
      · skip
        refine j_iconst (pc := 63) dX12_order_63 ?_
        exact j_iret (pc := 64) (jm_inL (by decide) (by decide)) rfl dX12_order_64
      · skip
        refine j_iload (pc := 31) dX12_order_31 (q := 4) rfl ?_
        refine j_i2l (pc := 33) hl4 dX12_order_33 ?_
        refine j_iload_n (pc := 34) dX12_order_34 rfl (q := 3) rfl ?_
        refine j_if_ne (tgt := 44) (pc := 35) hl3 dX12_order_35 (by decide) (fun c14 => ?_) (fun c14 => ?_)
        · skip
          refine j_ldc2 (pc := 38) (-1) kg_1366 (by decide) dX12_order_38 ?_
          refine j_goto (tgt := 45) (pc := 41) dX12_order_41 (by decide) ?_
          refine j_sub (pc := 45) [(0, jm_vr wd2 X 0 0), (1, jm_i l1), (2, jm_i l2), (3, jm_i l3), (4, jm_i l4)] [0, 1, 2, 3, 4] rfl ?_
          exact bX12_order_45 X fu  M11 l1 l2 l3 l4 (-1) l4 hl1 hl2 hl3 hl4 (jm_inL (by decide) (by decide)) hl4
        · skip
          refine j_lconst (pc := 44) 0 dX12_order_44 rfl ?_
          refine j_sub (pc := 45) [(0, jm_vr wd2 X 0 0), (1, jm_i l1), (2, jm_i l2), (3, jm_i l3), (4, jm_i l4)] [0, 1, 2, 3, 4] rfl ?_
          exact bX12_order_45 X fu  M11 l1 l2 l3 l4 0 l4 hl1 hl2 hl3 hl4 (jm_inL (by decide) (by decide)) hl4
abbrev rmX12_isStopLap : Room := { frames := 1, cells := 0, slots := 0, locals := 25 }
set_option maxHeartbeats 4000000 in
set_option maxRecDepth 100000 in
theorem ct_X12_isStopLap (M : jm_M) (l1 : Int) (hl1 : jm_in l1) : jm_Ci wd2 yX12_isStopLap cX12_isStopLap 2 (some .boolean) rmX12_isStopLap M (fun G ad => [.ref (ad (jm_r wd2 0 0)), jm_i l1]) (fX12_isStopLap M l1) := by
  refine jm_met_i (fun X => [(0, jm_vr wd2 X 0 0), (1, jm_i l1)]) (by decide) (fun _ _ => (Nat.le_of_ble_eq_true rfl)) (fun _ => rfl) (fun X => ?_)
  unfold fX12_isStopLap
  refine j_iload_n (pc := 0) dX12_isStopLap_0 rfl (q := 1) rfl ?_
  refine j_i2l (pc := 1) hl1 dX12_isStopLap_1 ?_
  refine j_lconst (pc := 2) 0 dX12_isStopLap_2 rfl ?_
  refine j_aload_n (pc := 3) dX12_isStopLap_3 rfl (q := 0) rfl ?_
  refine j_geti (pc := 4) jv2_0 jm_01 kf_RX12_10 kg2_0_2 dX12_isStopLap_4 (fun h1 => ?_)
  refine j_iconst (pc := 7) dX12_isStopLap_7 ?_
  refine j_isub (pc := 8) dX12_isStopLap_8 ?_
  refine j_i2l (pc := 9) (jm_w_in _) dX12_isStopLap_9 ?_
  refine j_callSi3 (pc := 10) (ct_X12_in M l1 0 (jm_w ((M 0 0 2) - 2)) hl1 (jm_inL (by decide) (by decide)) (jm_w_in _)) kg_1347 km_X12_in kg_1348 rfl rfl ⟨(Nat.le_of_ble_eq_true rfl), (Nat.le_of_ble_eq_true rfl)⟩ rfl rfl (Nat.le_of_ble_eq_true rfl) dX12_isStopLap_10 (fun v2 M3 h4 => ?_)
  exact j_zret (pc := 13) h4 dX12_isStopLap_13
abbrev rmX12_isSet : Room := { frames := 1, cells := 0, slots := 0, locals := 25 }
set_option maxHeartbeats 4000000 in
set_option maxRecDepth 100000 in
theorem ct_X12_isSet (M : jm_M) (l0 : Int) (hl0 : jm_in l0) : jm_Ci wd2 yX12_isSet cX12_isSet 1 (some .boolean) rmX12_isSet M (fun G ad => [jm_i l0]) (fX12_isSet M l0) := by
  refine jm_met_i (fun X => [(0, jm_i l0)]) (by decide) (fun _ _ => (Nat.le_of_ble_eq_true rfl)) (fun _ => rfl) (fun X => ?_)
  unfold fX12_isSet
  refine j_iload_n (pc := 0) dX12_isSet_0 rfl (q := 0) rfl ?_
  refine j_i2l (pc := 1) hl0 dX12_isSet_1 ?_
  refine j_ldc2 (pc := 2) (-1) kg_1366 (by decide) dX12_isSet_2 ?_
  refine j_ldc2 (pc := 5) 3 kg_1371 (by decide) dX12_isSet_5 ?_
  refine j_callSi3 (pc := 8) (ct_X12_in M l0 (-1) 3 hl0 (jm_inL (by decide) (by decide)) (jm_inL (by decide) (by decide))) kg_1347 km_X12_in kg_1348 rfl rfl ⟨(Nat.le_of_ble_eq_true rfl), (Nat.le_of_ble_eq_true rfl)⟩ rfl rfl (Nat.le_of_ble_eq_true rfl) dX12_isSet_8 (fun v1 M2 h3 => ?_)
  exact j_zret (pc := 11) h3 dX12_isSet_11
abbrev rmX12_puts : Room := { frames := 0, cells := 0, slots := 0, locals := 0 }
set_option maxHeartbeats 4000000 in
set_option maxRecDepth 100000 in
theorem ct_X12_puts (M : jm_M) (l1 l2 l3 l4 : Int) (hl1 : jm_in l1) (hl2 : jm_in l2) (hl3 : jm_in l3) (hl4 : jm_in l4) : jm_Cv wd2 yX12_puts cX12_puts 6 none rmX12_puts M (fun G ad => [.ref (ad (jm_r wd2 0 0)), jm_i l1, jm_i l2, jm_i l3, jm_i l4]) (fX12_puts M l1 l2 l3 l4) := by
  refine jm_met_v (fun X => [(0, jm_vr wd2 X 0 0), (1, jm_i l1), (2, jm_i l2), (3, jm_i l3), (4, jm_i l4)]) (by decide) (fun _ _ => (Nat.le_of_ble_eq_true rfl)) (fun _ => rfl) (fun X => ?_)
  unfold fX12_puts
  refine j_iconst (pc := 0) dX12_puts_0 ?_
  refine j_iload_n (pc := 1) dX12_puts_1 rfl (q := 1) rfl ?_
  refine j_imul (pc := 2) dX12_puts_2 ?_
  refine j_aload_n (pc := 3) dX12_puts_3 rfl (q := 0) rfl ?_
  refine j_getr (pc := 4) jv2_0 jm_01 kf_RX12_139 0 kg2_0_31 rfl dX12_puts_4 ?_
  refine j_iload_n (pc := 7) dX12_puts_7 rfl (q := 1) rfl ?_
  refine j_iald (pc := 8) jv2_26 jm_01 rfl (by decide) ka2_26 dX12_puts_8 (fun c1 h2 => ?_)
  refine j_iadd (pc := 9) dX12_puts_9 ?_
  refine j_nm (pc := 10) (jm_w_in _) (fun v3 h4 => ?_)
  refine j_istore (pc := 10) [(5, jm_i v3), (0, jm_vr wd2 X 0 0), (1, jm_i l1), (2, jm_i l2), (3, jm_i l3), (4, jm_i l4)] dX12_puts_10 (by decide) rfl ?_
  refine j_aload_n (pc := 12) dX12_puts_12 rfl (q := 1) rfl ?_
  refine j_getr (pc := 13) jv2_0 jm_01 kf_RX12_176 0 kg2_0_32 rfl dX12_puts_13 ?_
  refine j_iload (pc := 16) dX12_puts_16 (q := 0) rfl ?_
  refine j_iload_n (pc := 18) dX12_puts_18 rfl (q := 3) rfl ?_
  refine j_iast (pc := 19) jv2_27 jm_01 rfl (by decide) wI2 ka2_27 hl2 dX12_puts_19 (fun c5 M6 => ?_)
  refine j_aload_n (pc := 20) dX12_puts_20 rfl (q := 1) rfl ?_
  refine j_getr (pc := 21) jv2_0 jm_01 kf_RX12_179 0 kg2_0_33 rfl dX12_puts_21 ?_
  refine j_iload (pc := 24) dX12_puts_24 (q := 0) rfl ?_
  refine j_iload_n (pc := 26) dX12_puts_26 rfl (q := 4) rfl ?_
  refine j_iast (pc := 27) jv2_28 jm_01 rfl (by decide) wI2 ka2_28 hl3 dX12_puts_27 (fun c7 M8 => ?_)
  refine j_aload_n (pc := 28) dX12_puts_28 rfl (q := 1) rfl ?_
  refine j_getr (pc := 29) jv2_0 jm_01 kf_RX12_182 0 kg2_0_34 rfl dX12_puts_29 ?_
  refine j_iload (pc := 32) dX12_puts_32 (q := 0) rfl ?_
  refine j_iload (pc := 34) dX12_puts_34 (q := 5) rfl ?_
  refine j_iast (pc := 36) jv2_29 jm_01 rfl (by decide) wI2 ka2_29 hl4 dX12_puts_36 (fun c9 M10 => ?_)
  refine j_aload_n (pc := 37) dX12_puts_37 rfl (q := 1) rfl ?_
  refine j_getr (pc := 38) jv2_0 jm_01 kf_RX12_139 0 kg2_0_31 rfl dX12_puts_38 ?_
  refine j_iload_n (pc := 41) dX12_puts_41 rfl (q := 2) rfl ?_
  refine j_dup2 (pc := 42) dX12_puts_42 rfl rfl ?_
  refine j_iald (pc := 43) jv2_26 jm_01 rfl (by decide) ka2_26 dX12_puts_43 (fun c11 h12 => ?_)
  refine j_iconst (pc := 44) dX12_puts_44 ?_
  refine j_iadd (pc := 45) dX12_puts_45 ?_
  refine j_iast (pc := 46) jv2_26 jm_01 rfl (by decide) wI2 ka2_26 (jm_w_in _) dX12_puts_46 (fun c13 M14 => ?_)
  exact j_vret (pc := 47) dX12_puts_47
abbrev rmX12_stop : Room := { frames := 2, cells := 0, slots := 0, locals := 46 }
set_option maxHeartbeats 4000000 in
set_option maxRecDepth 100000 in
theorem ct_X12_stop (M : jm_M) (l1 l2 l3 l4 : Int) (hl1 : jm_in l1) (hl2 : jm_in l2) (hl3 : jm_in l3) (hl4 : jm_in l4) : jm_Ci wd2 yX12_stop cX12_stop 5 (some .int) rmX12_stop M (fun G ad => [.ref (ad (jm_r wd2 0 0)), jm_i l1, jm_i l2, jm_i l3, jm_i l4]) (fX12_stop M l1 l2 l3 l4) := by
  refine jm_met_i (fun X => [(0, jm_vr wd2 X 0 0), (1, jm_i l1), (2, jm_i l2), (3, jm_i l3), (4, jm_i l4)]) (by decide) (fun _ _ => (Nat.le_of_ble_eq_true rfl)) (fun _ => rfl) (fun X => ?_)
  unfold fX12_stop
  refine j_aload_n (pc := 0) dX12_stop_0 rfl (q := 0) rfl ?_
  refine j_iconst (pc := 1) dX12_stop_1 ?_
  refine j_put (pc := 2) jv2_0 jm_01 kf_RX12_3 wI2 kp_X12_0 kx2_0_0 (jm_inL (by decide) (by decide)) rfl rfl dX12_stop_2 (fun M1 => ?_)
  refine j_aload_n (pc := 5) dX12_stop_5 rfl (q := 0) rfl ?_
  refine j_iload_n (pc := 6) dX12_stop_6 rfl (q := 1) rfl ?_
  refine j_callVi1 (pc := 7) (ct_X12_isCar M1 l1 hl1) kg_1405 km_X12_isCar kv_X12_isCar rfl rfl ⟨(Nat.le_of_ble_eq_true rfl), (Nat.le_of_ble_eq_true rfl)⟩ jv2_0 jm_01 ko2_0 rfl rfl (Nat.le_of_ble_eq_true rfl) dX12_stop_7 (fun v2 M3 h4 => ?_)
  refine j_if_eq (tgt := 51) (pc := 10) h4 dX12_stop_10 (by decide) (fun c5 => ?_) (fun c5 => ?_)
  · skip
    refine j_iconst (pc := 51) dX12_stop_51 ?_
    exact j_iret (pc := 52) (jm_inL (by decide) (by decide)) rfl dX12_stop_52
  · skip
    refine j_aload_n (pc := 13) dX12_stop_13 rfl (q := 0) rfl ?_
    refine j_iload_n (pc := 14) dX12_stop_14 rfl (q := 2) rfl ?_
    refine j_callVi1 (pc := 15) (ct_X12_isStopLap M3 l2 hl2) kg_1421 km_X12_isStopLap kv_X12_isStopLap rfl rfl ⟨(Nat.le_of_ble_eq_true rfl), (Nat.le_of_ble_eq_true rfl)⟩ jv2_0 jm_01 ko2_0 rfl rfl (Nat.le_of_ble_eq_true rfl) dX12_stop_15 (fun v6 M7 h8 => ?_)
    refine j_if_eq (tgt := 51) (pc := 18) h8 dX12_stop_18 (by decide) (fun c9 => ?_) (fun c9 => ?_)
    · skip
      refine j_iconst (pc := 51) dX12_stop_51 ?_
      exact j_iret (pc := 52) (jm_inL (by decide) (by decide)) rfl dX12_stop_52
    · skip
      refine j_iload_n (pc := 21) dX12_stop_21 rfl (q := 3) rfl ?_
      refine j_callSi1 (pc := 22) (ct_X12_isSet M7 l3 hl3) kg_1425 km_X12_isSet kg_1426 rfl rfl ⟨(Nat.le_of_ble_eq_true rfl), (Nat.le_of_ble_eq_true rfl)⟩ rfl rfl (Nat.le_of_ble_eq_true rfl) dX12_stop_22 (fun v10 M11 h12 => ?_)
      refine j_if_eq (tgt := 51) (pc := 25) h12 dX12_stop_25 (by decide) (fun c13 => ?_) (fun c13 => ?_)
      · skip
        refine j_iconst (pc := 51) dX12_stop_51 ?_
        exact j_iret (pc := 52) (jm_inL (by decide) (by decide)) rfl dX12_stop_52
      · skip
        refine j_iload (pc := 28) dX12_stop_28 (q := 4) rfl ?_
        refine j_i2l (pc := 30) hl4 dX12_stop_30 ?_
        refine j_lconst (pc := 31) 0 dX12_stop_31 rfl ?_
        refine j_ldc2 (pc := 32) 200 kg_1399 (by decide) dX12_stop_32 ?_
        refine j_callSi3 (pc := 35) (ct_X12_in M11 l4 0 200 hl4 (jm_inL (by decide) (by decide)) (jm_inL (by decide) (by decide))) kg_1347 km_X12_in kg_1348 rfl rfl ⟨(Nat.le_of_ble_eq_true rfl), (Nat.le_of_ble_eq_true rfl)⟩ rfl rfl (Nat.le_of_ble_eq_true rfl) dX12_stop_35 (fun v14 M15 h16 => ?_)
        refine j_if_eq (tgt := 51) (pc := 38) h16 dX12_stop_38 (by decide) (fun c17 => ?_) (fun c17 => ?_)
        · skip
          refine j_iconst (pc := 51) dX12_stop_51 ?_
          exact j_iret (pc := 52) (jm_inL (by decide) (by decide)) rfl dX12_stop_52
        · skip
          refine j_aload_n (pc := 41) dX12_stop_41 rfl (q := 0) rfl ?_
          refine j_getr (pc := 42) jv2_0 jm_01 kf_RX12_139 0 kg2_0_31 rfl dX12_stop_42 ?_
          refine j_iload_n (pc := 45) dX12_stop_45 rfl (q := 1) rfl ?_
          refine j_iald (pc := 46) jv2_26 jm_01 rfl (by decide) ka2_26 dX12_stop_46 (fun c18 h19 => ?_)
          refine j_iconst (pc := 47) dX12_stop_47 ?_
          refine j_icmp_ne (tgt := 53) (pc := 48) h19 (jm_inL (by decide) (by decide)) dX12_stop_48 (by decide) (fun c20 => ?_) (fun c20 => ?_)
          · skip
            refine j_iconst (pc := 51) dX12_stop_51 ?_
            exact j_iret (pc := 52) (jm_inL (by decide) (by decide)) rfl dX12_stop_52
          · skip
            refine j_aload_n (pc := 53) dX12_stop_53 rfl (q := 0) rfl ?_
            refine j_iload_n (pc := 54) dX12_stop_54 rfl (q := 1) rfl ?_
            refine j_iload_n (pc := 55) dX12_stop_55 rfl (q := 2) rfl ?_
            refine j_iload_n (pc := 56) dX12_stop_56 rfl (q := 3) rfl ?_
            refine j_iload (pc := 57) dX12_stop_57 (q := 4) rfl ?_
            refine j_callVv4 (pc := 59) (ct_X12_puts M15 l1 l2 l3 l4 hl1 hl2 hl3 hl4) kg_1428 km_X12_puts kv_X12_puts rfl rfl ⟨(Nat.le_of_ble_eq_true rfl), (Nat.le_of_ble_eq_true rfl)⟩ jv2_0 jm_01 ko2_0 rfl rfl (Nat.le_of_ble_eq_true rfl) dX12_stop_59 (fun v21 M22 => ?_)
            refine j_aload_n (pc := 62) dX12_stop_62 rfl (q := 0) rfl ?_
            refine j_getr (pc := 63) jv2_0 jm_01 kf_RX12_139 0 kg2_0_31 rfl dX12_stop_63 ?_
            refine j_iload_n (pc := 66) dX12_stop_66 rfl (q := 1) rfl ?_
            refine j_iald (pc := 67) jv2_26 jm_01 rfl (by decide) ka2_26 dX12_stop_67 (fun c23 h24 => ?_)
            exact j_iret (pc := 68) h24 rfl dX12_stop_68
abbrev rmX12_drop : Room := { frames := 2, cells := 0, slots := 0, locals := 46 }
set_option maxHeartbeats 4000000 in
set_option maxRecDepth 100000 in
theorem b0X12_drop_39 (X : jm_X) (fu : Nat) (k39 : jm_M → Int → Int → jm_R) (hk39 : ∀ (M : jm_M) (l1 l3 : Int) (hl1 : jm_in l1) (hl3 : jm_in l3), jm_J wd2 (jm_qi .int) cX12_drop 4 RX12 rmX12_drop X M [(0, jm_vr wd2 X 0 0), (1, jm_i l1), (3, jm_i l3)] [] 39 (k39 M l1 l3)) : ∀ (M : jm_M) (l1 l3 : Int) (hl1 : jm_in l1) (hl3 : jm_in l3), jm_J wd2 (jm_qi .int) cX12_drop 4 RX12 rmX12_drop X M [(0, jm_vr wd2 X 0 0), (1, jm_i l1), (3, jm_i l3)] [] 39 (gX12_drop_39 fu k39 M l1 l3) := by
  intro M l1 l3 hl1 hl3
  unfold gX12_drop_39
  refine j_iload_n (pc := 39) dX12_drop_39 rfl (q := 2) rfl ?_
  refine j_iconst (pc := 40) dX12_drop_40 ?_
  refine j_iload_n (pc := 41) dX12_drop_41 rfl (q := 1) rfl ?_
  refine j_imul (pc := 42) dX12_drop_42 ?_
  refine j_aload_n (pc := 43) dX12_drop_43 rfl (q := 0) rfl ?_
  refine j_getr (pc := 44) jv2_0 jm_01 kf_RX12_139 0 kg2_0_31 rfl dX12_drop_44 ?_
  refine j_iload_n (pc := 47) dX12_drop_47 rfl (q := 1) rfl ?_
  refine j_iald (pc := 48) jv2_26 jm_01 rfl (by decide) ka2_26 dX12_drop_48 (fun c1 h2 => ?_)
  refine j_iadd (pc := 49) dX12_drop_49 ?_
  refine j_iconst (pc := 50) dX12_drop_50 ?_
  refine j_isub (pc := 51) dX12_drop_51 ?_
  refine j_icmp_ge (tgt := 103) (pc := 52) hl3 (jm_w_in _) dX12_drop_52 (by decide) (fun c3 => ?_) (fun c3 => ?_)
  · skip
    refine j_aload_n (pc := 103) dX12_drop_103 rfl (q := 0) rfl ?_
    refine j_getr (pc := 104) jv2_0 jm_01 kf_RX12_139 0 kg2_0_31 rfl dX12_drop_104 ?_
    refine j_iload_n (pc := 107) dX12_drop_107 rfl (q := 1) rfl ?_
    refine j_dup2 (pc := 108) dX12_drop_108 rfl rfl ?_
    refine j_iald (pc := 109) jv2_26 jm_01 rfl (by decide) ka2_26 dX12_drop_109 (fun c4 h5 => ?_)
    refine j_iconst (pc := 110) dX12_drop_110 ?_
    refine j_isub (pc := 111) dX12_drop_111 ?_
    refine j_iast (pc := 112) jv2_26 jm_01 rfl (by decide) wI2 ka2_26 (jm_w_in _) dX12_drop_112 (fun c6 M7 => ?_)
    refine j_aload_n (pc := 113) dX12_drop_113 rfl (q := 0) rfl ?_
    refine j_getr (pc := 114) jv2_0 jm_01 kf_RX12_139 0 kg2_0_31 rfl dX12_drop_114 ?_
    refine j_iload_n (pc := 117) dX12_drop_117 rfl (q := 1) rfl ?_
    refine j_iald (pc := 118) jv2_26 jm_01 rfl (by decide) ka2_26 dX12_drop_118 (fun c8 h9 => ?_)
    exact j_iret (pc := 119) h9 rfl dX12_drop_119
  · skip
    refine j_aload_n (pc := 55) dX12_drop_55 rfl (q := 0) rfl ?_
    refine j_getr (pc := 56) jv2_0 jm_01 kf_RX12_176 0 kg2_0_32 rfl dX12_drop_56 ?_
    refine j_iload_n (pc := 59) dX12_drop_59 rfl (q := 2) rfl ?_
    refine j_aload_n (pc := 60) dX12_drop_60 rfl (q := 0) rfl ?_
    refine j_getr (pc := 61) jv2_0 jm_01 kf_RX12_176 0 kg2_0_32 rfl dX12_drop_61 ?_
    refine j_iload_n (pc := 64) dX12_drop_64 rfl (q := 2) rfl ?_
    refine j_iconst (pc := 65) dX12_drop_65 ?_
    refine j_iadd (pc := 66) dX12_drop_66 ?_
    refine j_iald (pc := 67) jv2_27 jm_01 rfl (by decide) ka2_27 dX12_drop_67 (fun c10 h11 => ?_)
    refine j_iast (pc := 68) jv2_27 jm_01 rfl (by decide) wI2 ka2_27 h11 dX12_drop_68 (fun c12 M13 => ?_)
    refine j_aload_n (pc := 69) dX12_drop_69 rfl (q := 0) rfl ?_
    refine j_getr (pc := 70) jv2_0 jm_01 kf_RX12_179 0 kg2_0_33 rfl dX12_drop_70 ?_
    refine j_iload_n (pc := 73) dX12_drop_73 rfl (q := 2) rfl ?_
    refine j_aload_n (pc := 74) dX12_drop_74 rfl (q := 0) rfl ?_
    refine j_getr (pc := 75) jv2_0 jm_01 kf_RX12_179 0 kg2_0_33 rfl dX12_drop_75 ?_
    refine j_iload_n (pc := 78) dX12_drop_78 rfl (q := 2) rfl ?_
    refine j_iconst (pc := 79) dX12_drop_79 ?_
    refine j_iadd (pc := 80) dX12_drop_80 ?_
    refine j_iald (pc := 81) jv2_28 jm_01 rfl (by decide) ka2_28 dX12_drop_81 (fun c14 h15 => ?_)
    refine j_iast (pc := 82) jv2_28 jm_01 rfl (by decide) wI2 ka2_28 h15 dX12_drop_82 (fun c16 M17 => ?_)
    refine j_aload_n (pc := 83) dX12_drop_83 rfl (q := 0) rfl ?_
    refine j_getr (pc := 84) jv2_0 jm_01 kf_RX12_182 0 kg2_0_34 rfl dX12_drop_84 ?_
    refine j_iload_n (pc := 87) dX12_drop_87 rfl (q := 2) rfl ?_
    refine j_aload_n (pc := 88) dX12_drop_88 rfl (q := 0) rfl ?_
    refine j_getr (pc := 89) jv2_0 jm_01 kf_RX12_182 0 kg2_0_34 rfl dX12_drop_89 ?_
    refine j_iload_n (pc := 92) dX12_drop_92 rfl (q := 2) rfl ?_
    refine j_iconst (pc := 93) dX12_drop_93 ?_
    refine j_iadd (pc := 94) dX12_drop_94 ?_
    refine j_iald (pc := 95) jv2_29 jm_01 rfl (by decide) ka2_29 dX12_drop_95 (fun c18 h19 => ?_)
    refine j_iast (pc := 96) jv2_29 jm_01 rfl (by decide) wI2 ka2_29 h19 dX12_drop_96 (fun c20 M21 => ?_)
    refine j_iinc (pc := 97) [(0, jm_vr wd2 X 0 0), (1, jm_i l1)] (q := 2) dX12_drop_97 rfl (by decide) (fun _ => rfl) (fun v22 h23 => ?_)
    refine j_goto (tgt := 39) (pc := 100) dX12_drop_100 (by decide) ?_
    refine j_sub (pc := 39) [(0, jm_vr wd2 X 0 0), (1, jm_i l1), (3, jm_i v22)] [1, 2, 0] rfl ?_
    exact hk39 M21 l1 v22 hl1 h23
theorem bX12_drop_39 (X : jm_X) (fu : Nat) : ∀ (n : Nat) (M : jm_M) (l1 l3 : Int) (hl1 : jm_in l1) (hl3 : jm_in l3), jm_J wd2 (jm_qi .int) cX12_drop 4 RX12 rmX12_drop X M [(0, jm_vr wd2 X 0 0), (1, jm_i l1), (3, jm_i l3)] [] 39 (fX12_drop_39 fu n M l1 l3) := by
  intro n
  induction n with
  | zero => intro M l1 l3 hl1 hl3; exact j_none
  | succ n ih => intro M l1 l3 hl1 hl3; exact b0X12_drop_39 X fu (fX12_drop_39 fu n) ih M l1 l3 hl1 hl3
set_option maxHeartbeats 4000000 in
set_option maxRecDepth 100000 in
theorem ct_X12_drop (fu : Nat) (M : jm_M) (l1 l2 : Int) (hl1 : jm_in l1) (hl2 : jm_in l2) : jm_Ci wd2 yX12_drop cX12_drop 4 (some .int) rmX12_drop M (fun G ad => [.ref (ad (jm_r wd2 0 0)), jm_i l1, jm_i l2]) (fX12_drop fu M l1 l2) := by
  refine jm_met_i (fun X => [(0, jm_vr wd2 X 0 0), (1, jm_i l1), (2, jm_i l2)]) (by decide) (fun _ _ => (Nat.le_of_ble_eq_true rfl)) (fun _ => rfl) (fun X => ?_)
  unfold fX12_drop
  refine j_aload_n (pc := 0) dX12_drop_0 rfl (q := 0) rfl ?_
  refine j_iconst (pc := 1) dX12_drop_1 ?_
  refine j_put (pc := 2) jv2_0 jm_01 kf_RX12_3 wI2 kp_X12_0 kx2_0_0 (jm_inL (by decide) (by decide)) rfl rfl dX12_drop_2 (fun M1 => ?_)
  refine j_aload_n (pc := 5) dX12_drop_5 rfl (q := 0) rfl ?_
  refine j_iload_n (pc := 6) dX12_drop_6 rfl (q := 1) rfl ?_
  refine j_callVi1 (pc := 7) (ct_X12_isCar M1 l1 hl1) kg_1405 km_X12_isCar kv_X12_isCar rfl rfl ⟨(Nat.le_of_ble_eq_true rfl), (Nat.le_of_ble_eq_true rfl)⟩ jv2_0 jm_01 ko2_0 rfl rfl (Nat.le_of_ble_eq_true rfl) dX12_drop_7 (fun v2 M3 h4 => ?_)
  refine j_if_eq (tgt := 31) (pc := 10) h4 dX12_drop_10 (by decide) (fun c5 => ?_) (fun c5 => ?_)
  · skip
    refine j_iconst (pc := 31) dX12_drop_31 ?_
    exact j_iret (pc := 32) (jm_inL (by decide) (by decide)) rfl dX12_drop_32
  · skip
    refine j_iload_n (pc := 13) dX12_drop_13 rfl (q := 2) rfl ?_
    refine j_i2l (pc := 14) hl2 dX12_drop_14 ?_
    refine j_lconst (pc := 15) 0 dX12_drop_15 rfl ?_
    refine j_aload_n (pc := 16) dX12_drop_16 rfl (q := 0) rfl ?_
    refine j_getr (pc := 17) jv2_0 jm_01 kf_RX12_139 0 kg2_0_31 rfl dX12_drop_17 ?_
    refine j_iload_n (pc := 20) dX12_drop_20 rfl (q := 1) rfl ?_
    refine j_iald (pc := 21) jv2_26 jm_01 rfl (by decide) ka2_26 dX12_drop_21 (fun c6 h7 => ?_)
    refine j_iconst (pc := 22) dX12_drop_22 ?_
    refine j_isub (pc := 23) dX12_drop_23 ?_
    refine j_i2l (pc := 24) (jm_w_in _) dX12_drop_24 ?_
    refine j_callSi3 (pc := 25) (ct_X12_in M3 l2 0 (jm_w ((M3 26 0 l1) - 1)) hl2 (jm_inL (by decide) (by decide)) (jm_w_in _)) kg_1347 km_X12_in kg_1348 rfl rfl ⟨(Nat.le_of_ble_eq_true rfl), (Nat.le_of_ble_eq_true rfl)⟩ rfl rfl (Nat.le_of_ble_eq_true rfl) dX12_drop_25 (fun v8 M9 h10 => ?_)
    refine j_if_ne (tgt := 33) (pc := 28) h10 dX12_drop_28 (by decide) (fun c11 => ?_) (fun c11 => ?_)
    · skip
      refine j_iconst (pc := 31) dX12_drop_31 ?_
      exact j_iret (pc := 32) (jm_inL (by decide) (by decide)) rfl dX12_drop_32
    · skip
      refine j_iconst (pc := 33) dX12_drop_33 ?_
      refine j_iload_n (pc := 34) dX12_drop_34 rfl (q := 1) rfl ?_
      refine j_imul (pc := 35) dX12_drop_35 ?_
      refine j_iload_n (pc := 36) dX12_drop_36 rfl (q := 2) rfl ?_
      refine j_iadd (pc := 37) dX12_drop_37 ?_
      refine j_nm (pc := 38) (jm_w_in _) (fun v12 h13 => ?_)
      refine j_istore_n (pc := 38) [(3, jm_i v12), (0, jm_vr wd2 X 0 0), (1, jm_i l1), (2, jm_i l2)] dX12_drop_38 rfl (by decide) rfl ?_
      refine j_sub (pc := 39) [(0, jm_vr wd2 X 0 0), (1, jm_i l1), (3, jm_i v12)] [1, 2, 0] rfl ?_
      exact bX12_drop_39 X fu  fu M9 l1 v12 hl1 h13
abbrev rmX12_isSign : Room := { frames := 0, cells := 0, slots := 0, locals := 0 }
set_option maxHeartbeats 4000000 in
set_option maxRecDepth 100000 in
theorem ct_X12_isSign (M : jm_M) (l1 l2 : Int) (hl1 : jm_in l1) (hl2 : jm_in l2) : jm_Ci wd2 yX12_isSign cX12_isSign 3 (some .boolean) rmX12_isSign M (fun G ad => [.ref (ad (jm_r wd2 0 0)), jm_i l1, jm_i l2]) (fX12_isSign M l1 l2) := by
  refine jm_met_i (fun X => [(0, jm_vr wd2 X 0 0), (1, jm_i l1), (2, jm_i l2)]) (by decide) (fun _ _ => (Nat.le_of_ble_eq_true rfl)) (fun _ => rfl) (fun X => ?_)
  unfold fX12_isSign
  refine j_aload_n (pc := 0) dX12_isSign_0 rfl (q := 0) rfl ?_
  refine j_geti (pc := 1) jv2_0 jm_01 kf_RX12_194 kg2_0_41 dX12_isSign_1 (fun h1 => ?_)
  refine j_iload_n (pc := 4) dX12_isSign_4 rfl (q := 1) rfl ?_
  refine j_icmp_ge (tgt := 25) (pc := 5) h1 hl1 dX12_isSign_5 (by decide) (fun c2 => ?_) (fun c2 => ?_)
  · skip
    refine j_iconst (pc := 25) dX12_isSign_25 ?_
    exact j_iret (pc := 26) (jm_inL (by decide) (by decide)) rfl dX12_isSign_26
  · skip
    refine j_aload_n (pc := 8) dX12_isSign_8 rfl (q := 0) rfl ?_
    refine j_getr (pc := 9) jv2_0 jm_01 kf_RX12_191 0 kg2_0_39 rfl dX12_isSign_9 ?_
    refine j_aload_n (pc := 12) dX12_isSign_12 rfl (q := 0) rfl ?_
    refine j_geti (pc := 13) jv2_0 jm_01 kf_RX12_194 kg2_0_41 dX12_isSign_13 (fun h3 => ?_)
    refine j_iald (pc := 16) jv2_34 jm_01 rfl (by decide) ka2_34 dX12_isSign_16 (fun c4 h5 => ?_)
    refine j_iload_n (pc := 17) dX12_isSign_17 rfl (q := 2) rfl ?_
    refine j_icmp_ne (tgt := 25) (pc := 18) h5 hl2 dX12_isSign_18 (by decide) (fun c6 => ?_) (fun c6 => ?_)
    · skip
      refine j_iconst (pc := 21) dX12_isSign_21 ?_
      refine j_goto (tgt := 26) (pc := 22) dX12_isSign_22 (by decide) ?_
      exact j_iret (pc := 26) (jm_inL (by decide) (by decide)) rfl dX12_isSign_26
    · skip
      refine j_iconst (pc := 25) dX12_isSign_25 ?_
      exact j_iret (pc := 26) (jm_inL (by decide) (by decide)) rfl dX12_isSign_26
abbrev rmX12_act : Room := { frames := 0, cells := 0, slots := 0, locals := 0 }
set_option maxHeartbeats 4000000 in
set_option maxRecDepth 100000 in
theorem ct_X12_act (M : jm_M) (l0 : Int) (hl0 : jm_in l0) : jm_Ci wd2 yX12_act cX12_act 1 (some .int) rmX12_act M (fun G ad => [jm_i l0]) (fX12_act M l0) := by
  refine jm_met_i (fun X => [(0, jm_i l0)]) (by decide) (fun _ _ => (Nat.le_of_ble_eq_true rfl)) (fun _ => rfl) (fun X => ?_)
  unfold fX12_act
  refine j_iload_n (pc := 0) dX12_act_0 rfl (q := 0) rfl ?_
  refine j_sipush (pc := 1) 200 dX12_act_1 (by decide) ?_
  refine j_isub (pc := 4) dX12_act_4 ?_
  exact j_iret (pc := 5) (jm_w_in _) rfl dX12_act_5
abbrev rmX12_marks : Room := { frames := 0, cells := 0, slots := 0, locals := 0 }
set_option maxHeartbeats 4000000 in
set_option maxRecDepth 100000 in
theorem ct_X12_marks (M : jm_M) (l1 : Int) (hl1 : jm_in l1) : jm_Cv wd2 yX12_marks cX12_marks 2 none rmX12_marks M (fun G ad => [.ref (ad (jm_r wd2 0 0)), jm_i l1]) (fX12_marks M l1) := by
  refine jm_met_v (fun X => [(0, jm_vr wd2 X 0 0), (1, jm_i l1)]) (by decide) (fun _ _ => (Nat.le_of_ble_eq_true rfl)) (fun _ => rfl) (fun X => ?_)
  unfold fX12_marks
  refine j_aload_n (pc := 0) dX12_marks_0 rfl (q := 0) rfl ?_
  refine j_getr (pc := 1) jv2_0 jm_01 kf_RX12_202 0 kg2_0_44 rfl dX12_marks_1 ?_
  refine j_bipush (pc := 4) 100 dX12_marks_4 (by decide) ?_
  refine j_aload_n (pc := 6) dX12_marks_6 rfl (q := 0) rfl ?_
  refine j_geti (pc := 7) jv2_0 jm_01 kf_RX12_205 kg2_0_42 dX12_marks_7 (fun h1 => ?_)
  refine j_imul (pc := 10) dX12_marks_10 ?_
  refine j_aload_n (pc := 11) dX12_marks_11 rfl (q := 0) rfl ?_
  refine j_getr (pc := 12) jv2_0 jm_01 kf_RX12_208 0 kg2_0_45 rfl dX12_marks_12 ?_
  refine j_aload_n (pc := 15) dX12_marks_15 rfl (q := 0) rfl ?_
  refine j_geti (pc := 16) jv2_0 jm_01 kf_RX12_205 kg2_0_42 dX12_marks_16 (fun h2 => ?_)
  refine j_iald (pc := 19) jv2_36 jm_01 rfl (by decide) ka2_36 dX12_marks_19 (fun c3 h4 => ?_)
  refine j_iadd (pc := 20) dX12_marks_20 ?_
  refine j_iload_n (pc := 21) dX12_marks_21 rfl (q := 1) rfl ?_
  refine j_iast (pc := 22) jv2_35 jm_01 rfl (by decide) wI2 ka2_35 hl1 dX12_marks_22 (fun c5 M6 => ?_)
  refine j_aload_n (pc := 23) dX12_marks_23 rfl (q := 0) rfl ?_
  refine j_getr (pc := 24) jv2_0 jm_01 kf_RX12_208 0 kg2_0_45 rfl dX12_marks_24 ?_
  refine j_aload_n (pc := 27) dX12_marks_27 rfl (q := 0) rfl ?_
  refine j_geti (pc := 28) jv2_0 jm_01 kf_RX12_205 kg2_0_42 dX12_marks_28 (fun h7 => ?_)
  refine j_dup2 (pc := 31) dX12_marks_31 rfl rfl ?_
  refine j_iald (pc := 32) jv2_36 jm_01 rfl (by decide) ka2_36 dX12_marks_32 (fun c8 h9 => ?_)
  refine j_iconst (pc := 33) dX12_marks_33 ?_
  refine j_iadd (pc := 34) dX12_marks_34 ?_
  refine j_iast (pc := 35) jv2_36 jm_01 rfl (by decide) wI2 ka2_36 (jm_w_in _) dX12_marks_35 (fun c10 M11 => ?_)
  exact j_vret (pc := 36) dX12_marks_36
set_option maxHeartbeats 4000000 in
set_option maxRecDepth 100000 in
theorem b0X12_some_6 {d : Nat} (rc : Nat → jm_M → Int → jm_R) (hrc0 : ∀ (M : jm_M) (a : Int), jm_in a → jm_Ci wd2 yX12_some cX12_some 3 (some .boolean) (rmR d) M (fun G ad => [.ref (ad (jm_r wd2 0 0)), jm_i a]) (rc 0 M a)) (hrc1 : ∀ (M : jm_M) (a : Int), jm_in a → jm_Ci wd2 yX12_every cX12_every 3 (some .boolean) (rmR d) M (fun G ad => [.ref (ad (jm_r wd2 0 0)), jm_i a]) (rc 1 M a)) (hrc2 : ∀ (M : jm_M) (a : Int), jm_in a → jm_Ci wd2 yX12_compared cX12_compared 4 (some .boolean) (rmR d) M (fun G ad => [.ref (ad (jm_r wd2 0 0)), jm_i a]) (rc 2 M a)) (hrc3 : ∀ (M : jm_M) (a : Int), jm_in a → jm_Ci wd2 yX12_total cX12_total 4 (some .boolean) (rmR d) M (fun G ad => [.ref (ad (jm_r wd2 0 0)), jm_i a]) (rc 3 M a)) (hrc4 : ∀ (M : jm_M) (a : Int), jm_in a → jm_Ci wd2 yX12_product cX12_product 3 (some .boolean) (rmR d) M (fun G ad => [.ref (ad (jm_r wd2 0 0)), jm_i a]) (rc 4 M a)) (hrc5 : ∀ (M : jm_M) (a : Int), jm_in a → jm_Ci wd2 yX12_unary cX12_unary 3 (some .boolean) (rmR d) M (fun G ad => [.ref (ad (jm_r wd2 0 0)), jm_i a]) (rc 5 M a)) (hrc6 : ∀ (M : jm_M) (a : Int), jm_in a → jm_Ci wd2 yX12_thing cX12_thing 2 (some .boolean) (rmR d) M (fun G ad => [.ref (ad (jm_r wd2 0 0)), jm_i a]) (rc 6 M a)) (X : jm_X) (fu : Nat) (k6 : jm_M → Int → Int → jm_R) (hk6 : ∀ (M : jm_M) (l1 l2 : Int) (hl1 : jm_in l1) (hl2 : jm_in l2), jm_J wd2 (jm_qi .boolean) cX12_some 3 RX12 (rmR (d + 1)) X M [(0, jm_vr wd2 X 0 0), (1, jm_i l1), (2, jm_i l2)] [] 6 (k6 M l1 l2)) : ∀ (M : jm_M) (l1 l2 : Int) (hl1 : jm_in l1) (hl2 : jm_in l2), jm_J wd2 (jm_qi .boolean) cX12_some 3 RX12 (rmR (d + 1)) X M [(0, jm_vr wd2 X 0 0), (1, jm_i l1), (2, jm_i l2)] [] 6 (gX12_some_6 rc fu k6 M l1 l2) := by
  intro M l1 l2 hl1 hl2
  unfold gX12_some_6
  refine j_iload_n (pc := 6) dX12_some_6 rfl (q := 2) rfl ?_
  refine j_if_eq (tgt := 52) (pc := 7) hl2 dX12_some_7 (by decide) (fun c1 => ?_) (fun c1 => ?_)
  · skip
    refine j_iload_n (pc := 52) dX12_some_52 rfl (q := 2) rfl ?_
    exact j_zret (pc := 53) hl2 dX12_some_53
  · skip
    refine j_aload_n (pc := 10) dX12_some_10 rfl (q := 0) rfl ?_
    refine j_iload_n (pc := 11) dX12_some_11 rfl (q := 1) rfl ?_
    refine j_bipush (pc := 12) 124 dX12_some_12 (by decide) ?_
    refine j_callVi2 (pc := 14) (ct_X12_isSign M l1 124 hl1 (jm_inL (by decide) (by decide))) kg_1471 km_X12_isSign kv_X12_isSign rfl rfl ⟨(by simp only [rmR, rmX12_isSign]; omega), (by simp only [rmR, rmX12_isSign]; omega)⟩ jv2_0 jm_01 ko2_0 rfl rfl (Nat.le_of_ble_eq_true rfl) dX12_some_14 (fun v2 M3 h4 => ?_)
    refine j_if_eq (tgt := 52) (pc := 17) h4 dX12_some_17 (by decide) (fun c5 => ?_) (fun c5 => ?_)
    · skip
      refine j_iload_n (pc := 52) dX12_some_52 rfl (q := 2) rfl ?_
      exact j_zret (pc := 53) hl2 dX12_some_53
    · skip
      refine j_aload_n (pc := 20) dX12_some_20 rfl (q := 0) rfl ?_
      refine j_dup (pc := 21) dX12_some_21 rfl ?_
      refine j_geti (pc := 22) jv2_0 jm_01 kf_RX12_194 kg2_0_41 dX12_some_22 (fun h6 => ?_)
      refine j_iconst (pc := 25) dX12_some_25 ?_
      refine j_iadd (pc := 26) dX12_some_26 ?_
      refine j_put (pc := 27) jv2_0 jm_01 kf_RX12_194 wI2 kp_X12_41 kx2_0_41 (jm_w_in _) rfl rfl dX12_some_27 (fun M7 => ?_)
      refine j_aload_n (pc := 30) dX12_some_30 rfl (q := 0) rfl ?_
      refine j_iload_n (pc := 31) dX12_some_31 rfl (q := 1) rfl ?_
      refine j_callVi1 (pc := 32) (hrc1 M7 l1 hl1) kg_1483 km_X12_every kv_X12_every rfl rfl ⟨(by simp only [rmR]; omega), (by simp only [rmR]; omega)⟩ jv2_0 jm_01 ko2_0 rfl rfl (Nat.le_of_ble_eq_true rfl) dX12_some_32 (fun v8 M9 h10 => ?_)
      refine j_istore_n (pc := 35) [(2, jm_i v8), (0, jm_vr wd2 X 0 0), (1, jm_i l1)] dX12_some_35 rfl (by decide) rfl ?_
      refine j_iload_n (pc := 36) dX12_some_36 rfl (q := 0) rfl ?_
      refine j_if_eq (tgt := 6) (pc := 37) h10 dX12_some_37 (by decide) (fun c11 => ?_) (fun c11 => ?_)
      · skip
        refine j_sub (pc := 6) [(0, jm_vr wd2 X 0 0), (1, jm_i l1), (2, jm_i v8)] [1, 2, 0] rfl ?_
        exact hk6 M9 l1 v8 hl1 h10
      · skip
        refine j_aload_n (pc := 40) dX12_some_40 rfl (q := 1) rfl ?_
        refine j_bipush (pc := 41) 124 dX12_some_41 (by decide) ?_
        refine j_callSi1 (pc := 43) (ct_X12_act M9 124 (jm_inL (by decide) (by decide))) kg_1518 km_X12_act kg_1519 rfl rfl ⟨(by simp only [rmR, rmX12_act]; omega), (by simp only [rmR, rmX12_act]; omega)⟩ rfl rfl (Nat.le_of_ble_eq_true rfl) dX12_some_43 (fun v12 M13 h14 => ?_)
        refine j_callVv1 (pc := 46) (ct_X12_marks M13 v12 h14) kg_1475 km_X12_marks kv_X12_marks rfl rfl ⟨(by simp only [rmR, rmX12_marks]; omega), (by simp only [rmR, rmX12_marks]; omega)⟩ jv2_0 jm_01 ko2_0 rfl rfl (Nat.le_of_ble_eq_true rfl) dX12_some_46 (fun v15 M16 => ?_)
        refine j_goto (tgt := 6) (pc := 49) dX12_some_49 (by decide) ?_
        refine j_sub (pc := 6) [(0, jm_vr wd2 X 0 0), (1, jm_i l1), (2, jm_i v8)] [1, 2, 0] rfl ?_
        exact hk6 M16 l1 v8 hl1 h10
theorem bX12_some_6 {d : Nat} (rc : Nat → jm_M → Int → jm_R) (hrc0 : ∀ (M : jm_M) (a : Int), jm_in a → jm_Ci wd2 yX12_some cX12_some 3 (some .boolean) (rmR d) M (fun G ad => [.ref (ad (jm_r wd2 0 0)), jm_i a]) (rc 0 M a)) (hrc1 : ∀ (M : jm_M) (a : Int), jm_in a → jm_Ci wd2 yX12_every cX12_every 3 (some .boolean) (rmR d) M (fun G ad => [.ref (ad (jm_r wd2 0 0)), jm_i a]) (rc 1 M a)) (hrc2 : ∀ (M : jm_M) (a : Int), jm_in a → jm_Ci wd2 yX12_compared cX12_compared 4 (some .boolean) (rmR d) M (fun G ad => [.ref (ad (jm_r wd2 0 0)), jm_i a]) (rc 2 M a)) (hrc3 : ∀ (M : jm_M) (a : Int), jm_in a → jm_Ci wd2 yX12_total cX12_total 4 (some .boolean) (rmR d) M (fun G ad => [.ref (ad (jm_r wd2 0 0)), jm_i a]) (rc 3 M a)) (hrc4 : ∀ (M : jm_M) (a : Int), jm_in a → jm_Ci wd2 yX12_product cX12_product 3 (some .boolean) (rmR d) M (fun G ad => [.ref (ad (jm_r wd2 0 0)), jm_i a]) (rc 4 M a)) (hrc5 : ∀ (M : jm_M) (a : Int), jm_in a → jm_Ci wd2 yX12_unary cX12_unary 3 (some .boolean) (rmR d) M (fun G ad => [.ref (ad (jm_r wd2 0 0)), jm_i a]) (rc 5 M a)) (hrc6 : ∀ (M : jm_M) (a : Int), jm_in a → jm_Ci wd2 yX12_thing cX12_thing 2 (some .boolean) (rmR d) M (fun G ad => [.ref (ad (jm_r wd2 0 0)), jm_i a]) (rc 6 M a)) (X : jm_X) (fu : Nat) : ∀ (n : Nat) (M : jm_M) (l1 l2 : Int) (hl1 : jm_in l1) (hl2 : jm_in l2), jm_J wd2 (jm_qi .boolean) cX12_some 3 RX12 (rmR (d + 1)) X M [(0, jm_vr wd2 X 0 0), (1, jm_i l1), (2, jm_i l2)] [] 6 (fX12_some_6 rc fu n M l1 l2) := by
  intro n
  induction n with
  | zero => intro M l1 l2 hl1 hl2; exact j_none
  | succ n ih => intro M l1 l2 hl1 hl2; exact b0X12_some_6 rc hrc0 hrc1 hrc2 hrc3 hrc4 hrc5 hrc6 X fu (fX12_some_6 rc fu n) ih M l1 l2 hl1 hl2
set_option maxHeartbeats 4000000 in
set_option maxRecDepth 100000 in
theorem ct_X12_some {d : Nat} (rc : Nat → jm_M → Int → jm_R) (hrc0 : ∀ (M : jm_M) (a : Int), jm_in a → jm_Ci wd2 yX12_some cX12_some 3 (some .boolean) (rmR d) M (fun G ad => [.ref (ad (jm_r wd2 0 0)), jm_i a]) (rc 0 M a)) (hrc1 : ∀ (M : jm_M) (a : Int), jm_in a → jm_Ci wd2 yX12_every cX12_every 3 (some .boolean) (rmR d) M (fun G ad => [.ref (ad (jm_r wd2 0 0)), jm_i a]) (rc 1 M a)) (hrc2 : ∀ (M : jm_M) (a : Int), jm_in a → jm_Ci wd2 yX12_compared cX12_compared 4 (some .boolean) (rmR d) M (fun G ad => [.ref (ad (jm_r wd2 0 0)), jm_i a]) (rc 2 M a)) (hrc3 : ∀ (M : jm_M) (a : Int), jm_in a → jm_Ci wd2 yX12_total cX12_total 4 (some .boolean) (rmR d) M (fun G ad => [.ref (ad (jm_r wd2 0 0)), jm_i a]) (rc 3 M a)) (hrc4 : ∀ (M : jm_M) (a : Int), jm_in a → jm_Ci wd2 yX12_product cX12_product 3 (some .boolean) (rmR d) M (fun G ad => [.ref (ad (jm_r wd2 0 0)), jm_i a]) (rc 4 M a)) (hrc5 : ∀ (M : jm_M) (a : Int), jm_in a → jm_Ci wd2 yX12_unary cX12_unary 3 (some .boolean) (rmR d) M (fun G ad => [.ref (ad (jm_r wd2 0 0)), jm_i a]) (rc 5 M a)) (hrc6 : ∀ (M : jm_M) (a : Int), jm_in a → jm_Ci wd2 yX12_thing cX12_thing 2 (some .boolean) (rmR d) M (fun G ad => [.ref (ad (jm_r wd2 0 0)), jm_i a]) (rc 6 M a)) (fu : Nat) (M : jm_M) (l1 : Int) (hl1 : jm_in l1) : jm_Ci wd2 yX12_some cX12_some 3 (some .boolean) (rmR (d + 1)) M (fun G ad => [.ref (ad (jm_r wd2 0 0)), jm_i l1]) (gX12_some rc fu M l1) := by
  refine jm_met_i (fun X => [(0, jm_vr wd2 X 0 0), (1, jm_i l1)]) (by decide) (fun _ _ => (Nat.le_of_ble_eq_true rfl)) (fun _ => rfl) (fun X => ?_)
  unfold gX12_some
  refine j_aload_n (pc := 0) dX12_some_0 rfl (q := 0) rfl ?_
  refine j_iload_n (pc := 1) dX12_some_1 rfl (q := 1) rfl ?_
  refine j_callVi1 (pc := 2) (hrc1 M l1 hl1) kg_1483 km_X12_every kv_X12_every rfl rfl ⟨(by simp only [rmR]; omega), (by simp only [rmR]; omega)⟩ jv2_0 jm_01 ko2_0 rfl rfl (Nat.le_of_ble_eq_true rfl) dX12_some_2 (fun v1 M2 h3 => ?_)
  refine j_istore_n (pc := 5) [(2, jm_i v1), (0, jm_vr wd2 X 0 0), (1, jm_i l1)] dX12_some_5 rfl (by decide) rfl ?_
  refine j_sub (pc := 6) [(0, jm_vr wd2 X 0 0), (1, jm_i l1), (2, jm_i v1)] [1, 2, 0] rfl ?_
  exact bX12_some_6 rc hrc0 hrc1 hrc2 hrc3 hrc4 hrc5 hrc6 X fu  fu M2 l1 v1 hl1 h3
set_option maxHeartbeats 4000000 in
set_option maxRecDepth 100000 in
theorem b0X12_every_6 {d : Nat} (rc : Nat → jm_M → Int → jm_R) (hrc0 : ∀ (M : jm_M) (a : Int), jm_in a → jm_Ci wd2 yX12_some cX12_some 3 (some .boolean) (rmR d) M (fun G ad => [.ref (ad (jm_r wd2 0 0)), jm_i a]) (rc 0 M a)) (hrc1 : ∀ (M : jm_M) (a : Int), jm_in a → jm_Ci wd2 yX12_every cX12_every 3 (some .boolean) (rmR d) M (fun G ad => [.ref (ad (jm_r wd2 0 0)), jm_i a]) (rc 1 M a)) (hrc2 : ∀ (M : jm_M) (a : Int), jm_in a → jm_Ci wd2 yX12_compared cX12_compared 4 (some .boolean) (rmR d) M (fun G ad => [.ref (ad (jm_r wd2 0 0)), jm_i a]) (rc 2 M a)) (hrc3 : ∀ (M : jm_M) (a : Int), jm_in a → jm_Ci wd2 yX12_total cX12_total 4 (some .boolean) (rmR d) M (fun G ad => [.ref (ad (jm_r wd2 0 0)), jm_i a]) (rc 3 M a)) (hrc4 : ∀ (M : jm_M) (a : Int), jm_in a → jm_Ci wd2 yX12_product cX12_product 3 (some .boolean) (rmR d) M (fun G ad => [.ref (ad (jm_r wd2 0 0)), jm_i a]) (rc 4 M a)) (hrc5 : ∀ (M : jm_M) (a : Int), jm_in a → jm_Ci wd2 yX12_unary cX12_unary 3 (some .boolean) (rmR d) M (fun G ad => [.ref (ad (jm_r wd2 0 0)), jm_i a]) (rc 5 M a)) (hrc6 : ∀ (M : jm_M) (a : Int), jm_in a → jm_Ci wd2 yX12_thing cX12_thing 2 (some .boolean) (rmR d) M (fun G ad => [.ref (ad (jm_r wd2 0 0)), jm_i a]) (rc 6 M a)) (X : jm_X) (fu : Nat) (k6 : jm_M → Int → Int → jm_R) (hk6 : ∀ (M : jm_M) (l1 l2 : Int) (hl1 : jm_in l1) (hl2 : jm_in l2), jm_J wd2 (jm_qi .boolean) cX12_every 3 RX12 (rmR (d + 1)) X M [(0, jm_vr wd2 X 0 0), (1, jm_i l1), (2, jm_i l2)] [] 6 (k6 M l1 l2)) : ∀ (M : jm_M) (l1 l2 : Int) (hl1 : jm_in l1) (hl2 : jm_in l2), jm_J wd2 (jm_qi .boolean) cX12_every 3 RX12 (rmR (d + 1)) X M [(0, jm_vr wd2 X 0 0), (1, jm_i l1), (2, jm_i l2)] [] 6 (gX12_every_6 rc fu k6 M l1 l2) := by
  intro M l1 l2 hl1 hl2
  unfold gX12_every_6
  refine j_iload_n (pc := 6) dX12_every_6 rfl (q := 2) rfl ?_
  refine j_if_eq (tgt := 52) (pc := 7) hl2 dX12_every_7 (by decide) (fun c1 => ?_) (fun c1 => ?_)
  · skip
    refine j_iload_n (pc := 52) dX12_every_52 rfl (q := 2) rfl ?_
    exact j_zret (pc := 53) hl2 dX12_every_53
  · skip
    refine j_aload_n (pc := 10) dX12_every_10 rfl (q := 0) rfl ?_
    refine j_iload_n (pc := 11) dX12_every_11 rfl (q := 1) rfl ?_
    refine j_bipush (pc := 12) 38 dX12_every_12 (by decide) ?_
    refine j_callVi2 (pc := 14) (ct_X12_isSign M l1 38 hl1 (jm_inL (by decide) (by decide))) kg_1471 km_X12_isSign kv_X12_isSign rfl rfl ⟨(by simp only [rmR, rmX12_isSign]; omega), (by simp only [rmR, rmX12_isSign]; omega)⟩ jv2_0 jm_01 ko2_0 rfl rfl (Nat.le_of_ble_eq_true rfl) dX12_every_14 (fun v2 M3 h4 => ?_)
    refine j_if_eq (tgt := 52) (pc := 17) h4 dX12_every_17 (by decide) (fun c5 => ?_) (fun c5 => ?_)
    · skip
      refine j_iload_n (pc := 52) dX12_every_52 rfl (q := 2) rfl ?_
      exact j_zret (pc := 53) hl2 dX12_every_53
    · skip
      refine j_aload_n (pc := 20) dX12_every_20 rfl (q := 0) rfl ?_
      refine j_dup (pc := 21) dX12_every_21 rfl ?_
      refine j_geti (pc := 22) jv2_0 jm_01 kf_RX12_194 kg2_0_41 dX12_every_22 (fun h6 => ?_)
      refine j_iconst (pc := 25) dX12_every_25 ?_
      refine j_iadd (pc := 26) dX12_every_26 ?_
      refine j_put (pc := 27) jv2_0 jm_01 kf_RX12_194 wI2 kp_X12_41 kx2_0_41 (jm_w_in _) rfl rfl dX12_every_27 (fun M7 => ?_)
      refine j_aload_n (pc := 30) dX12_every_30 rfl (q := 0) rfl ?_
      refine j_iload_n (pc := 31) dX12_every_31 rfl (q := 1) rfl ?_
      refine j_callVi1 (pc := 32) (hrc2 M7 l1 hl1) kg_1487 km_X12_compared kv_X12_compared rfl rfl ⟨(by simp only [rmR]; omega), (by simp only [rmR]; omega)⟩ jv2_0 jm_01 ko2_0 rfl rfl (Nat.le_of_ble_eq_true rfl) dX12_every_32 (fun v8 M9 h10 => ?_)
      refine j_istore_n (pc := 35) [(2, jm_i v8), (0, jm_vr wd2 X 0 0), (1, jm_i l1)] dX12_every_35 rfl (by decide) rfl ?_
      refine j_iload_n (pc := 36) dX12_every_36 rfl (q := 0) rfl ?_
      refine j_if_eq (tgt := 6) (pc := 37) h10 dX12_every_37 (by decide) (fun c11 => ?_) (fun c11 => ?_)
      · skip
        refine j_sub (pc := 6) [(0, jm_vr wd2 X 0 0), (1, jm_i l1), (2, jm_i v8)] [1, 2, 0] rfl ?_
        exact hk6 M9 l1 v8 hl1 h10
      · skip
        refine j_aload_n (pc := 40) dX12_every_40 rfl (q := 1) rfl ?_
        refine j_bipush (pc := 41) 38 dX12_every_41 (by decide) ?_
        refine j_callSi1 (pc := 43) (ct_X12_act M9 38 (jm_inL (by decide) (by decide))) kg_1518 km_X12_act kg_1519 rfl rfl ⟨(by simp only [rmR, rmX12_act]; omega), (by simp only [rmR, rmX12_act]; omega)⟩ rfl rfl (Nat.le_of_ble_eq_true rfl) dX12_every_43 (fun v12 M13 h14 => ?_)
        refine j_callVv1 (pc := 46) (ct_X12_marks M13 v12 h14) kg_1475 km_X12_marks kv_X12_marks rfl rfl ⟨(by simp only [rmR, rmX12_marks]; omega), (by simp only [rmR, rmX12_marks]; omega)⟩ jv2_0 jm_01 ko2_0 rfl rfl (Nat.le_of_ble_eq_true rfl) dX12_every_46 (fun v15 M16 => ?_)
        refine j_goto (tgt := 6) (pc := 49) dX12_every_49 (by decide) ?_
        refine j_sub (pc := 6) [(0, jm_vr wd2 X 0 0), (1, jm_i l1), (2, jm_i v8)] [1, 2, 0] rfl ?_
        exact hk6 M16 l1 v8 hl1 h10
theorem bX12_every_6 {d : Nat} (rc : Nat → jm_M → Int → jm_R) (hrc0 : ∀ (M : jm_M) (a : Int), jm_in a → jm_Ci wd2 yX12_some cX12_some 3 (some .boolean) (rmR d) M (fun G ad => [.ref (ad (jm_r wd2 0 0)), jm_i a]) (rc 0 M a)) (hrc1 : ∀ (M : jm_M) (a : Int), jm_in a → jm_Ci wd2 yX12_every cX12_every 3 (some .boolean) (rmR d) M (fun G ad => [.ref (ad (jm_r wd2 0 0)), jm_i a]) (rc 1 M a)) (hrc2 : ∀ (M : jm_M) (a : Int), jm_in a → jm_Ci wd2 yX12_compared cX12_compared 4 (some .boolean) (rmR d) M (fun G ad => [.ref (ad (jm_r wd2 0 0)), jm_i a]) (rc 2 M a)) (hrc3 : ∀ (M : jm_M) (a : Int), jm_in a → jm_Ci wd2 yX12_total cX12_total 4 (some .boolean) (rmR d) M (fun G ad => [.ref (ad (jm_r wd2 0 0)), jm_i a]) (rc 3 M a)) (hrc4 : ∀ (M : jm_M) (a : Int), jm_in a → jm_Ci wd2 yX12_product cX12_product 3 (some .boolean) (rmR d) M (fun G ad => [.ref (ad (jm_r wd2 0 0)), jm_i a]) (rc 4 M a)) (hrc5 : ∀ (M : jm_M) (a : Int), jm_in a → jm_Ci wd2 yX12_unary cX12_unary 3 (some .boolean) (rmR d) M (fun G ad => [.ref (ad (jm_r wd2 0 0)), jm_i a]) (rc 5 M a)) (hrc6 : ∀ (M : jm_M) (a : Int), jm_in a → jm_Ci wd2 yX12_thing cX12_thing 2 (some .boolean) (rmR d) M (fun G ad => [.ref (ad (jm_r wd2 0 0)), jm_i a]) (rc 6 M a)) (X : jm_X) (fu : Nat) : ∀ (n : Nat) (M : jm_M) (l1 l2 : Int) (hl1 : jm_in l1) (hl2 : jm_in l2), jm_J wd2 (jm_qi .boolean) cX12_every 3 RX12 (rmR (d + 1)) X M [(0, jm_vr wd2 X 0 0), (1, jm_i l1), (2, jm_i l2)] [] 6 (fX12_every_6 rc fu n M l1 l2) := by
  intro n
  induction n with
  | zero => intro M l1 l2 hl1 hl2; exact j_none
  | succ n ih => intro M l1 l2 hl1 hl2; exact b0X12_every_6 rc hrc0 hrc1 hrc2 hrc3 hrc4 hrc5 hrc6 X fu (fX12_every_6 rc fu n) ih M l1 l2 hl1 hl2
set_option maxHeartbeats 4000000 in
set_option maxRecDepth 100000 in
theorem ct_X12_every {d : Nat} (rc : Nat → jm_M → Int → jm_R) (hrc0 : ∀ (M : jm_M) (a : Int), jm_in a → jm_Ci wd2 yX12_some cX12_some 3 (some .boolean) (rmR d) M (fun G ad => [.ref (ad (jm_r wd2 0 0)), jm_i a]) (rc 0 M a)) (hrc1 : ∀ (M : jm_M) (a : Int), jm_in a → jm_Ci wd2 yX12_every cX12_every 3 (some .boolean) (rmR d) M (fun G ad => [.ref (ad (jm_r wd2 0 0)), jm_i a]) (rc 1 M a)) (hrc2 : ∀ (M : jm_M) (a : Int), jm_in a → jm_Ci wd2 yX12_compared cX12_compared 4 (some .boolean) (rmR d) M (fun G ad => [.ref (ad (jm_r wd2 0 0)), jm_i a]) (rc 2 M a)) (hrc3 : ∀ (M : jm_M) (a : Int), jm_in a → jm_Ci wd2 yX12_total cX12_total 4 (some .boolean) (rmR d) M (fun G ad => [.ref (ad (jm_r wd2 0 0)), jm_i a]) (rc 3 M a)) (hrc4 : ∀ (M : jm_M) (a : Int), jm_in a → jm_Ci wd2 yX12_product cX12_product 3 (some .boolean) (rmR d) M (fun G ad => [.ref (ad (jm_r wd2 0 0)), jm_i a]) (rc 4 M a)) (hrc5 : ∀ (M : jm_M) (a : Int), jm_in a → jm_Ci wd2 yX12_unary cX12_unary 3 (some .boolean) (rmR d) M (fun G ad => [.ref (ad (jm_r wd2 0 0)), jm_i a]) (rc 5 M a)) (hrc6 : ∀ (M : jm_M) (a : Int), jm_in a → jm_Ci wd2 yX12_thing cX12_thing 2 (some .boolean) (rmR d) M (fun G ad => [.ref (ad (jm_r wd2 0 0)), jm_i a]) (rc 6 M a)) (fu : Nat) (M : jm_M) (l1 : Int) (hl1 : jm_in l1) : jm_Ci wd2 yX12_every cX12_every 3 (some .boolean) (rmR (d + 1)) M (fun G ad => [.ref (ad (jm_r wd2 0 0)), jm_i l1]) (gX12_every rc fu M l1) := by
  refine jm_met_i (fun X => [(0, jm_vr wd2 X 0 0), (1, jm_i l1)]) (by decide) (fun _ _ => (Nat.le_of_ble_eq_true rfl)) (fun _ => rfl) (fun X => ?_)
  unfold gX12_every
  refine j_aload_n (pc := 0) dX12_every_0 rfl (q := 0) rfl ?_
  refine j_iload_n (pc := 1) dX12_every_1 rfl (q := 1) rfl ?_
  refine j_callVi1 (pc := 2) (hrc2 M l1 hl1) kg_1487 km_X12_compared kv_X12_compared rfl rfl ⟨(by simp only [rmR]; omega), (by simp only [rmR]; omega)⟩ jv2_0 jm_01 ko2_0 rfl rfl (Nat.le_of_ble_eq_true rfl) dX12_every_2 (fun v1 M2 h3 => ?_)
  refine j_istore_n (pc := 5) [(2, jm_i v1), (0, jm_vr wd2 X 0 0), (1, jm_i l1)] dX12_every_5 rfl (by decide) rfl ?_
  refine j_sub (pc := 6) [(0, jm_vr wd2 X 0 0), (1, jm_i l1), (2, jm_i v1)] [1, 2, 0] rfl ?_
  exact bX12_every_6 rc hrc0 hrc1 hrc2 hrc3 hrc4 hrc5 hrc6 X fu  fu M2 l1 v1 hl1 h3
abbrev rmX12_isOf : Room := { frames := 9, cells := 0, slots := 0, locals := 421 }
set_option maxHeartbeats 4000000 in
set_option maxRecDepth 100000 in
theorem ct_X12_isOf (M : jm_M) (l1 w2 : Int) (hl1 : jm_in l1) (gw2 : 0 ≤ w2 ∧ w2 < 11) : jm_Ci wd2 yX12_isOf cX12_isOf 3 (some .boolean) rmX12_isOf M (fun G ad => [.ref (ad (jm_r wd2 0 0)), jm_i l1, jm_sv G w2]) (fX12_isOf M l1 w2) := by
  refine jm_met_i (fun X => [(0, jm_vr wd2 X 0 0), (1, jm_i l1), (2, jm_vs X w2)]) (by decide) (fun _ _ => (Nat.le_of_ble_eq_true rfl)) (fun _ => rfl) (fun X => ?_)
  unfold fX12_isOf
  refine j_aload_n (pc := 0) dX12_isOf_0 rfl (q := 0) rfl ?_
  refine j_geti (pc := 1) jv2_0 jm_01 kf_RX12_194 kg2_0_41 dX12_isOf_1 (fun h1 => ?_)
  refine j_iload_n (pc := 4) dX12_isOf_4 rfl (q := 1) rfl ?_
  refine j_icmp_ge (tgt := 40) (pc := 5) h1 hl1 dX12_isOf_5 (by decide) (fun c2 => ?_) (fun c2 => ?_)
  · skip
    refine j_iconst (pc := 40) dX12_isOf_40 ?_
    exact j_iret (pc := 41) (jm_inL (by decide) (by decide)) rfl dX12_isOf_41
  · skip
    refine j_aload_n (pc := 8) dX12_isOf_8 rfl (q := 0) rfl ?_
    refine j_getr (pc := 9) jv2_0 jm_01 kf_RX12_191 0 kg2_0_39 rfl dX12_isOf_9 ?_
    refine j_aload_n (pc := 12) dX12_isOf_12 rfl (q := 0) rfl ?_
    refine j_geti (pc := 13) jv2_0 jm_01 kf_RX12_194 kg2_0_41 dX12_isOf_13 (fun h3 => ?_)
    refine j_iald (pc := 16) jv2_34 jm_01 rfl (by decide) ka2_34 dX12_isOf_16 (fun c4 h5 => ?_)
    refine j_if_le (tgt := 40) (pc := 17) h5 dX12_isOf_17 (by decide) (fun c6 => ?_) (fun c6 => ?_)
    · skip
      refine j_iconst (pc := 40) dX12_isOf_40 ?_
      exact j_iret (pc := 41) (jm_inL (by decide) (by decide)) rfl dX12_isOf_41
    · skip
      refine j_aload_n (pc := 20) dX12_isOf_20 rfl (q := 2) rfl ?_
      refine j_aload_n (pc := 21) dX12_isOf_21 rfl (q := 0) rfl ?_
      refine j_getr (pc := 22) jv2_0 jm_01 kf_RX12_191 0 kg2_0_39 rfl dX12_isOf_22 ?_
      refine j_aload_n (pc := 25) dX12_isOf_25 rfl (q := 0) rfl ?_
      refine j_geti (pc := 26) jv2_0 jm_01 kf_RX12_194 kg2_0_41 dX12_isOf_26 (fun h7 => ?_)
      refine j_iald (pc := 29) jv2_34 jm_01 rfl (by decide) ka2_34 dX12_isOf_29 (fun c8 h9 => ?_)
      refine j_callTi1 (pc := 30) (cS2_indexOf M w2 (M 34 0 (M 0 0 41)) ⟨by omega, by omega⟩ h9) kg_1508 km_J0_indexOf_0f7a4 kv_J0_indexOf_0f7a4 rfl rfl ⟨(Nat.le_of_ble_eq_true rfl), (Nat.le_of_ble_eq_true rfl)⟩ rfl rfl (Nat.le_of_ble_eq_true rfl) dX12_isOf_30 (fun v10 M11 h12 => ?_)
      refine j_if_lt (tgt := 40) (pc := 33) h12 dX12_isOf_33 (by decide) (fun c13 => ?_) (fun c13 => ?_)
      · skip
        refine j_iconst (pc := 40) dX12_isOf_40 ?_
        exact j_iret (pc := 41) (jm_inL (by decide) (by decide)) rfl dX12_isOf_41
      · skip
        refine j_iconst (pc := 36) dX12_isOf_36 ?_
        refine j_goto (tgt := 41) (pc := 37) dX12_isOf_37 (by decide) ?_
        exact j_iret (pc := 41) (jm_inL (by decide) (by decide)) rfl dX12_isOf_41
set_option maxHeartbeats 4000000 in
set_option maxRecDepth 100000 in
theorem ct_X12_compared {d : Nat} (rc : Nat → jm_M → Int → jm_R) (hrc0 : ∀ (M : jm_M) (a : Int), jm_in a → jm_Ci wd2 yX12_some cX12_some 3 (some .boolean) (rmR d) M (fun G ad => [.ref (ad (jm_r wd2 0 0)), jm_i a]) (rc 0 M a)) (hrc1 : ∀ (M : jm_M) (a : Int), jm_in a → jm_Ci wd2 yX12_every cX12_every 3 (some .boolean) (rmR d) M (fun G ad => [.ref (ad (jm_r wd2 0 0)), jm_i a]) (rc 1 M a)) (hrc2 : ∀ (M : jm_M) (a : Int), jm_in a → jm_Ci wd2 yX12_compared cX12_compared 4 (some .boolean) (rmR d) M (fun G ad => [.ref (ad (jm_r wd2 0 0)), jm_i a]) (rc 2 M a)) (hrc3 : ∀ (M : jm_M) (a : Int), jm_in a → jm_Ci wd2 yX12_total cX12_total 4 (some .boolean) (rmR d) M (fun G ad => [.ref (ad (jm_r wd2 0 0)), jm_i a]) (rc 3 M a)) (hrc4 : ∀ (M : jm_M) (a : Int), jm_in a → jm_Ci wd2 yX12_product cX12_product 3 (some .boolean) (rmR d) M (fun G ad => [.ref (ad (jm_r wd2 0 0)), jm_i a]) (rc 4 M a)) (hrc5 : ∀ (M : jm_M) (a : Int), jm_in a → jm_Ci wd2 yX12_unary cX12_unary 3 (some .boolean) (rmR d) M (fun G ad => [.ref (ad (jm_r wd2 0 0)), jm_i a]) (rc 5 M a)) (hrc6 : ∀ (M : jm_M) (a : Int), jm_in a → jm_Ci wd2 yX12_thing cX12_thing 2 (some .boolean) (rmR d) M (fun G ad => [.ref (ad (jm_r wd2 0 0)), jm_i a]) (rc 6 M a)) (M : jm_M) (l1 : Int) (hl1 : jm_in l1) : jm_Ci wd2 yX12_compared cX12_compared 4 (some .boolean) (rmR (d + 1)) M (fun G ad => [.ref (ad (jm_r wd2 0 0)), jm_i l1]) (gX12_compared rc M l1) := by
  refine jm_met_i (fun X => [(0, jm_vr wd2 X 0 0), (1, jm_i l1)]) (by decide) (fun _ _ => (Nat.le_of_ble_eq_true rfl)) (fun _ => rfl) (fun X => ?_)
  unfold gX12_compared
  refine j_aload_n (pc := 0) dX12_compared_0 rfl (q := 0) rfl ?_
  refine j_iload_n (pc := 1) dX12_compared_1 rfl (q := 1) rfl ?_
  refine j_callVi1 (pc := 2) (hrc3 M l1 hl1) kg_1491 km_X12_total kv_X12_total rfl rfl ⟨(by simp only [rmR]; omega), (by simp only [rmR]; omega)⟩ jv2_0 jm_01 ko2_0 rfl rfl (Nat.le_of_ble_eq_true rfl) dX12_compared_2 (fun v1 M2 h3 => ?_)
  refine j_istore_n (pc := 5) [(2, jm_i v1), (0, jm_vr wd2 X 0 0), (1, jm_i l1)] dX12_compared_5 rfl (by decide) rfl ?_
  refine j_iload_n (pc := 6) dX12_compared_6 rfl (q := 0) rfl ?_
  refine j_if_eq (tgt := 58) (pc := 7) h3 dX12_compared_7 (by decide) (fun c4 => ?_) (fun c4 => ?_)
  · skip
    refine j_iload_n (pc := 58) dX12_compared_58 rfl (q := 0) rfl ?_
    exact j_zret (pc := 59) h3 dX12_compared_59
  · skip
    refine j_aload_n (pc := 10) dX12_compared_10 rfl (q := 1) rfl ?_
    refine j_iload_n (pc := 11) dX12_compared_11 rfl (q := 2) rfl ?_
    refine j_ldcS (pc := 12) 7 (by decide) rfl rfl dX12_compared_12 ?_
    refine j_callVi2 (pc := 14) (ct_X12_isOf M2 l1 7 hl1 ⟨by decide, by decide⟩) kg_1504 km_X12_isOf kv_X12_isOf rfl rfl ⟨(by simp only [rmR, rmX12_isOf]; omega), (by simp only [rmR, rmX12_isOf]; omega)⟩ jv2_0 jm_01 ko2_0 rfl rfl (Nat.le_of_ble_eq_true rfl) dX12_compared_14 (fun v5 M6 h7 => ?_)
    refine j_if_eq (tgt := 58) (pc := 17) h7 dX12_compared_17 (by decide) (fun c8 => ?_) (fun c8 => ?_)
    · skip
      refine j_iload_n (pc := 58) dX12_compared_58 rfl (q := 0) rfl ?_
      exact j_zret (pc := 59) h3 dX12_compared_59
    · skip
      refine j_aload_n (pc := 20) dX12_compared_20 rfl (q := 1) rfl ?_
      refine j_getr (pc := 21) jv2_0 jm_01 kf_RX12_191 0 kg2_0_39 rfl dX12_compared_21 ?_
      refine j_aload_n (pc := 24) dX12_compared_24 rfl (q := 1) rfl ?_
      refine j_geti (pc := 25) jv2_0 jm_01 kf_RX12_194 kg2_0_41 dX12_compared_25 (fun h9 => ?_)
      refine j_iald (pc := 28) jv2_34 jm_01 rfl (by decide) ka2_34 dX12_compared_28 (fun c10 h11 => ?_)
      refine j_nm (pc := 29) h11 (fun v12 h13 => ?_)
      refine j_istore_n (pc := 29) [(3, jm_i v12), (2, jm_i v1), (0, jm_vr wd2 X 0 0), (1, jm_i l1)] dX12_compared_29 rfl (by decide) rfl ?_
      refine j_aload_n (pc := 30) dX12_compared_30 rfl (q := 2) rfl ?_
      refine j_dup (pc := 31) dX12_compared_31 rfl ?_
      refine j_geti (pc := 32) jv2_0 jm_01 kf_RX12_194 kg2_0_41 dX12_compared_32 (fun h14 => ?_)
      refine j_iconst (pc := 35) dX12_compared_35 ?_
      refine j_iadd (pc := 36) dX12_compared_36 ?_
      refine j_put (pc := 37) jv2_0 jm_01 kf_RX12_194 wI2 kp_X12_41 kx2_0_41 (jm_w_in _) rfl rfl dX12_compared_37 (fun M15 => ?_)
      refine j_aload_n (pc := 40) dX12_compared_40 rfl (q := 2) rfl ?_
      refine j_iload_n (pc := 41) dX12_compared_41 rfl (q := 3) rfl ?_
      refine j_callVi1 (pc := 42) (hrc3 M15 l1 hl1) kg_1491 km_X12_total kv_X12_total rfl rfl ⟨(by simp only [rmR]; omega), (by simp only [rmR]; omega)⟩ jv2_0 jm_01 ko2_0 rfl rfl (Nat.le_of_ble_eq_true rfl) dX12_compared_42 (fun v16 M17 h18 => ?_)
      refine j_istore_n (pc := 45) [(2, jm_i v16), (3, jm_i v12), (0, jm_vr wd2 X 0 0), (1, jm_i l1)] dX12_compared_45 rfl (by decide) rfl ?_
      refine j_iload_n (pc := 46) dX12_compared_46 rfl (q := 0) rfl ?_
      refine j_if_eq (tgt := 58) (pc := 47) h18 dX12_compared_47 (by decide) (fun c19 => ?_) (fun c19 => ?_)
      · skip
        refine j_iload_n (pc := 58) dX12_compared_58 rfl (q := 0) rfl ?_
        exact j_zret (pc := 59) h18 dX12_compared_59
      · skip
        refine j_aload_n (pc := 50) dX12_compared_50 rfl (q := 2) rfl ?_
        refine j_iload_n (pc := 51) dX12_compared_51 rfl (q := 1) rfl ?_
        refine j_callSi1 (pc := 52) (ct_X12_act M17 v12 h13) kg_1518 km_X12_act kg_1519 rfl rfl ⟨(by simp only [rmR, rmX12_act]; omega), (by simp only [rmR, rmX12_act]; omega)⟩ rfl rfl (Nat.le_of_ble_eq_true rfl) dX12_compared_52 (fun v20 M21 h22 => ?_)
        refine j_callVv1 (pc := 55) (ct_X12_marks M21 v20 h22) kg_1475 km_X12_marks kv_X12_marks rfl rfl ⟨(by simp only [rmR, rmX12_marks]; omega), (by simp only [rmR, rmX12_marks]; omega)⟩ jv2_0 jm_01 ko2_0 rfl rfl (Nat.le_of_ble_eq_true rfl) dX12_compared_55 (fun v23 M24 => ?_)
        refine j_iload_n (pc := 58) dX12_compared_58 rfl (q := 0) rfl ?_
        exact j_zret (pc := 59) h18 dX12_compared_59
set_option maxHeartbeats 4000000 in
set_option maxRecDepth 100000 in
theorem b0X12_total_6 {d : Nat} (rc : Nat → jm_M → Int → jm_R) (hrc0 : ∀ (M : jm_M) (a : Int), jm_in a → jm_Ci wd2 yX12_some cX12_some 3 (some .boolean) (rmR d) M (fun G ad => [.ref (ad (jm_r wd2 0 0)), jm_i a]) (rc 0 M a)) (hrc1 : ∀ (M : jm_M) (a : Int), jm_in a → jm_Ci wd2 yX12_every cX12_every 3 (some .boolean) (rmR d) M (fun G ad => [.ref (ad (jm_r wd2 0 0)), jm_i a]) (rc 1 M a)) (hrc2 : ∀ (M : jm_M) (a : Int), jm_in a → jm_Ci wd2 yX12_compared cX12_compared 4 (some .boolean) (rmR d) M (fun G ad => [.ref (ad (jm_r wd2 0 0)), jm_i a]) (rc 2 M a)) (hrc3 : ∀ (M : jm_M) (a : Int), jm_in a → jm_Ci wd2 yX12_total cX12_total 4 (some .boolean) (rmR d) M (fun G ad => [.ref (ad (jm_r wd2 0 0)), jm_i a]) (rc 3 M a)) (hrc4 : ∀ (M : jm_M) (a : Int), jm_in a → jm_Ci wd2 yX12_product cX12_product 3 (some .boolean) (rmR d) M (fun G ad => [.ref (ad (jm_r wd2 0 0)), jm_i a]) (rc 4 M a)) (hrc5 : ∀ (M : jm_M) (a : Int), jm_in a → jm_Ci wd2 yX12_unary cX12_unary 3 (some .boolean) (rmR d) M (fun G ad => [.ref (ad (jm_r wd2 0 0)), jm_i a]) (rc 5 M a)) (hrc6 : ∀ (M : jm_M) (a : Int), jm_in a → jm_Ci wd2 yX12_thing cX12_thing 2 (some .boolean) (rmR d) M (fun G ad => [.ref (ad (jm_r wd2 0 0)), jm_i a]) (rc 6 M a)) (X : jm_X) (fu : Nat) (k6 : jm_M → Int → Int → jm_R) (hk6 : ∀ (M : jm_M) (l1 l2 : Int) (hl1 : jm_in l1) (hl2 : jm_in l2), jm_J wd2 (jm_qi .boolean) cX12_total 4 RX12 (rmR (d + 1)) X M [(0, jm_vr wd2 X 0 0), (1, jm_i l1), (2, jm_i l2)] [] 6 (k6 M l1 l2)) : ∀ (M : jm_M) (l1 l2 : Int) (hl1 : jm_in l1) (hl2 : jm_in l2), jm_J wd2 (jm_qi .boolean) cX12_total 4 RX12 (rmR (d + 1)) X M [(0, jm_vr wd2 X 0 0), (1, jm_i l1), (2, jm_i l2)] [] 6 (gX12_total_6 rc fu k6 M l1 l2) := by
  intro M l1 l2 hl1 hl2
  unfold gX12_total_6
  refine j_iload_n (pc := 6) dX12_total_6 rfl (q := 2) rfl ?_
  refine j_if_eq (tgt := 61) (pc := 7) hl2 dX12_total_7 (by decide) (fun c1 => ?_) (fun c1 => ?_)
  · skip
    refine j_iload_n (pc := 61) dX12_total_61 rfl (q := 2) rfl ?_
    exact j_zret (pc := 62) hl2 dX12_total_62
  · skip
    refine j_aload_n (pc := 10) dX12_total_10 rfl (q := 0) rfl ?_
    refine j_iload_n (pc := 11) dX12_total_11 rfl (q := 1) rfl ?_
    refine j_ldcS (pc := 12) 6 (by decide) rfl rfl dX12_total_12 ?_
    refine j_callVi2 (pc := 14) (ct_X12_isOf M l1 6 hl1 ⟨by decide, by decide⟩) kg_1504 km_X12_isOf kv_X12_isOf rfl rfl ⟨(by simp only [rmR, rmX12_isOf]; omega), (by simp only [rmR, rmX12_isOf]; omega)⟩ jv2_0 jm_01 ko2_0 rfl rfl (Nat.le_of_ble_eq_true rfl) dX12_total_14 (fun v2 M3 h4 => ?_)
    refine j_if_eq (tgt := 61) (pc := 17) h4 dX12_total_17 (by decide) (fun c5 => ?_) (fun c5 => ?_)
    · skip
      refine j_iload_n (pc := 61) dX12_total_61 rfl (q := 2) rfl ?_
      exact j_zret (pc := 62) hl2 dX12_total_62
    · skip
      refine j_aload_n (pc := 20) dX12_total_20 rfl (q := 0) rfl ?_
      refine j_getr (pc := 21) jv2_0 jm_01 kf_RX12_191 0 kg2_0_39 rfl dX12_total_21 ?_
      refine j_aload_n (pc := 24) dX12_total_24 rfl (q := 0) rfl ?_
      refine j_geti (pc := 25) jv2_0 jm_01 kf_RX12_194 kg2_0_41 dX12_total_25 (fun h6 => ?_)
      refine j_iald (pc := 28) jv2_34 jm_01 rfl (by decide) ka2_34 dX12_total_28 (fun c7 h8 => ?_)
      refine j_nm (pc := 29) h8 (fun v9 h10 => ?_)
      refine j_istore_n (pc := 29) [(3, jm_i v9), (0, jm_vr wd2 X 0 0), (1, jm_i l1), (2, jm_i l2)] dX12_total_29 rfl (by decide) rfl ?_
      refine j_aload_n (pc := 30) dX12_total_30 rfl (q := 1) rfl ?_
      refine j_dup (pc := 31) dX12_total_31 rfl ?_
      refine j_geti (pc := 32) jv2_0 jm_01 kf_RX12_194 kg2_0_41 dX12_total_32 (fun h11 => ?_)
      refine j_iconst (pc := 35) dX12_total_35 ?_
      refine j_iadd (pc := 36) dX12_total_36 ?_
      refine j_put (pc := 37) jv2_0 jm_01 kf_RX12_194 wI2 kp_X12_41 kx2_0_41 (jm_w_in _) rfl rfl dX12_total_37 (fun M12 => ?_)
      refine j_aload_n (pc := 40) dX12_total_40 rfl (q := 1) rfl ?_
      refine j_iload_n (pc := 41) dX12_total_41 rfl (q := 2) rfl ?_
      refine j_callVi1 (pc := 42) (hrc4 M12 l1 hl1) kg_1495 km_X12_product kv_X12_product rfl rfl ⟨(by simp only [rmR]; omega), (by simp only [rmR]; omega)⟩ jv2_0 jm_01 ko2_0 rfl rfl (Nat.le_of_ble_eq_true rfl) dX12_total_42 (fun v13 M14 h15 => ?_)
      refine j_istore_n (pc := 45) [(2, jm_i v13), (3, jm_i v9), (0, jm_vr wd2 X 0 0), (1, jm_i l1)] dX12_total_45 rfl (by decide) rfl ?_
      refine j_iload_n (pc := 46) dX12_total_46 rfl (q := 0) rfl ?_
      refine j_if_eq (tgt := 58) (pc := 47) h15 dX12_total_47 (by decide) (fun c16 => ?_) (fun c16 => ?_)
      · skip
        refine j_goto (tgt := 6) (pc := 58) dX12_total_58 (by decide) ?_
        refine j_sub (pc := 6) [(0, jm_vr wd2 X 0 0), (1, jm_i l1), (2, jm_i v13)] [2, 3, 0] rfl ?_
        exact hk6 M14 l1 v13 hl1 h15
      · skip
        refine j_aload_n (pc := 50) dX12_total_50 rfl (q := 2) rfl ?_
        refine j_iload_n (pc := 51) dX12_total_51 rfl (q := 1) rfl ?_
        refine j_callSi1 (pc := 52) (ct_X12_act M14 v9 h10) kg_1518 km_X12_act kg_1519 rfl rfl ⟨(by simp only [rmR, rmX12_act]; omega), (by simp only [rmR, rmX12_act]; omega)⟩ rfl rfl (Nat.le_of_ble_eq_true rfl) dX12_total_52 (fun v17 M18 h19 => ?_)
        refine j_callVv1 (pc := 55) (ct_X12_marks M18 v17 h19) kg_1475 km_X12_marks kv_X12_marks rfl rfl ⟨(by simp only [rmR, rmX12_marks]; omega), (by simp only [rmR, rmX12_marks]; omega)⟩ jv2_0 jm_01 ko2_0 rfl rfl (Nat.le_of_ble_eq_true rfl) dX12_total_55 (fun v20 M21 => ?_)
        refine j_goto (tgt := 6) (pc := 58) dX12_total_58 (by decide) ?_
        refine j_sub (pc := 6) [(0, jm_vr wd2 X 0 0), (1, jm_i l1), (2, jm_i v13)] [2, 3, 0] rfl ?_
        exact hk6 M21 l1 v13 hl1 h15
theorem bX12_total_6 {d : Nat} (rc : Nat → jm_M → Int → jm_R) (hrc0 : ∀ (M : jm_M) (a : Int), jm_in a → jm_Ci wd2 yX12_some cX12_some 3 (some .boolean) (rmR d) M (fun G ad => [.ref (ad (jm_r wd2 0 0)), jm_i a]) (rc 0 M a)) (hrc1 : ∀ (M : jm_M) (a : Int), jm_in a → jm_Ci wd2 yX12_every cX12_every 3 (some .boolean) (rmR d) M (fun G ad => [.ref (ad (jm_r wd2 0 0)), jm_i a]) (rc 1 M a)) (hrc2 : ∀ (M : jm_M) (a : Int), jm_in a → jm_Ci wd2 yX12_compared cX12_compared 4 (some .boolean) (rmR d) M (fun G ad => [.ref (ad (jm_r wd2 0 0)), jm_i a]) (rc 2 M a)) (hrc3 : ∀ (M : jm_M) (a : Int), jm_in a → jm_Ci wd2 yX12_total cX12_total 4 (some .boolean) (rmR d) M (fun G ad => [.ref (ad (jm_r wd2 0 0)), jm_i a]) (rc 3 M a)) (hrc4 : ∀ (M : jm_M) (a : Int), jm_in a → jm_Ci wd2 yX12_product cX12_product 3 (some .boolean) (rmR d) M (fun G ad => [.ref (ad (jm_r wd2 0 0)), jm_i a]) (rc 4 M a)) (hrc5 : ∀ (M : jm_M) (a : Int), jm_in a → jm_Ci wd2 yX12_unary cX12_unary 3 (some .boolean) (rmR d) M (fun G ad => [.ref (ad (jm_r wd2 0 0)), jm_i a]) (rc 5 M a)) (hrc6 : ∀ (M : jm_M) (a : Int), jm_in a → jm_Ci wd2 yX12_thing cX12_thing 2 (some .boolean) (rmR d) M (fun G ad => [.ref (ad (jm_r wd2 0 0)), jm_i a]) (rc 6 M a)) (X : jm_X) (fu : Nat) : ∀ (n : Nat) (M : jm_M) (l1 l2 : Int) (hl1 : jm_in l1) (hl2 : jm_in l2), jm_J wd2 (jm_qi .boolean) cX12_total 4 RX12 (rmR (d + 1)) X M [(0, jm_vr wd2 X 0 0), (1, jm_i l1), (2, jm_i l2)] [] 6 (fX12_total_6 rc fu n M l1 l2) := by
  intro n
  induction n with
  | zero => intro M l1 l2 hl1 hl2; exact j_none
  | succ n ih => intro M l1 l2 hl1 hl2; exact b0X12_total_6 rc hrc0 hrc1 hrc2 hrc3 hrc4 hrc5 hrc6 X fu (fX12_total_6 rc fu n) ih M l1 l2 hl1 hl2
set_option maxHeartbeats 4000000 in
set_option maxRecDepth 100000 in
theorem ct_X12_total {d : Nat} (rc : Nat → jm_M → Int → jm_R) (hrc0 : ∀ (M : jm_M) (a : Int), jm_in a → jm_Ci wd2 yX12_some cX12_some 3 (some .boolean) (rmR d) M (fun G ad => [.ref (ad (jm_r wd2 0 0)), jm_i a]) (rc 0 M a)) (hrc1 : ∀ (M : jm_M) (a : Int), jm_in a → jm_Ci wd2 yX12_every cX12_every 3 (some .boolean) (rmR d) M (fun G ad => [.ref (ad (jm_r wd2 0 0)), jm_i a]) (rc 1 M a)) (hrc2 : ∀ (M : jm_M) (a : Int), jm_in a → jm_Ci wd2 yX12_compared cX12_compared 4 (some .boolean) (rmR d) M (fun G ad => [.ref (ad (jm_r wd2 0 0)), jm_i a]) (rc 2 M a)) (hrc3 : ∀ (M : jm_M) (a : Int), jm_in a → jm_Ci wd2 yX12_total cX12_total 4 (some .boolean) (rmR d) M (fun G ad => [.ref (ad (jm_r wd2 0 0)), jm_i a]) (rc 3 M a)) (hrc4 : ∀ (M : jm_M) (a : Int), jm_in a → jm_Ci wd2 yX12_product cX12_product 3 (some .boolean) (rmR d) M (fun G ad => [.ref (ad (jm_r wd2 0 0)), jm_i a]) (rc 4 M a)) (hrc5 : ∀ (M : jm_M) (a : Int), jm_in a → jm_Ci wd2 yX12_unary cX12_unary 3 (some .boolean) (rmR d) M (fun G ad => [.ref (ad (jm_r wd2 0 0)), jm_i a]) (rc 5 M a)) (hrc6 : ∀ (M : jm_M) (a : Int), jm_in a → jm_Ci wd2 yX12_thing cX12_thing 2 (some .boolean) (rmR d) M (fun G ad => [.ref (ad (jm_r wd2 0 0)), jm_i a]) (rc 6 M a)) (fu : Nat) (M : jm_M) (l1 : Int) (hl1 : jm_in l1) : jm_Ci wd2 yX12_total cX12_total 4 (some .boolean) (rmR (d + 1)) M (fun G ad => [.ref (ad (jm_r wd2 0 0)), jm_i l1]) (gX12_total rc fu M l1) := by
  refine jm_met_i (fun X => [(0, jm_vr wd2 X 0 0), (1, jm_i l1)]) (by decide) (fun _ _ => (Nat.le_of_ble_eq_true rfl)) (fun _ => rfl) (fun X => ?_)
  unfold gX12_total
  refine j_aload_n (pc := 0) dX12_total_0 rfl (q := 0) rfl ?_
  refine j_iload_n (pc := 1) dX12_total_1 rfl (q := 1) rfl ?_
  refine j_callVi1 (pc := 2) (hrc4 M l1 hl1) kg_1495 km_X12_product kv_X12_product rfl rfl ⟨(by simp only [rmR]; omega), (by simp only [rmR]; omega)⟩ jv2_0 jm_01 ko2_0 rfl rfl (Nat.le_of_ble_eq_true rfl) dX12_total_2 (fun v1 M2 h3 => ?_)
  refine j_istore_n (pc := 5) [(2, jm_i v1), (0, jm_vr wd2 X 0 0), (1, jm_i l1)] dX12_total_5 rfl (by decide) rfl ?_
  refine j_sub (pc := 6) [(0, jm_vr wd2 X 0 0), (1, jm_i l1), (2, jm_i v1)] [1, 2, 0] rfl ?_
  exact bX12_total_6 rc hrc0 hrc1 hrc2 hrc3 hrc4 hrc5 hrc6 X fu  fu M2 l1 v1 hl1 h3
set_option maxHeartbeats 4000000 in
set_option maxRecDepth 100000 in
theorem b0X12_product_6 {d : Nat} (rc : Nat → jm_M → Int → jm_R) (hrc0 : ∀ (M : jm_M) (a : Int), jm_in a → jm_Ci wd2 yX12_some cX12_some 3 (some .boolean) (rmR d) M (fun G ad => [.ref (ad (jm_r wd2 0 0)), jm_i a]) (rc 0 M a)) (hrc1 : ∀ (M : jm_M) (a : Int), jm_in a → jm_Ci wd2 yX12_every cX12_every 3 (some .boolean) (rmR d) M (fun G ad => [.ref (ad (jm_r wd2 0 0)), jm_i a]) (rc 1 M a)) (hrc2 : ∀ (M : jm_M) (a : Int), jm_in a → jm_Ci wd2 yX12_compared cX12_compared 4 (some .boolean) (rmR d) M (fun G ad => [.ref (ad (jm_r wd2 0 0)), jm_i a]) (rc 2 M a)) (hrc3 : ∀ (M : jm_M) (a : Int), jm_in a → jm_Ci wd2 yX12_total cX12_total 4 (some .boolean) (rmR d) M (fun G ad => [.ref (ad (jm_r wd2 0 0)), jm_i a]) (rc 3 M a)) (hrc4 : ∀ (M : jm_M) (a : Int), jm_in a → jm_Ci wd2 yX12_product cX12_product 3 (some .boolean) (rmR d) M (fun G ad => [.ref (ad (jm_r wd2 0 0)), jm_i a]) (rc 4 M a)) (hrc5 : ∀ (M : jm_M) (a : Int), jm_in a → jm_Ci wd2 yX12_unary cX12_unary 3 (some .boolean) (rmR d) M (fun G ad => [.ref (ad (jm_r wd2 0 0)), jm_i a]) (rc 5 M a)) (hrc6 : ∀ (M : jm_M) (a : Int), jm_in a → jm_Ci wd2 yX12_thing cX12_thing 2 (some .boolean) (rmR d) M (fun G ad => [.ref (ad (jm_r wd2 0 0)), jm_i a]) (rc 6 M a)) (X : jm_X) (fu : Nat) (k6 : jm_M → Int → Int → jm_R) (hk6 : ∀ (M : jm_M) (l1 l2 : Int) (hl1 : jm_in l1) (hl2 : jm_in l2), jm_J wd2 (jm_qi .boolean) cX12_product 3 RX12 (rmR (d + 1)) X M [(0, jm_vr wd2 X 0 0), (1, jm_i l1), (2, jm_i l2)] [] 6 (k6 M l1 l2)) : ∀ (M : jm_M) (l1 l2 : Int) (hl1 : jm_in l1) (hl2 : jm_in l2), jm_J wd2 (jm_qi .boolean) cX12_product 3 RX12 (rmR (d + 1)) X M [(0, jm_vr wd2 X 0 0), (1, jm_i l1), (2, jm_i l2)] [] 6 (gX12_product_6 rc fu k6 M l1 l2) := by
  intro M l1 l2 hl1 hl2
  unfold gX12_product_6
  refine j_iload_n (pc := 6) dX12_product_6 rfl (q := 2) rfl ?_
  refine j_if_eq (tgt := 52) (pc := 7) hl2 dX12_product_7 (by decide) (fun c1 => ?_) (fun c1 => ?_)
  · skip
    refine j_iload_n (pc := 52) dX12_product_52 rfl (q := 2) rfl ?_
    exact j_zret (pc := 53) hl2 dX12_product_53
  · skip
    refine j_aload_n (pc := 10) dX12_product_10 rfl (q := 0) rfl ?_
    refine j_iload_n (pc := 11) dX12_product_11 rfl (q := 1) rfl ?_
    refine j_bipush (pc := 12) 42 dX12_product_12 (by decide) ?_
    refine j_callVi2 (pc := 14) (ct_X12_isSign M l1 42 hl1 (jm_inL (by decide) (by decide))) kg_1471 km_X12_isSign kv_X12_isSign rfl rfl ⟨(by simp only [rmR, rmX12_isSign]; omega), (by simp only [rmR, rmX12_isSign]; omega)⟩ jv2_0 jm_01 ko2_0 rfl rfl (Nat.le_of_ble_eq_true rfl) dX12_product_14 (fun v2 M3 h4 => ?_)
    refine j_if_eq (tgt := 52) (pc := 17) h4 dX12_product_17 (by decide) (fun c5 => ?_) (fun c5 => ?_)
    · skip
      refine j_iload_n (pc := 52) dX12_product_52 rfl (q := 2) rfl ?_
      exact j_zret (pc := 53) hl2 dX12_product_53
    · skip
      refine j_aload_n (pc := 20) dX12_product_20 rfl (q := 0) rfl ?_
      refine j_dup (pc := 21) dX12_product_21 rfl ?_
      refine j_geti (pc := 22) jv2_0 jm_01 kf_RX12_194 kg2_0_41 dX12_product_22 (fun h6 => ?_)
      refine j_iconst (pc := 25) dX12_product_25 ?_
      refine j_iadd (pc := 26) dX12_product_26 ?_
      refine j_put (pc := 27) jv2_0 jm_01 kf_RX12_194 wI2 kp_X12_41 kx2_0_41 (jm_w_in _) rfl rfl dX12_product_27 (fun M7 => ?_)
      refine j_aload_n (pc := 30) dX12_product_30 rfl (q := 0) rfl ?_
      refine j_iload_n (pc := 31) dX12_product_31 rfl (q := 1) rfl ?_
      refine j_callVi1 (pc := 32) (hrc5 M7 l1 hl1) kg_1499 km_X12_unary kv_X12_unary rfl rfl ⟨(by simp only [rmR]; omega), (by simp only [rmR]; omega)⟩ jv2_0 jm_01 ko2_0 rfl rfl (Nat.le_of_ble_eq_true rfl) dX12_product_32 (fun v8 M9 h10 => ?_)
      refine j_istore_n (pc := 35) [(2, jm_i v8), (0, jm_vr wd2 X 0 0), (1, jm_i l1)] dX12_product_35 rfl (by decide) rfl ?_
      refine j_iload_n (pc := 36) dX12_product_36 rfl (q := 0) rfl ?_
      refine j_if_eq (tgt := 6) (pc := 37) h10 dX12_product_37 (by decide) (fun c11 => ?_) (fun c11 => ?_)
      · skip
        refine j_sub (pc := 6) [(0, jm_vr wd2 X 0 0), (1, jm_i l1), (2, jm_i v8)] [1, 2, 0] rfl ?_
        exact hk6 M9 l1 v8 hl1 h10
      · skip
        refine j_aload_n (pc := 40) dX12_product_40 rfl (q := 1) rfl ?_
        refine j_bipush (pc := 41) 42 dX12_product_41 (by decide) ?_
        refine j_callSi1 (pc := 43) (ct_X12_act M9 42 (jm_inL (by decide) (by decide))) kg_1518 km_X12_act kg_1519 rfl rfl ⟨(by simp only [rmR, rmX12_act]; omega), (by simp only [rmR, rmX12_act]; omega)⟩ rfl rfl (Nat.le_of_ble_eq_true rfl) dX12_product_43 (fun v12 M13 h14 => ?_)
        refine j_callVv1 (pc := 46) (ct_X12_marks M13 v12 h14) kg_1475 km_X12_marks kv_X12_marks rfl rfl ⟨(by simp only [rmR, rmX12_marks]; omega), (by simp only [rmR, rmX12_marks]; omega)⟩ jv2_0 jm_01 ko2_0 rfl rfl (Nat.le_of_ble_eq_true rfl) dX12_product_46 (fun v15 M16 => ?_)
        refine j_goto (tgt := 6) (pc := 49) dX12_product_49 (by decide) ?_
        refine j_sub (pc := 6) [(0, jm_vr wd2 X 0 0), (1, jm_i l1), (2, jm_i v8)] [1, 2, 0] rfl ?_
        exact hk6 M16 l1 v8 hl1 h10
theorem bX12_product_6 {d : Nat} (rc : Nat → jm_M → Int → jm_R) (hrc0 : ∀ (M : jm_M) (a : Int), jm_in a → jm_Ci wd2 yX12_some cX12_some 3 (some .boolean) (rmR d) M (fun G ad => [.ref (ad (jm_r wd2 0 0)), jm_i a]) (rc 0 M a)) (hrc1 : ∀ (M : jm_M) (a : Int), jm_in a → jm_Ci wd2 yX12_every cX12_every 3 (some .boolean) (rmR d) M (fun G ad => [.ref (ad (jm_r wd2 0 0)), jm_i a]) (rc 1 M a)) (hrc2 : ∀ (M : jm_M) (a : Int), jm_in a → jm_Ci wd2 yX12_compared cX12_compared 4 (some .boolean) (rmR d) M (fun G ad => [.ref (ad (jm_r wd2 0 0)), jm_i a]) (rc 2 M a)) (hrc3 : ∀ (M : jm_M) (a : Int), jm_in a → jm_Ci wd2 yX12_total cX12_total 4 (some .boolean) (rmR d) M (fun G ad => [.ref (ad (jm_r wd2 0 0)), jm_i a]) (rc 3 M a)) (hrc4 : ∀ (M : jm_M) (a : Int), jm_in a → jm_Ci wd2 yX12_product cX12_product 3 (some .boolean) (rmR d) M (fun G ad => [.ref (ad (jm_r wd2 0 0)), jm_i a]) (rc 4 M a)) (hrc5 : ∀ (M : jm_M) (a : Int), jm_in a → jm_Ci wd2 yX12_unary cX12_unary 3 (some .boolean) (rmR d) M (fun G ad => [.ref (ad (jm_r wd2 0 0)), jm_i a]) (rc 5 M a)) (hrc6 : ∀ (M : jm_M) (a : Int), jm_in a → jm_Ci wd2 yX12_thing cX12_thing 2 (some .boolean) (rmR d) M (fun G ad => [.ref (ad (jm_r wd2 0 0)), jm_i a]) (rc 6 M a)) (X : jm_X) (fu : Nat) : ∀ (n : Nat) (M : jm_M) (l1 l2 : Int) (hl1 : jm_in l1) (hl2 : jm_in l2), jm_J wd2 (jm_qi .boolean) cX12_product 3 RX12 (rmR (d + 1)) X M [(0, jm_vr wd2 X 0 0), (1, jm_i l1), (2, jm_i l2)] [] 6 (fX12_product_6 rc fu n M l1 l2) := by
  intro n
  induction n with
  | zero => intro M l1 l2 hl1 hl2; exact j_none
  | succ n ih => intro M l1 l2 hl1 hl2; exact b0X12_product_6 rc hrc0 hrc1 hrc2 hrc3 hrc4 hrc5 hrc6 X fu (fX12_product_6 rc fu n) ih M l1 l2 hl1 hl2
set_option maxHeartbeats 4000000 in
set_option maxRecDepth 100000 in
theorem ct_X12_product {d : Nat} (rc : Nat → jm_M → Int → jm_R) (hrc0 : ∀ (M : jm_M) (a : Int), jm_in a → jm_Ci wd2 yX12_some cX12_some 3 (some .boolean) (rmR d) M (fun G ad => [.ref (ad (jm_r wd2 0 0)), jm_i a]) (rc 0 M a)) (hrc1 : ∀ (M : jm_M) (a : Int), jm_in a → jm_Ci wd2 yX12_every cX12_every 3 (some .boolean) (rmR d) M (fun G ad => [.ref (ad (jm_r wd2 0 0)), jm_i a]) (rc 1 M a)) (hrc2 : ∀ (M : jm_M) (a : Int), jm_in a → jm_Ci wd2 yX12_compared cX12_compared 4 (some .boolean) (rmR d) M (fun G ad => [.ref (ad (jm_r wd2 0 0)), jm_i a]) (rc 2 M a)) (hrc3 : ∀ (M : jm_M) (a : Int), jm_in a → jm_Ci wd2 yX12_total cX12_total 4 (some .boolean) (rmR d) M (fun G ad => [.ref (ad (jm_r wd2 0 0)), jm_i a]) (rc 3 M a)) (hrc4 : ∀ (M : jm_M) (a : Int), jm_in a → jm_Ci wd2 yX12_product cX12_product 3 (some .boolean) (rmR d) M (fun G ad => [.ref (ad (jm_r wd2 0 0)), jm_i a]) (rc 4 M a)) (hrc5 : ∀ (M : jm_M) (a : Int), jm_in a → jm_Ci wd2 yX12_unary cX12_unary 3 (some .boolean) (rmR d) M (fun G ad => [.ref (ad (jm_r wd2 0 0)), jm_i a]) (rc 5 M a)) (hrc6 : ∀ (M : jm_M) (a : Int), jm_in a → jm_Ci wd2 yX12_thing cX12_thing 2 (some .boolean) (rmR d) M (fun G ad => [.ref (ad (jm_r wd2 0 0)), jm_i a]) (rc 6 M a)) (fu : Nat) (M : jm_M) (l1 : Int) (hl1 : jm_in l1) : jm_Ci wd2 yX12_product cX12_product 3 (some .boolean) (rmR (d + 1)) M (fun G ad => [.ref (ad (jm_r wd2 0 0)), jm_i l1]) (gX12_product rc fu M l1) := by
  refine jm_met_i (fun X => [(0, jm_vr wd2 X 0 0), (1, jm_i l1)]) (by decide) (fun _ _ => (Nat.le_of_ble_eq_true rfl)) (fun _ => rfl) (fun X => ?_)
  unfold gX12_product
  refine j_aload_n (pc := 0) dX12_product_0 rfl (q := 0) rfl ?_
  refine j_iload_n (pc := 1) dX12_product_1 rfl (q := 1) rfl ?_
  refine j_callVi1 (pc := 2) (hrc5 M l1 hl1) kg_1499 km_X12_unary kv_X12_unary rfl rfl ⟨(by simp only [rmR]; omega), (by simp only [rmR]; omega)⟩ jv2_0 jm_01 ko2_0 rfl rfl (Nat.le_of_ble_eq_true rfl) dX12_product_2 (fun v1 M2 h3 => ?_)
  refine j_istore_n (pc := 5) [(2, jm_i v1), (0, jm_vr wd2 X 0 0), (1, jm_i l1)] dX12_product_5 rfl (by decide) rfl ?_
  refine j_sub (pc := 6) [(0, jm_vr wd2 X 0 0), (1, jm_i l1), (2, jm_i v1)] [1, 2, 0] rfl ?_
  exact bX12_product_6 rc hrc0 hrc1 hrc2 hrc3 hrc4 hrc5 hrc6 X fu  fu M2 l1 v1 hl1 h3
