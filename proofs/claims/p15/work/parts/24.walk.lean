set_option maxHeartbeats 4000000 in
set_option maxRecDepth 100000 in
theorem ct_X12_unary {d : Nat} (rc : Nat → jm_M → Int → jm_R) (hrc0 : ∀ (M : jm_M) (a : Int), jm_in a → jm_Ci wd2 yX12_some cX12_some 3 (some .boolean) (rmR d) M (fun G ad => [.ref (ad (jm_r wd2 0 0)), jm_i a]) (rc 0 M a)) (hrc1 : ∀ (M : jm_M) (a : Int), jm_in a → jm_Ci wd2 yX12_every cX12_every 3 (some .boolean) (rmR d) M (fun G ad => [.ref (ad (jm_r wd2 0 0)), jm_i a]) (rc 1 M a)) (hrc2 : ∀ (M : jm_M) (a : Int), jm_in a → jm_Ci wd2 yX12_compared cX12_compared 4 (some .boolean) (rmR d) M (fun G ad => [.ref (ad (jm_r wd2 0 0)), jm_i a]) (rc 2 M a)) (hrc3 : ∀ (M : jm_M) (a : Int), jm_in a → jm_Ci wd2 yX12_total cX12_total 4 (some .boolean) (rmR d) M (fun G ad => [.ref (ad (jm_r wd2 0 0)), jm_i a]) (rc 3 M a)) (hrc4 : ∀ (M : jm_M) (a : Int), jm_in a → jm_Ci wd2 yX12_product cX12_product 3 (some .boolean) (rmR d) M (fun G ad => [.ref (ad (jm_r wd2 0 0)), jm_i a]) (rc 4 M a)) (hrc5 : ∀ (M : jm_M) (a : Int), jm_in a → jm_Ci wd2 yX12_unary cX12_unary 3 (some .boolean) (rmR d) M (fun G ad => [.ref (ad (jm_r wd2 0 0)), jm_i a]) (rc 5 M a)) (hrc6 : ∀ (M : jm_M) (a : Int), jm_in a → jm_Ci wd2 yX12_thing cX12_thing 2 (some .boolean) (rmR d) M (fun G ad => [.ref (ad (jm_r wd2 0 0)), jm_i a]) (rc 6 M a)) (M : jm_M) (l1 : Int) (hl1 : jm_in l1) : jm_Ci wd2 yX12_unary cX12_unary 3 (some .boolean) (rmR (d + 1)) M (fun G ad => [.ref (ad (jm_r wd2 0 0)), jm_i l1]) (gX12_unary rc M l1) := by
  refine jm_met_i (fun X => [(0, jm_vr wd2 X 0 0), (1, jm_i l1)]) (by decide) (fun _ _ => (Nat.le_of_ble_eq_true rfl)) (fun _ => rfl) (fun X => ?_)
  unfold gX12_unary
  refine j_aload_n (pc := 0) dX12_unary_0 rfl (q := 0) rfl ?_
  refine j_iload_n (pc := 1) dX12_unary_1 rfl (q := 1) rfl ?_
  refine j_ldcS (pc := 2) 4 (by decide) rfl rfl dX12_unary_2 ?_
  refine j_callVi2 (pc := 4) (ct_X12_isOf M l1 4 hl1 ⟨by decide, by decide⟩) kg_1504 km_X12_isOf kv_X12_isOf rfl rfl ⟨(by simp only [rmR, rmX12_isOf]; omega), (by simp only [rmR, rmX12_isOf]; omega)⟩ jv2_0 jm_01 ko2_0 rfl rfl (Nat.le_of_ble_eq_true rfl) dX12_unary_4 (fun v1 M2 h3 => ?_)
  refine j_if_ne (tgt := 16) (pc := 7) h3 dX12_unary_7 (by decide) (fun c4 => ?_) (fun c4 => ?_)
  · skip
    refine j_aload_n (pc := 10) dX12_unary_10 rfl (q := 0) rfl ?_
    refine j_iload_n (pc := 11) dX12_unary_11 rfl (q := 1) rfl ?_
    refine j_callVi1 (pc := 12) (hrc6 M2 l1 hl1) kg_1509 km_X12_thing kv_X12_thing rfl rfl ⟨(by simp only [rmR]; omega), (by simp only [rmR]; omega)⟩ jv2_0 jm_01 ko2_0 rfl rfl (Nat.le_of_ble_eq_true rfl) dX12_unary_12 (fun v5 M6 h7 => ?_)
    exact j_zret (pc := 15) h7 dX12_unary_15
  · skip
    refine j_aload_n (pc := 16) dX12_unary_16 rfl (q := 0) rfl ?_
    refine j_getr (pc := 17) jv2_0 jm_01 kf_RX12_191 0 kg2_0_39 rfl dX12_unary_17 ?_
    refine j_aload_n (pc := 20) dX12_unary_20 rfl (q := 0) rfl ?_
    refine j_geti (pc := 21) jv2_0 jm_01 kf_RX12_194 kg2_0_41 dX12_unary_21 (fun h8 => ?_)
    refine j_iald (pc := 24) jv2_34 jm_01 rfl (by decide) ka2_34 dX12_unary_24 (fun c9 h10 => ?_)
    refine j_nm (pc := 25) h10 (fun v11 h12 => ?_)
    refine j_istore_n (pc := 25) [(2, jm_i v11), (0, jm_vr wd2 X 0 0), (1, jm_i l1)] dX12_unary_25 rfl (by decide) rfl ?_
    refine j_aload_n (pc := 26) dX12_unary_26 rfl (q := 1) rfl ?_
    refine j_dup (pc := 27) dX12_unary_27 rfl ?_
    refine j_geti (pc := 28) jv2_0 jm_01 kf_RX12_194 kg2_0_41 dX12_unary_28 (fun h13 => ?_)
    refine j_iconst (pc := 31) dX12_unary_31 ?_
    refine j_iadd (pc := 32) dX12_unary_32 ?_
    refine j_put (pc := 33) jv2_0 jm_01 kf_RX12_194 wI2 kp_X12_41 kx2_0_41 (jm_w_in _) rfl rfl dX12_unary_33 (fun M14 => ?_)
    refine j_aload_n (pc := 36) dX12_unary_36 rfl (q := 1) rfl ?_
    refine j_iload_n (pc := 37) dX12_unary_37 rfl (q := 2) rfl ?_
    refine j_callVi1 (pc := 38) (hrc5 M14 l1 hl1) kg_1499 km_X12_unary kv_X12_unary rfl rfl ⟨(by simp only [rmR]; omega), (by simp only [rmR]; omega)⟩ jv2_0 jm_01 ko2_0 rfl rfl (Nat.le_of_ble_eq_true rfl) dX12_unary_38 (fun v15 M16 h17 => ?_)
    refine j_if_ne (tgt := 46) (pc := 41) h17 dX12_unary_41 (by decide) (fun c18 => ?_) (fun c18 => ?_)
    · skip
      refine j_iconst (pc := 44) dX12_unary_44 ?_
      exact j_iret (pc := 45) (jm_inL (by decide) (by decide)) rfl dX12_unary_45
    · skip
      refine j_aload_n (pc := 46) dX12_unary_46 rfl (q := 1) rfl ?_
      refine j_iload_n (pc := 47) dX12_unary_47 rfl (q := 0) rfl ?_
      refine j_bipush (pc := 48) 33 dX12_unary_48 (by decide) ?_
      refine j_icmp_ne (tgt := 58) (pc := 50) h12 (jm_inL (by decide) (by decide)) dX12_unary_50 (by decide) (fun c19 => ?_) (fun c19 => ?_)
      · skip
        refine j_bipush (pc := 53) 33 dX12_unary_53 (by decide) ?_
        refine j_goto (tgt := 60) (pc := 55) dX12_unary_55 (by decide) ?_
        refine j_callSi1 (pc := 60) (ct_X12_act M16 33 (jm_inL (by decide) (by decide))) kg_1518 km_X12_act kg_1519 rfl rfl ⟨(by simp only [rmR, rmX12_act]; omega), (by simp only [rmR, rmX12_act]; omega)⟩ rfl rfl (Nat.le_of_ble_eq_true rfl) dX12_unary_60 (fun v20 M21 h22 => ?_)
        refine j_callVv1 (pc := 63) (ct_X12_marks M21 v20 h22) kg_1475 km_X12_marks kv_X12_marks rfl rfl ⟨(by simp only [rmR, rmX12_marks]; omega), (by simp only [rmR, rmX12_marks]; omega)⟩ jv2_0 jm_01 ko2_0 rfl rfl (Nat.le_of_ble_eq_true rfl) dX12_unary_63 (fun v23 M24 => ?_)
        refine j_iconst (pc := 66) dX12_unary_66 ?_
        exact j_iret (pc := 67) (jm_inL (by decide) (by decide)) rfl dX12_unary_67
      · skip
        refine j_bipush (pc := 58) 126 dX12_unary_58 (by decide) ?_
        refine j_callSi1 (pc := 60) (ct_X12_act M16 126 (jm_inL (by decide) (by decide))) kg_1518 km_X12_act kg_1519 rfl rfl ⟨(by simp only [rmR, rmX12_act]; omega), (by simp only [rmR, rmX12_act]; omega)⟩ rfl rfl (Nat.le_of_ble_eq_true rfl) dX12_unary_60 (fun v25 M26 h27 => ?_)
        refine j_callVv1 (pc := 63) (ct_X12_marks M26 v25 h27) kg_1475 km_X12_marks kv_X12_marks rfl rfl ⟨(by simp only [rmR, rmX12_marks]; omega), (by simp only [rmR, rmX12_marks]; omega)⟩ jv2_0 jm_01 ko2_0 rfl rfl (Nat.le_of_ble_eq_true rfl) dX12_unary_63 (fun v28 M29 => ?_)
        refine j_iconst (pc := 66) dX12_unary_66 ?_
        exact j_iret (pc := 67) (jm_inL (by decide) (by decide)) rfl dX12_unary_67
abbrev rmX12_numeral : Room := { frames := 10, cells := 0, slots := 0, locals := 443 }
set_option maxHeartbeats 4000000 in
set_option maxRecDepth 100000 in
theorem bX12_numeral_58 (X : jm_X) (fu : Nat) : ∀ (M : jm_M) (l2 l3 : Int) (hl2 : jm_in l2) (hl3 : jm_in l3), jm_J wd2 (jm_qi .boolean) cX12_numeral 4 RX12 rmX12_numeral X M [(0, jm_vr wd2 X 0 0), (2, jm_i l2), (3, jm_i l3)] [] 58 (gX12_numeral_58 fu M l2 l3) := by
  intro M l2 l3 hl2 hl3
  unfold gX12_numeral_58
  refine j_aload_n (pc := 58) dX12_numeral_58 rfl (q := 0) rfl ?_
  refine j_iload_n (pc := 59) dX12_numeral_59 rfl (q := 1) rfl ?_
  refine j_callVv1 (pc := 60) (ct_X12_marks M l2 hl2) kg_1475 km_X12_marks kv_X12_marks rfl rfl ⟨(Nat.le_of_ble_eq_true rfl), (Nat.le_of_ble_eq_true rfl)⟩ jv2_0 jm_01 ko2_0 rfl rfl (Nat.le_of_ble_eq_true rfl) dX12_numeral_60 (fun v1 M2 => ?_)
  refine j_aload_n (pc := 63) dX12_numeral_63 rfl (q := 0) rfl ?_
  refine j_geti (pc := 64) jv2_0 jm_01 kf_RX12_194 kg2_0_41 dX12_numeral_64 (fun h3 => ?_)
  refine j_iload_n (pc := 67) dX12_numeral_67 rfl (q := 2) rfl ?_
  refine j_icmp_le (tgt := 75) (pc := 68) h3 hl3 dX12_numeral_68 (by decide) (fun c4 => ?_) (fun c4 => ?_)
  · skip
    refine j_iconst (pc := 75) dX12_numeral_75 ?_
    exact j_iret (pc := 76) (jm_inL (by decide) (by decide)) rfl dX12_numeral_76
  · skip
    refine j_iconst (pc := 71) dX12_numeral_71 ?_
    refine j_goto (tgt := 76) (pc := 72) dX12_numeral_72 (by decide) ?_
    exact j_iret (pc := 76) (jm_inL (by decide) (by decide)) rfl dX12_numeral_76
set_option maxHeartbeats 4000000 in
set_option maxRecDepth 100000 in
theorem b0X12_numeral_7 (X : jm_X) (fu : Nat) (k7 : jm_M → Int → Int → Int → jm_R) (hk7 : ∀ (M : jm_M) (l1 l2 l3 : Int) (hl1 : jm_in l1) (hl2 : jm_in l2) (hl3 : jm_in l3), jm_J wd2 (jm_qi .boolean) cX12_numeral 4 RX12 rmX12_numeral X M [(0, jm_vr wd2 X 0 0), (1, jm_i l1), (2, jm_i l2), (3, jm_i l3)] [] 7 (k7 M l1 l2 l3)) : ∀ (M : jm_M) (l1 l2 l3 : Int) (hl1 : jm_in l1) (hl2 : jm_in l2) (hl3 : jm_in l3), jm_J wd2 (jm_qi .boolean) cX12_numeral 4 RX12 rmX12_numeral X M [(0, jm_vr wd2 X 0 0), (1, jm_i l1), (2, jm_i l2), (3, jm_i l3)] [] 7 (gX12_numeral_7 fu k7 M l1 l2 l3) := by
  intro M l1 l2 l3 hl1 hl2 hl3
  unfold gX12_numeral_7
  refine j_aload_n (pc := 7) dX12_numeral_7 rfl (q := 0) rfl ?_
  refine j_geti (pc := 8) jv2_0 jm_01 kf_RX12_194 kg2_0_41 dX12_numeral_8 (fun h1 => ?_)
  refine j_iload_n (pc := 11) dX12_numeral_11 rfl (q := 3) rfl ?_
  refine j_iconst (pc := 12) dX12_numeral_12 ?_
  refine j_iadd (pc := 13) dX12_numeral_13 ?_
  refine j_icmp_ge (tgt := 58) (pc := 14) h1 (jm_w_in _) dX12_numeral_14 (by decide) (fun c2 => ?_) (fun c2 => ?_)
  · skip
    refine j_sub (pc := 58) [(0, jm_vr wd2 X 0 0), (2, jm_i l2), (3, jm_i l3)] [0, 2, 3] rfl ?_
    exact bX12_numeral_58 X fu  M l2 l3 hl2 hl3
  · skip
    refine j_aload_n (pc := 17) dX12_numeral_17 rfl (q := 0) rfl ?_
    refine j_iload_n (pc := 18) dX12_numeral_18 rfl (q := 1) rfl ?_
    refine j_ldcS (pc := 19) 5 (by decide) rfl rfl dX12_numeral_19 ?_
    refine j_callVi2 (pc := 21) (ct_X12_isOf M l1 5 hl1 ⟨by decide, by decide⟩) kg_1504 km_X12_isOf kv_X12_isOf rfl rfl ⟨(Nat.le_of_ble_eq_true rfl), (Nat.le_of_ble_eq_true rfl)⟩ jv2_0 jm_01 ko2_0 rfl rfl (Nat.le_of_ble_eq_true rfl) dX12_numeral_21 (fun v3 M4 h5 => ?_)
    refine j_if_eq (tgt := 58) (pc := 24) h5 dX12_numeral_24 (by decide) (fun c6 => ?_) (fun c6 => ?_)
    · skip
      refine j_sub (pc := 58) [(0, jm_vr wd2 X 0 0), (2, jm_i l2), (3, jm_i l3)] [0, 2, 3] rfl ?_
      exact bX12_numeral_58 X fu  M4 l2 l3 hl2 hl3
    · skip
      refine j_bipush (pc := 27) 10 dX12_numeral_27 (by decide) ?_
      refine j_iload_n (pc := 29) dX12_numeral_29 rfl (q := 2) rfl ?_
      refine j_imul (pc := 30) dX12_numeral_30 ?_
      refine j_aload_n (pc := 31) dX12_numeral_31 rfl (q := 0) rfl ?_
      refine j_getr (pc := 32) jv2_0 jm_01 kf_RX12_191 0 kg2_0_39 rfl dX12_numeral_32 ?_
      refine j_aload_n (pc := 35) dX12_numeral_35 rfl (q := 0) rfl ?_
      refine j_geti (pc := 36) jv2_0 jm_01 kf_RX12_194 kg2_0_41 dX12_numeral_36 (fun h7 => ?_)
      refine j_iald (pc := 39) jv2_34 jm_01 rfl (by decide) ka2_34 dX12_numeral_39 (fun c8 h9 => ?_)
      refine j_iadd (pc := 40) dX12_numeral_40 ?_
      refine j_bipush (pc := 41) 48 dX12_numeral_41 (by decide) ?_
      refine j_isub (pc := 43) dX12_numeral_43 ?_
      refine j_nm (pc := 44) (jm_w_in _) (fun v10 h11 => ?_)
      refine j_istore_n (pc := 44) [(2, jm_i v10), (0, jm_vr wd2 X 0 0), (1, jm_i l1), (3, jm_i l3)] dX12_numeral_44 rfl (by decide) rfl ?_
      refine j_aload_n (pc := 45) dX12_numeral_45 rfl (q := 1) rfl ?_
      refine j_dup (pc := 46) dX12_numeral_46 rfl ?_
      refine j_geti (pc := 47) jv2_0 jm_01 kf_RX12_194 kg2_0_41 dX12_numeral_47 (fun h12 => ?_)
      refine j_iconst (pc := 50) dX12_numeral_50 ?_
      refine j_iadd (pc := 51) dX12_numeral_51 ?_
      refine j_put (pc := 52) jv2_0 jm_01 kf_RX12_194 wI2 kp_X12_41 kx2_0_41 (jm_w_in _) rfl rfl dX12_numeral_52 (fun M13 => ?_)
      refine j_goto (tgt := 7) (pc := 55) dX12_numeral_55 (by decide) ?_
      refine j_sub (pc := 7) [(0, jm_vr wd2 X 0 0), (1, jm_i l1), (2, jm_i v10), (3, jm_i l3)] [1, 2, 0, 3] rfl ?_
      exact hk7 M13 l1 v10 l3 hl1 h11 hl3
theorem bX12_numeral_7 (X : jm_X) (fu : Nat) : ∀ (n : Nat) (M : jm_M) (l1 l2 l3 : Int) (hl1 : jm_in l1) (hl2 : jm_in l2) (hl3 : jm_in l3), jm_J wd2 (jm_qi .boolean) cX12_numeral 4 RX12 rmX12_numeral X M [(0, jm_vr wd2 X 0 0), (1, jm_i l1), (2, jm_i l2), (3, jm_i l3)] [] 7 (fX12_numeral_7 fu n M l1 l2 l3) := by
  intro n
  induction n with
  | zero => intro M l1 l2 l3 hl1 hl2 hl3; exact j_none
  | succ n ih => intro M l1 l2 l3 hl1 hl2 hl3; exact b0X12_numeral_7 X fu (fX12_numeral_7 fu n) ih M l1 l2 l3 hl1 hl2 hl3
set_option maxHeartbeats 4000000 in
set_option maxRecDepth 100000 in
theorem ct_X12_numeral (fu : Nat) (M : jm_M) (l1 : Int) (hl1 : jm_in l1) : jm_Ci wd2 yX12_numeral cX12_numeral 4 (some .boolean) rmX12_numeral M (fun G ad => [.ref (ad (jm_r wd2 0 0)), jm_i l1]) (fX12_numeral fu M l1) := by
  refine jm_met_i (fun X => [(0, jm_vr wd2 X 0 0), (1, jm_i l1)]) (by decide) (fun _ _ => (Nat.le_of_ble_eq_true rfl)) (fun _ => rfl) (fun X => ?_)
  unfold fX12_numeral
  refine j_iconst (pc := 0) dX12_numeral_0 ?_
  refine j_istore_n (pc := 1) [(2, jm_i 0), (0, jm_vr wd2 X 0 0), (1, jm_i l1)] dX12_numeral_1 rfl (by decide) rfl ?_
  refine j_aload_n (pc := 2) dX12_numeral_2 rfl (q := 1) rfl ?_
  refine j_geti (pc := 3) jv2_0 jm_01 kf_RX12_194 kg2_0_41 dX12_numeral_3 (fun h1 => ?_)
  refine j_nm (pc := 6) h1 (fun v2 h3 => ?_)
  refine j_istore_n (pc := 6) [(3, jm_i v2), (2, jm_i 0), (0, jm_vr wd2 X 0 0), (1, jm_i l1)] dX12_numeral_6 rfl (by decide) rfl ?_
  refine j_sub (pc := 7) [(0, jm_vr wd2 X 0 0), (1, jm_i l1), (2, jm_i 0), (3, jm_i v2)] [2, 3, 1, 0] rfl ?_
  exact bX12_numeral_7 X fu  fu M l1 0 v2 hl1 (jm_inL (by decide) (by decide)) h3
set_option maxHeartbeats 4000000 in
set_option maxRecDepth 100000 in
theorem ct_X12_thing {d : Nat} (rc : Nat → jm_M → Int → jm_R) (hrc0 : ∀ (M : jm_M) (a : Int), jm_in a → jm_Ci wd2 yX12_some cX12_some 3 (some .boolean) (rmR d) M (fun G ad => [.ref (ad (jm_r wd2 0 0)), jm_i a]) (rc 0 M a)) (hrc1 : ∀ (M : jm_M) (a : Int), jm_in a → jm_Ci wd2 yX12_every cX12_every 3 (some .boolean) (rmR d) M (fun G ad => [.ref (ad (jm_r wd2 0 0)), jm_i a]) (rc 1 M a)) (hrc2 : ∀ (M : jm_M) (a : Int), jm_in a → jm_Ci wd2 yX12_compared cX12_compared 4 (some .boolean) (rmR d) M (fun G ad => [.ref (ad (jm_r wd2 0 0)), jm_i a]) (rc 2 M a)) (hrc3 : ∀ (M : jm_M) (a : Int), jm_in a → jm_Ci wd2 yX12_total cX12_total 4 (some .boolean) (rmR d) M (fun G ad => [.ref (ad (jm_r wd2 0 0)), jm_i a]) (rc 3 M a)) (hrc4 : ∀ (M : jm_M) (a : Int), jm_in a → jm_Ci wd2 yX12_product cX12_product 3 (some .boolean) (rmR d) M (fun G ad => [.ref (ad (jm_r wd2 0 0)), jm_i a]) (rc 4 M a)) (hrc5 : ∀ (M : jm_M) (a : Int), jm_in a → jm_Ci wd2 yX12_unary cX12_unary 3 (some .boolean) (rmR d) M (fun G ad => [.ref (ad (jm_r wd2 0 0)), jm_i a]) (rc 5 M a)) (hrc6 : ∀ (M : jm_M) (a : Int), jm_in a → jm_Ci wd2 yX12_thing cX12_thing 2 (some .boolean) (rmR d) M (fun G ad => [.ref (ad (jm_r wd2 0 0)), jm_i a]) (rc 6 M a)) (fu : Nat) (M : jm_M) (l1 : Int) (hl1 : jm_in l1) : jm_Ci wd2 yX12_thing cX12_thing 2 (some .boolean) (rmR (d + 1)) M (fun G ad => [.ref (ad (jm_r wd2 0 0)), jm_i l1]) (gX12_thing rc fu M l1) := by
  refine jm_met_i (fun X => [(0, jm_vr wd2 X 0 0), (1, jm_i l1)]) (by decide) (fun _ _ => (Nat.le_of_ble_eq_true rfl)) (fun _ => rfl) (fun X => ?_)
  unfold gX12_thing
  refine j_aload_n (pc := 0) dX12_thing_0 rfl (q := 0) rfl ?_
  refine j_iload_n (pc := 1) dX12_thing_1 rfl (q := 1) rfl ?_
  refine j_aload_n (pc := 2) dX12_thing_2 rfl (q := 0) rfl ?_
  refine j_gets (pc := 3) jv2_0 jm_01 kf_RX12_221 kg2_0_43 dX12_thing_3 (fun c1 => ?_)
  refine j_callVi2 (pc := 6) (ct_X12_isOf M l1 (M 0 0 43) hl1 ⟨by omega, by omega⟩) kg_1504 km_X12_isOf kv_X12_isOf rfl rfl ⟨(by simp only [rmR, rmX12_isOf]; omega), (by simp only [rmR, rmX12_isOf]; omega)⟩ jv2_0 jm_01 ko2_0 rfl rfl (Nat.le_of_ble_eq_true rfl) dX12_thing_6 (fun v2 M3 h4 => ?_)
  refine j_if_eq (tgt := 46) (pc := 9) h4 dX12_thing_9 (by decide) (fun c5 => ?_) (fun c5 => ?_)
  · skip
    refine j_aload_n (pc := 46) dX12_thing_46 rfl (q := 0) rfl ?_
    refine j_iload_n (pc := 47) dX12_thing_47 rfl (q := 1) rfl ?_
    refine j_bipush (pc := 48) 40 dX12_thing_48 (by decide) ?_
    refine j_callVi2 (pc := 50) (ct_X12_isSign M3 l1 40 hl1 (jm_inL (by decide) (by decide))) kg_1471 km_X12_isSign kv_X12_isSign rfl rfl ⟨(by simp only [rmR, rmX12_isSign]; omega), (by simp only [rmR, rmX12_isSign]; omega)⟩ jv2_0 jm_01 ko2_0 rfl rfl (Nat.le_of_ble_eq_true rfl) dX12_thing_50 (fun v6 M7 h8 => ?_)
    refine j_if_ne (tgt := 80) (pc := 53) h8 dX12_thing_53 (by decide) (fun c9 => ?_) (fun c9 => ?_)
    · skip
      refine j_aload_n (pc := 56) dX12_thing_56 rfl (q := 0) rfl ?_
      refine j_iload_n (pc := 57) dX12_thing_57 rfl (q := 1) rfl ?_
      refine j_ldcS (pc := 58) 5 (by decide) rfl rfl dX12_thing_58 ?_
      refine j_callVi2 (pc := 60) (ct_X12_isOf M7 l1 5 hl1 ⟨by decide, by decide⟩) kg_1504 km_X12_isOf kv_X12_isOf rfl rfl ⟨(by simp only [rmR, rmX12_isOf]; omega), (by simp only [rmR, rmX12_isOf]; omega)⟩ jv2_0 jm_01 ko2_0 rfl rfl (Nat.le_of_ble_eq_true rfl) dX12_thing_60 (fun v10 M11 h12 => ?_)
      refine j_if_eq (tgt := 78) (pc := 63) h12 dX12_thing_63 (by decide) (fun c13 => ?_) (fun c13 => ?_)
      · skip
        refine j_iconst (pc := 78) dX12_thing_78 ?_
        exact j_iret (pc := 79) (jm_inL (by decide) (by decide)) rfl dX12_thing_79
      · skip
        refine j_aload_n (pc := 66) dX12_thing_66 rfl (q := 0) rfl ?_
        refine j_iload_n (pc := 67) dX12_thing_67 rfl (q := 1) rfl ?_
        refine j_callVi1 (pc := 68) (ct_X12_numeral fu M11 l1 hl1) kg_1514 km_X12_numeral kv_X12_numeral rfl rfl ⟨(by simp only [rmR, rmX12_numeral]; omega), (by simp only [rmR, rmX12_numeral]; omega)⟩ jv2_0 jm_01 ko2_0 rfl rfl (Nat.le_of_ble_eq_true rfl) dX12_thing_68 (fun v14 M15 h16 => ?_)
        refine j_if_eq (tgt := 78) (pc := 71) h16 dX12_thing_71 (by decide) (fun c17 => ?_) (fun c17 => ?_)
        · skip
          refine j_iconst (pc := 78) dX12_thing_78 ?_
          exact j_iret (pc := 79) (jm_inL (by decide) (by decide)) rfl dX12_thing_79
        · skip
          refine j_iconst (pc := 74) dX12_thing_74 ?_
          refine j_goto (tgt := 79) (pc := 75) dX12_thing_75 (by decide) ?_
          exact j_iret (pc := 79) (jm_inL (by decide) (by decide)) rfl dX12_thing_79
    · skip
      refine j_aload_n (pc := 80) dX12_thing_80 rfl (q := 0) rfl ?_
      refine j_dup (pc := 81) dX12_thing_81 rfl ?_
      refine j_geti (pc := 82) jv2_0 jm_01 kf_RX12_194 kg2_0_41 dX12_thing_82 (fun h18 => ?_)
      refine j_iconst (pc := 85) dX12_thing_85 ?_
      refine j_iadd (pc := 86) dX12_thing_86 ?_
      refine j_put (pc := 87) jv2_0 jm_01 kf_RX12_194 wI2 kp_X12_41 kx2_0_41 (jm_w_in _) rfl rfl dX12_thing_87 (fun M19 => ?_)
      refine j_aload_n (pc := 90) dX12_thing_90 rfl (q := 0) rfl ?_
      refine j_iload_n (pc := 91) dX12_thing_91 rfl (q := 1) rfl ?_
      refine j_callVi1 (pc := 92) (hrc0 M19 l1 hl1) kg_1479 km_X12_some kv_X12_some rfl rfl ⟨(by simp only [rmR]; omega), (by simp only [rmR]; omega)⟩ jv2_0 jm_01 ko2_0 rfl rfl (Nat.le_of_ble_eq_true rfl) dX12_thing_92 (fun v20 M21 h22 => ?_)
      refine j_if_eq (tgt := 108) (pc := 95) h22 dX12_thing_95 (by decide) (fun c23 => ?_) (fun c23 => ?_)
      · skip
        refine j_iconst (pc := 108) dX12_thing_108 ?_
        exact j_iret (pc := 109) (jm_inL (by decide) (by decide)) rfl dX12_thing_109
      · skip
        refine j_aload_n (pc := 98) dX12_thing_98 rfl (q := 0) rfl ?_
        refine j_iload_n (pc := 99) dX12_thing_99 rfl (q := 1) rfl ?_
        refine j_bipush (pc := 100) 41 dX12_thing_100 (by decide) ?_
        refine j_callVi2 (pc := 102) (ct_X12_isSign M21 l1 41 hl1 (jm_inL (by decide) (by decide))) kg_1471 km_X12_isSign kv_X12_isSign rfl rfl ⟨(by simp only [rmR, rmX12_isSign]; omega), (by simp only [rmR, rmX12_isSign]; omega)⟩ jv2_0 jm_01 ko2_0 rfl rfl (Nat.le_of_ble_eq_true rfl) dX12_thing_102 (fun v24 M25 h26 => ?_)
        refine j_if_ne (tgt := 110) (pc := 105) h26 dX12_thing_105 (by decide) (fun c27 => ?_) (fun c27 => ?_)
        · skip
          refine j_iconst (pc := 108) dX12_thing_108 ?_
          exact j_iret (pc := 109) (jm_inL (by decide) (by decide)) rfl dX12_thing_109
        · skip
          refine j_aload_n (pc := 110) dX12_thing_110 rfl (q := 0) rfl ?_
          refine j_dup (pc := 111) dX12_thing_111 rfl ?_
          refine j_geti (pc := 112) jv2_0 jm_01 kf_RX12_194 kg2_0_41 dX12_thing_112 (fun h28 => ?_)
          refine j_iconst (pc := 115) dX12_thing_115 ?_
          refine j_iadd (pc := 116) dX12_thing_116 ?_
          refine j_put (pc := 117) jv2_0 jm_01 kf_RX12_194 wI2 kp_X12_41 kx2_0_41 (jm_w_in _) rfl rfl dX12_thing_117 (fun M29 => ?_)
          refine j_iconst (pc := 120) dX12_thing_120 ?_
          exact j_iret (pc := 121) (jm_inL (by decide) (by decide)) rfl dX12_thing_121
  · skip
    refine j_aload_n (pc := 12) dX12_thing_12 rfl (q := 0) rfl ?_
    refine j_iconst (pc := 13) dX12_thing_13 ?_
    refine j_aload_n (pc := 14) dX12_thing_14 rfl (q := 0) rfl ?_
    refine j_gets (pc := 15) jv2_0 jm_01 kf_RX12_221 kg2_0_43 dX12_thing_15 (fun c30 => ?_)
    refine j_aload_n (pc := 18) dX12_thing_18 rfl (q := 0) rfl ?_
    refine j_getr (pc := 19) jv2_0 jm_01 kf_RX12_191 0 kg2_0_39 rfl dX12_thing_19 ?_
    refine j_aload_n (pc := 22) dX12_thing_22 rfl (q := 0) rfl ?_
    refine j_geti (pc := 23) jv2_0 jm_01 kf_RX12_194 kg2_0_41 dX12_thing_23 (fun h31 => ?_)
    refine j_iald (pc := 26) jv2_34 jm_01 rfl (by decide) ka2_34 dX12_thing_26 (fun c32 h33 => ?_)
    refine j_callTi1 (pc := 27) (cS2_indexOf M3 (M3 0 0 43) (M3 34 0 (M3 0 0 41)) ⟨by omega, by omega⟩ h33) kg_1508 km_J0_indexOf_0f7a4 kv_J0_indexOf_0f7a4 rfl rfl ⟨(by simp only [rmR]; omega), (by simp only [rmR]; omega)⟩ rfl rfl (Nat.le_of_ble_eq_true rfl) dX12_thing_27 (fun v34 M35 h36 => ?_)
    refine j_isub (pc := 30) dX12_thing_30 ?_
    refine j_callVv1 (pc := 31) (ct_X12_marks M35 (jm_w ((-1) - v34)) (jm_w_in _)) kg_1475 km_X12_marks kv_X12_marks rfl rfl ⟨(by simp only [rmR, rmX12_marks]; omega), (by simp only [rmR, rmX12_marks]; omega)⟩ jv2_0 jm_01 ko2_0 rfl rfl (Nat.le_of_ble_eq_true rfl) dX12_thing_31 (fun v37 M38 => ?_)
    refine j_aload_n (pc := 34) dX12_thing_34 rfl (q := 0) rfl ?_
    refine j_dup (pc := 35) dX12_thing_35 rfl ?_
    refine j_geti (pc := 36) jv2_0 jm_01 kf_RX12_194 kg2_0_41 dX12_thing_36 (fun h39 => ?_)
    refine j_iconst (pc := 39) dX12_thing_39 ?_
    refine j_iadd (pc := 40) dX12_thing_40 ?_
    refine j_put (pc := 41) jv2_0 jm_01 kf_RX12_194 wI2 kp_X12_41 kx2_0_41 (jm_w_in _) rfl rfl dX12_thing_41 (fun M40 => ?_)
    refine j_iconst (pc := 44) dX12_thing_44 ?_
    exact j_iret (pc := 45) (jm_inL (by decide) (by decide)) rfl dX12_thing_45
theorem cR (fu : Nat) : ∀ d : Nat, (∀ (M : jm_M) (a : Int), jm_in a → jm_Ci wd2 yX12_some cX12_some 3 (some .boolean) (rmR d) M (fun G ad => [.ref (ad (jm_r wd2 0 0)), jm_i a]) (fR fu d 0 M a)) ∧ (∀ (M : jm_M) (a : Int), jm_in a → jm_Ci wd2 yX12_every cX12_every 3 (some .boolean) (rmR d) M (fun G ad => [.ref (ad (jm_r wd2 0 0)), jm_i a]) (fR fu d 1 M a)) ∧ (∀ (M : jm_M) (a : Int), jm_in a → jm_Ci wd2 yX12_compared cX12_compared 4 (some .boolean) (rmR d) M (fun G ad => [.ref (ad (jm_r wd2 0 0)), jm_i a]) (fR fu d 2 M a)) ∧ (∀ (M : jm_M) (a : Int), jm_in a → jm_Ci wd2 yX12_total cX12_total 4 (some .boolean) (rmR d) M (fun G ad => [.ref (ad (jm_r wd2 0 0)), jm_i a]) (fR fu d 3 M a)) ∧ (∀ (M : jm_M) (a : Int), jm_in a → jm_Ci wd2 yX12_product cX12_product 3 (some .boolean) (rmR d) M (fun G ad => [.ref (ad (jm_r wd2 0 0)), jm_i a]) (fR fu d 4 M a)) ∧ (∀ (M : jm_M) (a : Int), jm_in a → jm_Ci wd2 yX12_unary cX12_unary 3 (some .boolean) (rmR d) M (fun G ad => [.ref (ad (jm_r wd2 0 0)), jm_i a]) (fR fu d 5 M a)) ∧ (∀ (M : jm_M) (a : Int), jm_in a → jm_Ci wd2 yX12_thing cX12_thing 2 (some .boolean) (rmR d) M (fun G ad => [.ref (ad (jm_r wd2 0 0)), jm_i a]) (fR fu d 6 M a)) := by
  intro d
  induction d with
  | zero => refine ⟨?_, ?_, ?_, ?_, ?_, ?_, ?_⟩ <;> (intro M a ha l G ad sz rr MM hx; have hx : (none : jm_R) = some (rr, MM) := hx; cases hx)
  | succ d ih =>
    obtain ⟨hrc0, hrc1, hrc2, hrc3, hrc4, hrc5, hrc6⟩ := ih
    exact ⟨fun M a ha => ct_X12_some (fR fu d) hrc0 hrc1 hrc2 hrc3 hrc4 hrc5 hrc6 fu M a ha, fun M a ha => ct_X12_every (fR fu d) hrc0 hrc1 hrc2 hrc3 hrc4 hrc5 hrc6 fu M a ha, fun M a ha => ct_X12_compared (fR fu d) hrc0 hrc1 hrc2 hrc3 hrc4 hrc5 hrc6 M a ha, fun M a ha => ct_X12_total (fR fu d) hrc0 hrc1 hrc2 hrc3 hrc4 hrc5 hrc6 fu M a ha, fun M a ha => ct_X12_product (fR fu d) hrc0 hrc1 hrc2 hrc3 hrc4 hrc5 hrc6 fu M a ha, fun M a ha => ct_X12_unary (fR fu d) hrc0 hrc1 hrc2 hrc3 hrc4 hrc5 hrc6 M a ha, fun M a ha => ct_X12_thing (fR fu d) hrc0 hrc1 hrc2 hrc3 hrc4 hrc5 hrc6 fu M a ha⟩
theorem ct2_X12_some (fu : Nat) (M : jm_M) (l1 : Int) (hl1 : jm_in l1) : jm_Ci wd2 yX12_some cX12_some 3 (some .boolean) (rmR 500) M (fun G ad => [.ref (ad (jm_r wd2 0 0)), jm_i l1]) (fX12_some fu M l1) := (cR fu 500).1 M l1 hl1
theorem ct2_X12_every (fu : Nat) (M : jm_M) (l1 : Int) (hl1 : jm_in l1) : jm_Ci wd2 yX12_every cX12_every 3 (some .boolean) (rmR 500) M (fun G ad => [.ref (ad (jm_r wd2 0 0)), jm_i l1]) (fX12_every fu M l1) := (cR fu 500).2.1 M l1 hl1
theorem ct2_X12_compared (fu : Nat) (M : jm_M) (l1 : Int) (hl1 : jm_in l1) : jm_Ci wd2 yX12_compared cX12_compared 4 (some .boolean) (rmR 500) M (fun G ad => [.ref (ad (jm_r wd2 0 0)), jm_i l1]) (fX12_compared fu M l1) := (cR fu 500).2.2.1 M l1 hl1
theorem ct2_X12_total (fu : Nat) (M : jm_M) (l1 : Int) (hl1 : jm_in l1) : jm_Ci wd2 yX12_total cX12_total 4 (some .boolean) (rmR 500) M (fun G ad => [.ref (ad (jm_r wd2 0 0)), jm_i l1]) (fX12_total fu M l1) := (cR fu 500).2.2.2.1 M l1 hl1
theorem ct2_X12_product (fu : Nat) (M : jm_M) (l1 : Int) (hl1 : jm_in l1) : jm_Ci wd2 yX12_product cX12_product 3 (some .boolean) (rmR 500) M (fun G ad => [.ref (ad (jm_r wd2 0 0)), jm_i l1]) (fX12_product fu M l1) := (cR fu 500).2.2.2.2.1 M l1 hl1
theorem ct2_X12_unary (fu : Nat) (M : jm_M) (l1 : Int) (hl1 : jm_in l1) : jm_Ci wd2 yX12_unary cX12_unary 3 (some .boolean) (rmR 500) M (fun G ad => [.ref (ad (jm_r wd2 0 0)), jm_i l1]) (fX12_unary fu M l1) := (cR fu 500).2.2.2.2.2.1 M l1 hl1
theorem ct2_X12_thing (fu : Nat) (M : jm_M) (l1 : Int) (hl1 : jm_in l1) : jm_Ci wd2 yX12_thing cX12_thing 2 (some .boolean) (rmR 500) M (fun G ad => [.ref (ad (jm_r wd2 0 0)), jm_i l1]) (fX12_thing fu M l1) := (cR fu 500).2.2.2.2.2.2 M l1 hl1
abbrev rmX12_law : Room := { frames := 511, cells := 0, slots := 0, locals := 30622 }
set_option maxHeartbeats 4000000 in
set_option maxRecDepth 100000 in
theorem bX12_law_154 (X : jm_X) (fu : Nat) : ∀ (M : jm_M) (l1 l2 l3 : Int) (hl1 : jm_in l1) (hl2 : jm_in l2) (hl3 : jm_in l3), jm_J wd2 (jm_qi .boolean) cX12_law 4 RX12 rmX12_law X M [(0, jm_vr wd2 X 0 0), (1, jm_i l1), (2, jm_i l2), (3, jm_i l3)] [] 154 (gX12_law_154 fu M l1 l2 l3) := by
  intro M l1 l2 l3 hl1 hl2 hl3
  unfold gX12_law_154
  refine j_aload_n (pc := 154) dX12_law_154 rfl (q := 0) rfl ?_
  refine j_getr (pc := 155) jv2_0 jm_01 kf_RX12_269 0 kg2_0_74 rfl dX12_law_155 ?_
  refine j_aload_n (pc := 158) dX12_law_158 rfl (q := 0) rfl ?_
  refine j_geti (pc := 159) jv2_0 jm_01 kf_RX12_33 kg2_0_72 dX12_law_159 (fun h1 => ?_)
  refine j_iload_n (pc := 162) dX12_law_162 rfl (q := 2) rfl ?_
  refine j_iast (pc := 163) jv2_62 jm_01 rfl (by decide) wI2 ka2_62 hl2 dX12_law_163 (fun c2 M3 => ?_)
  refine j_aload_n (pc := 164) dX12_law_164 rfl (q := 0) rfl ?_
  refine j_geti (pc := 165) jv2_0 jm_01 kf_RX12_194 kg2_0_41 dX12_law_165 (fun h4 => ?_)
  refine j_iload_n (pc := 168) dX12_law_168 rfl (q := 3) rfl ?_
  refine j_icmp_le (tgt := 184) (pc := 169) h4 hl3 dX12_law_169 (by decide) (fun c5 => ?_) (fun c5 => ?_)
  · skip
    refine j_iconst (pc := 184) dX12_law_184 ?_
    exact j_iret (pc := 185) (jm_inL (by decide) (by decide)) rfl dX12_law_185
  · skip
    refine j_aload_n (pc := 172) dX12_law_172 rfl (q := 0) rfl ?_
    refine j_geti (pc := 173) jv2_0 jm_01 kf_RX12_194 kg2_0_41 dX12_law_173 (fun h6 => ?_)
    refine j_iload_n (pc := 176) dX12_law_176 rfl (q := 1) rfl ?_
    refine j_icmp_ne (tgt := 184) (pc := 177) h6 hl1 dX12_law_177 (by decide) (fun c7 => ?_) (fun c7 => ?_)
    · skip
      refine j_iconst (pc := 180) dX12_law_180 ?_
      refine j_goto (tgt := 185) (pc := 181) dX12_law_181 (by decide) ?_
      exact j_iret (pc := 185) (jm_inL (by decide) (by decide)) rfl dX12_law_185
    · skip
      refine j_iconst (pc := 184) dX12_law_184 ?_
      exact j_iret (pc := 185) (jm_inL (by decide) (by decide)) rfl dX12_law_185
set_option maxHeartbeats 4000000 in
set_option maxRecDepth 100000 in
theorem b0X12_law_103 (X : jm_X) (fu : Nat) (k103 : jm_M → Int → Int → Int → jm_R) (hk103 : ∀ (M : jm_M) (l1 l2 l3 : Int) (hl1 : jm_in l1) (hl2 : jm_in l2) (hl3 : jm_in l3), jm_J wd2 (jm_qi .boolean) cX12_law 4 RX12 rmX12_law X M [(0, jm_vr wd2 X 0 0), (1, jm_i l1), (2, jm_i l2), (3, jm_i l3)] [] 103 (k103 M l1 l2 l3)) : ∀ (M : jm_M) (l1 l2 l3 : Int) (hl1 : jm_in l1) (hl2 : jm_in l2) (hl3 : jm_in l3), jm_J wd2 (jm_qi .boolean) cX12_law 4 RX12 rmX12_law X M [(0, jm_vr wd2 X 0 0), (1, jm_i l1), (2, jm_i l2), (3, jm_i l3)] [] 103 (gX12_law_103 fu k103 M l1 l2 l3) := by
  intro M l1 l2 l3 hl1 hl2 hl3
  unfold gX12_law_103
  refine j_aload_n (pc := 103) dX12_law_103 rfl (q := 0) rfl ?_
  refine j_geti (pc := 104) jv2_0 jm_01 kf_RX12_194 kg2_0_41 dX12_law_104 (fun h1 => ?_)
  refine j_iload_n (pc := 107) dX12_law_107 rfl (q := 3) rfl ?_
  refine j_iconst (pc := 108) dX12_law_108 ?_
  refine j_iadd (pc := 109) dX12_law_109 ?_
  refine j_icmp_ge (tgt := 154) (pc := 110) h1 (jm_w_in _) dX12_law_110 (by decide) (fun c2 => ?_) (fun c2 => ?_)
  · skip
    refine j_sub (pc := 154) [(0, jm_vr wd2 X 0 0), (1, jm_i l1), (2, jm_i l2), (3, jm_i l3)] [0, 1, 2, 3] rfl ?_
    exact bX12_law_154 X fu  M l1 l2 l3 hl1 hl2 hl3
  · skip
    refine j_aload_n (pc := 113) dX12_law_113 rfl (q := 0) rfl ?_
    refine j_iload_n (pc := 114) dX12_law_114 rfl (q := 1) rfl ?_
    refine j_ldcS (pc := 115) 5 (by decide) rfl rfl dX12_law_115 ?_
    refine j_callVi2 (pc := 117) (ct_X12_isOf M l1 5 hl1 ⟨by decide, by decide⟩) kg_1504 km_X12_isOf kv_X12_isOf rfl rfl ⟨(Nat.le_of_ble_eq_true rfl), (Nat.le_of_ble_eq_true rfl)⟩ jv2_0 jm_01 ko2_0 rfl rfl (Nat.le_of_ble_eq_true rfl) dX12_law_117 (fun v3 M4 h5 => ?_)
    refine j_if_eq (tgt := 154) (pc := 120) h5 dX12_law_120 (by decide) (fun c6 => ?_) (fun c6 => ?_)
    · skip
      refine j_sub (pc := 154) [(0, jm_vr wd2 X 0 0), (1, jm_i l1), (2, jm_i l2), (3, jm_i l3)] [0, 1, 2, 3] rfl ?_
      exact bX12_law_154 X fu  M4 l1 l2 l3 hl1 hl2 hl3
    · skip
      refine j_bipush (pc := 123) 10 dX12_law_123 (by decide) ?_
      refine j_iload_n (pc := 125) dX12_law_125 rfl (q := 2) rfl ?_
      refine j_imul (pc := 126) dX12_law_126 ?_
      refine j_aload_n (pc := 127) dX12_law_127 rfl (q := 0) rfl ?_
      refine j_getr (pc := 128) jv2_0 jm_01 kf_RX12_191 0 kg2_0_39 rfl dX12_law_128 ?_
      refine j_aload_n (pc := 131) dX12_law_131 rfl (q := 0) rfl ?_
      refine j_geti (pc := 132) jv2_0 jm_01 kf_RX12_194 kg2_0_41 dX12_law_132 (fun h7 => ?_)
      refine j_iald (pc := 135) jv2_34 jm_01 rfl (by decide) ka2_34 dX12_law_135 (fun c8 h9 => ?_)
      refine j_iadd (pc := 136) dX12_law_136 ?_
      refine j_bipush (pc := 137) 48 dX12_law_137 (by decide) ?_
      refine j_isub (pc := 139) dX12_law_139 ?_
      refine j_nm (pc := 140) (jm_w_in _) (fun v10 h11 => ?_)
      refine j_istore_n (pc := 140) [(2, jm_i v10), (0, jm_vr wd2 X 0 0), (1, jm_i l1), (3, jm_i l3)] dX12_law_140 rfl (by decide) rfl ?_
      refine j_aload_n (pc := 141) dX12_law_141 rfl (q := 1) rfl ?_
      refine j_dup (pc := 142) dX12_law_142 rfl ?_
      refine j_geti (pc := 143) jv2_0 jm_01 kf_RX12_194 kg2_0_41 dX12_law_143 (fun h12 => ?_)
      refine j_iconst (pc := 146) dX12_law_146 ?_
      refine j_iadd (pc := 147) dX12_law_147 ?_
      refine j_put (pc := 148) jv2_0 jm_01 kf_RX12_194 wI2 kp_X12_41 kx2_0_41 (jm_w_in _) rfl rfl dX12_law_148 (fun M13 => ?_)
      refine j_goto (tgt := 103) (pc := 151) dX12_law_151 (by decide) ?_
      refine j_sub (pc := 103) [(0, jm_vr wd2 X 0 0), (1, jm_i l1), (2, jm_i v10), (3, jm_i l3)] [1, 2, 0, 3] rfl ?_
      exact hk103 M13 l1 v10 l3 hl1 h11 hl3
theorem bX12_law_103 (X : jm_X) (fu : Nat) : ∀ (n : Nat) (M : jm_M) (l1 l2 l3 : Int) (hl1 : jm_in l1) (hl2 : jm_in l2) (hl3 : jm_in l3), jm_J wd2 (jm_qi .boolean) cX12_law 4 RX12 rmX12_law X M [(0, jm_vr wd2 X 0 0), (1, jm_i l1), (2, jm_i l2), (3, jm_i l3)] [] 103 (fX12_law_103 fu n M l1 l2 l3) := by
  intro n
  induction n with
  | zero => intro M l1 l2 l3 hl1 hl2 hl3; exact j_none
  | succ n ih => intro M l1 l2 l3 hl1 hl2 hl3; exact b0X12_law_103 X fu (fX12_law_103 fu n) ih M l1 l2 l3 hl1 hl2 hl3
set_option maxHeartbeats 4000000 in
set_option maxRecDepth 100000 in
theorem ct_X12_law (fu : Nat) (M : jm_M) (l1 : Int) (hl1 : jm_in l1) : jm_Ci wd2 yX12_law cX12_law 4 (some .boolean) rmX12_law M (fun G ad => [.ref (ad (jm_r wd2 0 0)), jm_i l1]) (fX12_law fu M l1) := by
  refine jm_met_i (fun X => [(0, jm_vr wd2 X 0 0), (1, jm_i l1)]) (by decide) (fun _ _ => (Nat.le_of_ble_eq_true rfl)) (fun _ => rfl) (fun X => ?_)
  unfold fX12_law
  refine j_aload_n (pc := 0) dX12_law_0 rfl (q := 0) rfl ?_
  refine j_iload_n (pc := 1) dX12_law_1 rfl (q := 1) rfl ?_
  refine j_callVi1 (pc := 2) (ct2_X12_some fu M l1 hl1) kg_1479 km_X12_some kv_X12_some rfl rfl ⟨(Nat.le_of_ble_eq_true rfl), (Nat.le_of_ble_eq_true rfl)⟩ jv2_0 jm_01 ko2_0 rfl rfl (Nat.le_of_ble_eq_true rfl) dX12_law_2 (fun v1 M2 h3 => ?_)
  refine j_if_eq (tgt := 18) (pc := 5) h3 dX12_law_5 (by decide) (fun c4 => ?_) (fun c4 => ?_)
  · skip
    refine j_iconst (pc := 18) dX12_law_18 ?_
    exact j_iret (pc := 19) (jm_inL (by decide) (by decide)) rfl dX12_law_19
  · skip
    refine j_aload_n (pc := 8) dX12_law_8 rfl (q := 0) rfl ?_
    refine j_iload_n (pc := 9) dX12_law_9 rfl (q := 1) rfl ?_
    refine j_bipush (pc := 10) 58 dX12_law_10 (by decide) ?_
    refine j_callVi2 (pc := 12) (ct_X12_isSign M2 l1 58 hl1 (jm_inL (by decide) (by decide))) kg_1471 km_X12_isSign kv_X12_isSign rfl rfl ⟨(Nat.le_of_ble_eq_true rfl), (Nat.le_of_ble_eq_true rfl)⟩ jv2_0 jm_01 ko2_0 rfl rfl (Nat.le_of_ble_eq_true rfl) dX12_law_12 (fun v5 M6 h7 => ?_)
    refine j_if_ne (tgt := 20) (pc := 15) h7 dX12_law_15 (by decide) (fun c8 => ?_) (fun c8 => ?_)
    · skip
      refine j_iconst (pc := 18) dX12_law_18 ?_
      exact j_iret (pc := 19) (jm_inL (by decide) (by decide)) rfl dX12_law_19
    · skip
      refine j_aload_n (pc := 20) dX12_law_20 rfl (q := 0) rfl ?_
      refine j_dup (pc := 21) dX12_law_21 rfl ?_
      refine j_geti (pc := 22) jv2_0 jm_01 kf_RX12_194 kg2_0_41 dX12_law_22 (fun h9 => ?_)
      refine j_iconst (pc := 25) dX12_law_25 ?_
      refine j_iadd (pc := 26) dX12_law_26 ?_
      refine j_put (pc := 27) jv2_0 jm_01 kf_RX12_194 wI2 kp_X12_41 kx2_0_41 (jm_w_in _) rfl rfl dX12_law_27 (fun M10 => ?_)
      refine j_aload_n (pc := 30) dX12_law_30 rfl (q := 0) rfl ?_
      refine j_iload_n (pc := 31) dX12_law_31 rfl (q := 1) rfl ?_
      refine j_bipush (pc := 32) 88 dX12_law_32 (by decide) ?_
      refine j_callVi2 (pc := 34) (ct_X12_isSign M10 l1 88 hl1 (jm_inL (by decide) (by decide))) kg_1471 km_X12_isSign kv_X12_isSign rfl rfl ⟨(Nat.le_of_ble_eq_true rfl), (Nat.le_of_ble_eq_true rfl)⟩ jv2_0 jm_01 ko2_0 rfl rfl (Nat.le_of_ble_eq_true rfl) dX12_law_34 (fun v11 M12 h13 => ?_)
      refine j_if_eq (tgt := 74) (pc := 37) h13 dX12_law_37 (by decide) (fun c14 => ?_) (fun c14 => ?_)
      · skip
        refine j_aload_n (pc := 74) dX12_law_74 rfl (q := 0) rfl ?_
        refine j_iload_n (pc := 75) dX12_law_75 rfl (q := 1) rfl ?_
        refine j_bipush (pc := 76) 43 dX12_law_76 (by decide) ?_
        refine j_callVi2 (pc := 78) (ct_X12_isSign M12 l1 43 hl1 (jm_inL (by decide) (by decide))) kg_1471 km_X12_isSign kv_X12_isSign rfl rfl ⟨(Nat.le_of_ble_eq_true rfl), (Nat.le_of_ble_eq_true rfl)⟩ jv2_0 jm_01 ko2_0 rfl rfl (Nat.le_of_ble_eq_true rfl) dX12_law_78 (fun v15 M16 h17 => ?_)
        refine j_if_ne (tgt := 86) (pc := 81) h17 dX12_law_81 (by decide) (fun c18 => ?_) (fun c18 => ?_)
        · skip
          refine j_iconst (pc := 84) dX12_law_84 ?_
          exact j_iret (pc := 85) (jm_inL (by decide) (by decide)) rfl dX12_law_85
        · skip
          refine j_aload_n (pc := 86) dX12_law_86 rfl (q := 0) rfl ?_
          refine j_dup (pc := 87) dX12_law_87 rfl ?_
          refine j_geti (pc := 88) jv2_0 jm_01 kf_RX12_194 kg2_0_41 dX12_law_88 (fun h19 => ?_)
          refine j_iconst (pc := 91) dX12_law_91 ?_
          refine j_iadd (pc := 92) dX12_law_92 ?_
          refine j_put (pc := 93) jv2_0 jm_01 kf_RX12_194 wI2 kp_X12_41 kx2_0_41 (jm_w_in _) rfl rfl dX12_law_93 (fun M20 => ?_)
          refine j_iconst (pc := 96) dX12_law_96 ?_
          refine j_istore_n (pc := 97) [(2, jm_i 0), (0, jm_vr wd2 X 0 0), (1, jm_i l1)] dX12_law_97 rfl (by decide) rfl ?_
          refine j_aload_n (pc := 98) dX12_law_98 rfl (q := 1) rfl ?_
          refine j_geti (pc := 99) jv2_0 jm_01 kf_RX12_194 kg2_0_41 dX12_law_99 (fun h21 => ?_)
          refine j_nm (pc := 102) h21 (fun v22 h23 => ?_)
          refine j_istore_n (pc := 102) [(3, jm_i v22), (2, jm_i 0), (0, jm_vr wd2 X 0 0), (1, jm_i l1)] dX12_law_102 rfl (by decide) rfl ?_
          refine j_sub (pc := 103) [(0, jm_vr wd2 X 0 0), (1, jm_i l1), (2, jm_i 0), (3, jm_i v22)] [2, 3, 1, 0] rfl ?_
          exact bX12_law_103 X fu  fu M20 l1 0 v22 hl1 (jm_inL (by decide) (by decide)) h23
      · skip
        refine j_aload_n (pc := 40) dX12_law_40 rfl (q := 0) rfl ?_
        refine j_dup (pc := 41) dX12_law_41 rfl ?_
        refine j_geti (pc := 42) jv2_0 jm_01 kf_RX12_194 kg2_0_41 dX12_law_42 (fun h24 => ?_)
        refine j_iconst (pc := 45) dX12_law_45 ?_
        refine j_iadd (pc := 46) dX12_law_46 ?_
        refine j_put (pc := 47) jv2_0 jm_01 kf_RX12_194 wI2 kp_X12_41 kx2_0_41 (jm_w_in _) rfl rfl dX12_law_47 (fun M25 => ?_)
        refine j_aload_n (pc := 50) dX12_law_50 rfl (q := 0) rfl ?_
        refine j_getr (pc := 51) jv2_0 jm_01 kf_RX12_269 0 kg2_0_74 rfl dX12_law_51 ?_
        refine j_aload_n (pc := 54) dX12_law_54 rfl (q := 0) rfl ?_
        refine j_geti (pc := 55) jv2_0 jm_01 kf_RX12_33 kg2_0_72 dX12_law_55 (fun h26 => ?_)
        refine j_iconst (pc := 58) dX12_law_58 ?_
        refine j_iast (pc := 59) jv2_62 jm_01 rfl (by decide) wI2 ka2_62 (jm_inL (by decide) (by decide)) dX12_law_59 (fun c27 M28 => ?_)
        refine j_aload_n (pc := 60) dX12_law_60 rfl (q := 0) rfl ?_
        refine j_geti (pc := 61) jv2_0 jm_01 kf_RX12_194 kg2_0_41 dX12_law_61 (fun h29 => ?_)
        refine j_iload_n (pc := 64) dX12_law_64 rfl (q := 1) rfl ?_
        refine j_icmp_ne (tgt := 72) (pc := 65) h29 hl1 dX12_law_65 (by decide) (fun c30 => ?_) (fun c30 => ?_)
        · skip
          refine j_iconst (pc := 68) dX12_law_68 ?_
          refine j_goto (tgt := 73) (pc := 69) dX12_law_69 (by decide) ?_
          exact j_iret (pc := 73) (jm_inL (by decide) (by decide)) rfl dX12_law_73
        · skip
          refine j_iconst (pc := 72) dX12_law_72 ?_
          exact j_iret (pc := 73) (jm_inL (by decide) (by decide)) rfl dX12_law_73
abbrev rmX12_line : Room := { frames := 511, cells := 0, slots := 0, locals := 30622 }
set_option maxHeartbeats 4000000 in
set_option maxRecDepth 100000 in
theorem b0X12_line_57 (X : jm_X) (fu : Nat) (k57 : jm_M → Int → Int → jm_R) (hk57 : ∀ (M : jm_M) (l1 l2 : Int) (hl1 : jm_in l1) (hl2 : jm_in l2), jm_J wd2 (jm_qi .boolean) cX12_line 4 RX12 rmX12_line X M [(0, jm_vr wd2 X 0 0), (1, jm_i l1), (2, jm_i l2)] [] 57 (k57 M l1 l2)) : ∀ (M : jm_M) (l1 l2 : Int) (hl1 : jm_in l1) (hl2 : jm_in l2), jm_J wd2 (jm_qi .boolean) cX12_line 4 RX12 rmX12_line X M [(0, jm_vr wd2 X 0 0), (1, jm_i l1), (2, jm_i l2)] [] 57 (gX12_line_57 fu k57 M l1 l2) := by
  intro M l1 l2 hl1 hl2
  unfold gX12_line_57
  refine j_aload_n (pc := 57) dX12_line_57 rfl (q := 0) rfl ?_
  refine j_iload_n (pc := 58) dX12_line_58 rfl (q := 1) rfl ?_
  refine j_ldcwS (pc := 59) 8 (by decide) rfl rfl dX12_line_59 ?_
  refine j_callVi2 (pc := 62) (ct_X12_isOf M l1 8 hl1 ⟨by decide, by decide⟩) kg_1504 km_X12_isOf kv_X12_isOf rfl rfl ⟨(Nat.le_of_ble_eq_true rfl), (Nat.le_of_ble_eq_true rfl)⟩ jv2_0 jm_01 ko2_0 rfl rfl (Nat.le_of_ble_eq_true rfl) dX12_line_62 (fun v1 M2 h3 => ?_)
  refine j_if_eq (tgt := 150) (pc := 65) h3 dX12_line_65 (by decide) (fun c4 => ?_) (fun c4 => ?_)
  · skip
    refine j_aload_n (pc := 150) dX12_line_150 rfl (q := 0) rfl ?_
    refine j_sipush (pc := 151) (-302) dX12_line_151 (by decide) ?_
    refine j_callVv1 (pc := 154) (ct_X12_marks M2 (-302) (jm_inL (by decide) (by decide))) kg_1475 km_X12_marks kv_X12_marks rfl rfl ⟨(Nat.le_of_ble_eq_true rfl), (Nat.le_of_ble_eq_true rfl)⟩ jv2_0 jm_01 ko2_0 rfl rfl (Nat.le_of_ble_eq_true rfl) dX12_line_154 (fun v5 M6 => ?_)
    refine j_iload_n (pc := 157) dX12_line_157 rfl (q := 2) rfl ?_
    exact j_zret (pc := 158) hl2 dX12_line_158
  · skip
    refine j_aload_n (pc := 68) dX12_line_68 rfl (q := 0) rfl ?_
    refine j_getr (pc := 69) jv2_0 jm_01 kf_RX12_191 0 kg2_0_39 rfl dX12_line_69 ?_
    refine j_aload_n (pc := 72) dX12_line_72 rfl (q := 0) rfl ?_
    refine j_geti (pc := 73) jv2_0 jm_01 kf_RX12_194 kg2_0_41 dX12_line_73 (fun h7 => ?_)
    refine j_iald (pc := 76) jv2_34 jm_01 rfl (by decide) ka2_34 dX12_line_76 (fun c8 h9 => ?_)
    refine j_nm (pc := 77) h9 (fun v10 h11 => ?_)
    refine j_istore_n (pc := 77) [(3, jm_i v10), (0, jm_vr wd2 X 0 0), (1, jm_i l1), (2, jm_i l2)] dX12_line_77 rfl (by decide) rfl ?_
    refine j_aload_n (pc := 78) dX12_line_78 rfl (q := 1) rfl ?_
    refine j_dup (pc := 79) dX12_line_79 rfl ?_
    refine j_geti (pc := 80) jv2_0 jm_01 kf_RX12_194 kg2_0_41 dX12_line_80 (fun h12 => ?_)
    refine j_iconst (pc := 83) dX12_line_83 ?_
    refine j_iadd (pc := 84) dX12_line_84 ?_
    refine j_put (pc := 85) jv2_0 jm_01 kf_RX12_194 wI2 kp_X12_41 kx2_0_41 (jm_w_in _) rfl rfl dX12_line_85 (fun M13 => ?_)
    refine j_iload_n (pc := 88) dX12_line_88 rfl (q := 0) rfl ?_
    refine j_bipush (pc := 89) 98 dX12_line_89 (by decide) ?_
    refine j_icmp_ne (tgt := 140) (pc := 91) h11 (jm_inL (by decide) (by decide)) dX12_line_91 (by decide) (fun c14 => ?_) (fun c14 => ?_)
    · skip
      refine j_aload_n (pc := 94) dX12_line_94 rfl (q := 1) rfl ?_
      refine j_iload_n (pc := 95) dX12_line_95 rfl (q := 2) rfl ?_
      refine j_ldcwS (pc := 96) 9 (by decide) rfl rfl dX12_line_96 ?_
      refine j_callVi2 (pc := 99) (ct_X12_isOf M13 l1 9 hl1 ⟨by decide, by decide⟩) kg_1504 km_X12_isOf kv_X12_isOf rfl rfl ⟨(Nat.le_of_ble_eq_true rfl), (Nat.le_of_ble_eq_true rfl)⟩ jv2_0 jm_01 ko2_0 rfl rfl (Nat.le_of_ble_eq_true rfl) dX12_line_99 (fun v15 M16 h17 => ?_)
      refine j_if_ne (tgt := 107) (pc := 102) h17 dX12_line_102 (by decide) (fun c18 => ?_) (fun c18 => ?_)
      · skip
        refine j_iconst (pc := 105) dX12_line_105 ?_
        exact j_iret (pc := 106) (jm_inL (by decide) (by decide)) rfl dX12_line_106
      · skip
        refine j_aload_n (pc := 107) dX12_line_107 rfl (q := 1) rfl ?_
        refine j_sipush (pc := 108) 1000 dX12_line_108 (by decide) ?_
        refine j_aload_n (pc := 111) dX12_line_111 rfl (q := 1) rfl ?_
        refine j_getr (pc := 112) jv2_0 jm_01 kf_RX12_191 0 kg2_0_39 rfl dX12_line_112 ?_
        refine j_aload_n (pc := 115) dX12_line_115 rfl (q := 1) rfl ?_
        refine j_geti (pc := 116) jv2_0 jm_01 kf_RX12_194 kg2_0_41 dX12_line_116 (fun h19 => ?_)
        refine j_iald (pc := 119) jv2_34 jm_01 rfl (by decide) ka2_34 dX12_line_119 (fun c20 h21 => ?_)
        refine j_iadd (pc := 120) dX12_line_120 ?_
        refine j_bipush (pc := 121) 48 dX12_line_121 (by decide) ?_
        refine j_isub (pc := 123) dX12_line_123 ?_
        refine j_callVv1 (pc := 124) (ct_X12_marks M16 (jm_w ((jm_w (1000 + (M16 34 0 (M16 0 0 41)))) - 48)) (jm_w_in _)) kg_1475 km_X12_marks kv_X12_marks rfl rfl ⟨(Nat.le_of_ble_eq_true rfl), (Nat.le_of_ble_eq_true rfl)⟩ jv2_0 jm_01 ko2_0 rfl rfl (Nat.le_of_ble_eq_true rfl) dX12_line_124 (fun v22 M23 => ?_)
        refine j_aload_n (pc := 127) dX12_line_127 rfl (q := 1) rfl ?_
        refine j_dup (pc := 128) dX12_line_128 rfl ?_
        refine j_geti (pc := 129) jv2_0 jm_01 kf_RX12_194 kg2_0_41 dX12_line_129 (fun h24 => ?_)
        refine j_iconst (pc := 132) dX12_line_132 ?_
        refine j_iadd (pc := 133) dX12_line_133 ?_
        refine j_put (pc := 134) jv2_0 jm_01 kf_RX12_194 wI2 kp_X12_41 kx2_0_41 (jm_w_in _) rfl rfl dX12_line_134 (fun M25 => ?_)
        refine j_goto (tgt := 145) (pc := 137) dX12_line_137 (by decide) ?_
        refine j_iconst (pc := 145) dX12_line_145 ?_
        refine j_istore_n (pc := 146) [(2, jm_i 1), (3, jm_i v10), (0, jm_vr wd2 X 0 0), (1, jm_i l1)] dX12_line_146 rfl (by decide) rfl ?_
        refine j_goto (tgt := 57) (pc := 147) dX12_line_147 (by decide) ?_
        refine j_sub (pc := 57) [(0, jm_vr wd2 X 0 0), (1, jm_i l1), (2, jm_i 1)] [2, 3, 0] rfl ?_
        exact hk57 M25 l1 1 hl1 (jm_inL (by decide) (by decide))
    · skip
      refine j_aload_n (pc := 140) dX12_line_140 rfl (q := 1) rfl ?_
      refine j_iload_n (pc := 141) dX12_line_141 rfl (q := 0) rfl ?_
      refine j_callVv1 (pc := 142) (ct_X12_marks M13 v10 h11) kg_1475 km_X12_marks kv_X12_marks rfl rfl ⟨(Nat.le_of_ble_eq_true rfl), (Nat.le_of_ble_eq_true rfl)⟩ jv2_0 jm_01 ko2_0 rfl rfl (Nat.le_of_ble_eq_true rfl) dX12_line_142 (fun v26 M27 => ?_)
      refine j_iconst (pc := 145) dX12_line_145 ?_
      refine j_istore_n (pc := 146) [(2, jm_i 1), (3, jm_i v10), (0, jm_vr wd2 X 0 0), (1, jm_i l1)] dX12_line_146 rfl (by decide) rfl ?_
      refine j_goto (tgt := 57) (pc := 147) dX12_line_147 (by decide) ?_
      refine j_sub (pc := 57) [(0, jm_vr wd2 X 0 0), (1, jm_i l1), (2, jm_i 1)] [2, 3, 0] rfl ?_
      exact hk57 M27 l1 1 hl1 (jm_inL (by decide) (by decide))
theorem bX12_line_57 (X : jm_X) (fu : Nat) : ∀ (n : Nat) (M : jm_M) (l1 l2 : Int) (hl1 : jm_in l1) (hl2 : jm_in l2), jm_J wd2 (jm_qi .boolean) cX12_line 4 RX12 rmX12_line X M [(0, jm_vr wd2 X 0 0), (1, jm_i l1), (2, jm_i l2)] [] 57 (fX12_line_57 fu n M l1 l2) := by
  intro n
  induction n with
  | zero => intro M l1 l2 hl1 hl2; exact j_none
  | succ n ih => intro M l1 l2 hl1 hl2; exact b0X12_line_57 X fu (fX12_line_57 fu n) ih M l1 l2 hl1 hl2
set_option maxHeartbeats 4000000 in
set_option maxRecDepth 100000 in
theorem bX12_line_38 (X : jm_X) (fu : Nat) : ∀ (M : jm_M) (l1 : Int) (hl1 : jm_in l1), jm_J wd2 (jm_qi .boolean) cX12_line 4 RX12 rmX12_line X M [(0, jm_vr wd2 X 0 0), (1, jm_i l1)] [] 38 (gX12_line_38 fu M l1) := by
  intro M l1 hl1
  unfold gX12_line_38
  refine j_aload_n (pc := 38) dX12_line_38 rfl (q := 0) rfl ?_
  refine j_dup (pc := 39) dX12_line_39 rfl ?_
  refine j_geti (pc := 40) jv2_0 jm_01 kf_RX12_194 kg2_0_41 dX12_line_40 (fun h1 => ?_)
  refine j_iconst (pc := 43) dX12_line_43 ?_
  refine j_iadd (pc := 44) dX12_line_44 ?_
  refine j_put (pc := 45) jv2_0 jm_01 kf_RX12_194 wI2 kp_X12_41 kx2_0_41 (jm_w_in _) rfl rfl dX12_line_45 (fun M2 => ?_)
  refine j_aload_n (pc := 48) dX12_line_48 rfl (q := 0) rfl ?_
  refine j_sipush (pc := 49) (-300) dX12_line_49 (by decide) ?_
  refine j_callVv1 (pc := 52) (ct_X12_marks M2 (-300) (jm_inL (by decide) (by decide))) kg_1475 km_X12_marks kv_X12_marks rfl rfl ⟨(Nat.le_of_ble_eq_true rfl), (Nat.le_of_ble_eq_true rfl)⟩ jv2_0 jm_01 ko2_0 rfl rfl (Nat.le_of_ble_eq_true rfl) dX12_line_52 (fun v3 M4 => ?_)
  refine j_iconst (pc := 55) dX12_line_55 ?_
  refine j_istore_n (pc := 56) [(2, jm_i 0), (0, jm_vr wd2 X 0 0), (1, jm_i l1)] dX12_line_56 rfl (by decide) rfl ?_
  refine j_sub (pc := 57) [(0, jm_vr wd2 X 0 0), (1, jm_i l1), (2, jm_i 0)] [1, 2, 0] rfl ?_
  exact bX12_line_57 X fu  fu M4 l1 0 hl1 (jm_inL (by decide) (by decide))
set_option maxHeartbeats 4000000 in
set_option maxRecDepth 100000 in
theorem ct_X12_line (fu : Nat) (M : jm_M) (l1 : Int) (hl1 : jm_in l1) : jm_Ci wd2 yX12_line cX12_line 4 (some .boolean) rmX12_line M (fun G ad => [.ref (ad (jm_r wd2 0 0)), jm_i l1]) (fX12_line fu M l1) := by
  refine jm_met_i (fun X => [(0, jm_vr wd2 X 0 0), (1, jm_i l1)]) (by decide) (fun _ _ => (Nat.le_of_ble_eq_true rfl)) (fun _ => rfl) (fun X => ?_)
  unfold fX12_line
  refine j_aload_n (pc := 0) dX12_line_0 rfl (q := 0) rfl ?_
  refine j_iload_n (pc := 1) dX12_line_1 rfl (q := 1) rfl ?_
  refine j_bipush (pc := 2) 58 dX12_line_2 (by decide) ?_
  refine j_callVi2 (pc := 4) (ct_X12_isSign M l1 58 hl1 (jm_inL (by decide) (by decide))) kg_1471 km_X12_isSign kv_X12_isSign rfl rfl ⟨(Nat.le_of_ble_eq_true rfl), (Nat.le_of_ble_eq_true rfl)⟩ jv2_0 jm_01 ko2_0 rfl rfl (Nat.le_of_ble_eq_true rfl) dX12_line_4 (fun v1 M2 h3 => ?_)
  refine j_if_eq (tgt := 18) (pc := 7) h3 dX12_line_7 (by decide) (fun c4 => ?_) (fun c4 => ?_)
  · skip
    refine j_aload_n (pc := 18) dX12_line_18 rfl (q := 0) rfl ?_
    refine j_iload_n (pc := 19) dX12_line_19 rfl (q := 1) rfl ?_
    refine j_callVi1 (pc := 20) (ct2_X12_some fu M2 l1 hl1) kg_1479 km_X12_some kv_X12_some rfl rfl ⟨(Nat.le_of_ble_eq_true rfl), (Nat.le_of_ble_eq_true rfl)⟩ jv2_0 jm_01 ko2_0 rfl rfl (Nat.le_of_ble_eq_true rfl) dX12_line_20 (fun v5 M6 h7 => ?_)
    refine j_if_eq (tgt := 36) (pc := 23) h7 dX12_line_23 (by decide) (fun c8 => ?_) (fun c8 => ?_)
    · skip
      refine j_iconst (pc := 36) dX12_line_36 ?_
      exact j_iret (pc := 37) (jm_inL (by decide) (by decide)) rfl dX12_line_37
    · skip
      refine j_aload_n (pc := 26) dX12_line_26 rfl (q := 0) rfl ?_
      refine j_iload_n (pc := 27) dX12_line_27 rfl (q := 1) rfl ?_
      refine j_bipush (pc := 28) 58 dX12_line_28 (by decide) ?_
      refine j_callVi2 (pc := 30) (ct_X12_isSign M6 l1 58 hl1 (jm_inL (by decide) (by decide))) kg_1471 km_X12_isSign kv_X12_isSign rfl rfl ⟨(Nat.le_of_ble_eq_true rfl), (Nat.le_of_ble_eq_true rfl)⟩ jv2_0 jm_01 ko2_0 rfl rfl (Nat.le_of_ble_eq_true rfl) dX12_line_30 (fun v9 M10 h11 => ?_)
      refine j_if_ne (tgt := 38) (pc := 33) h11 dX12_line_33 (by decide) (fun c12 => ?_) (fun c12 => ?_)
      · skip
        refine j_iconst (pc := 36) dX12_line_36 ?_
        exact j_iret (pc := 37) (jm_inL (by decide) (by decide)) rfl dX12_line_37
      · skip
        refine j_sub (pc := 38) [(0, jm_vr wd2 X 0 0), (1, jm_i l1)] [0, 1] rfl ?_
        exact bX12_line_38 X fu  M10 l1 hl1
  · skip
    refine j_aload_n (pc := 10) dX12_line_10 rfl (q := 0) rfl ?_
    refine j_iconst (pc := 11) dX12_line_11 ?_
    refine j_callVv1 (pc := 12) (ct_X12_marks M2 1 (jm_inL (by decide) (by decide))) kg_1475 km_X12_marks kv_X12_marks rfl rfl ⟨(Nat.le_of_ble_eq_true rfl), (Nat.le_of_ble_eq_true rfl)⟩ jv2_0 jm_01 ko2_0 rfl rfl (Nat.le_of_ble_eq_true rfl) dX12_line_12 (fun v13 M14 => ?_)
    refine j_goto (tgt := 38) (pc := 15) dX12_line_15 (by decide) ?_
    refine j_sub (pc := 38) [(0, jm_vr wd2 X 0 0), (1, jm_i l1)] [0, 1] rfl ?_
    exact bX12_line_38 X fu  M14 l1 hl1
abbrev rmX12_lines : Room := { frames := 512, cells := 0, slots := 0, locals := 30645 }
set_option maxHeartbeats 4000000 in
set_option maxRecDepth 100000 in
theorem bX12_lines_39 (X : jm_X) (fu : Nat) : ∀ (M : jm_M) (l1 l2 : Int) (hl1 : jm_in l1) (hl2 : jm_in l2), jm_J wd2 (jm_qi .boolean) cX12_lines 3 RX12 rmX12_lines X M [(0, jm_vr wd2 X 0 0), (1, jm_i l1), (2, jm_i l2)] [] 39 (gX12_lines_39 fu M l1 l2) := by
  intro M l1 l2 hl1 hl2
  unfold gX12_lines_39
  refine j_iload_n (pc := 39) dX12_lines_39 rfl (q := 2) rfl ?_
  refine j_if_eq (tgt := 55) (pc := 40) hl2 dX12_lines_40 (by decide) (fun c1 => ?_) (fun c1 => ?_)
  · skip
    refine j_iconst (pc := 55) dX12_lines_55 ?_
    exact j_iret (pc := 56) (jm_inL (by decide) (by decide)) rfl dX12_lines_56
  · skip
    refine j_aload_n (pc := 43) dX12_lines_43 rfl (q := 0) rfl ?_
    refine j_geti (pc := 44) jv2_0 jm_01 kf_RX12_194 kg2_0_41 dX12_lines_44 (fun h2 => ?_)
    refine j_iload_n (pc := 47) dX12_lines_47 rfl (q := 1) rfl ?_
    refine j_icmp_ne (tgt := 55) (pc := 48) h2 hl1 dX12_lines_48 (by decide) (fun c3 => ?_) (fun c3 => ?_)
    · skip
      refine j_iconst (pc := 51) dX12_lines_51 ?_
      refine j_goto (tgt := 56) (pc := 52) dX12_lines_52 (by decide) ?_
      exact j_iret (pc := 56) (jm_inL (by decide) (by decide)) rfl dX12_lines_56
    · skip
      refine j_iconst (pc := 55) dX12_lines_55 ?_
      exact j_iret (pc := 56) (jm_inL (by decide) (by decide)) rfl dX12_lines_56
set_option maxHeartbeats 4000000 in
set_option maxRecDepth 100000 in
theorem b0X12_lines_6 (X : jm_X) (fu : Nat) (k6 : jm_M → Int → Int → jm_R) (hk6 : ∀ (M : jm_M) (l1 l2 : Int) (hl1 : jm_in l1) (hl2 : jm_in l2), jm_J wd2 (jm_qi .boolean) cX12_lines 3 RX12 rmX12_lines X M [(0, jm_vr wd2 X 0 0), (1, jm_i l1), (2, jm_i l2)] [] 6 (k6 M l1 l2)) : ∀ (M : jm_M) (l1 l2 : Int) (hl1 : jm_in l1) (hl2 : jm_in l2), jm_J wd2 (jm_qi .boolean) cX12_lines 3 RX12 rmX12_lines X M [(0, jm_vr wd2 X 0 0), (1, jm_i l1), (2, jm_i l2)] [] 6 (gX12_lines_6 fu k6 M l1 l2) := by
  intro M l1 l2 hl1 hl2
  unfold gX12_lines_6
  refine j_iload_n (pc := 6) dX12_lines_6 rfl (q := 2) rfl ?_
  refine j_if_eq (tgt := 39) (pc := 7) hl2 dX12_lines_7 (by decide) (fun c1 => ?_) (fun c1 => ?_)
  · skip
    refine j_sub (pc := 39) [(0, jm_vr wd2 X 0 0), (1, jm_i l1), (2, jm_i l2)] [0, 1, 2] rfl ?_
    exact bX12_lines_39 X fu  M l1 l2 hl1 hl2
  · skip
    refine j_aload_n (pc := 10) dX12_lines_10 rfl (q := 0) rfl ?_
    refine j_iload_n (pc := 11) dX12_lines_11 rfl (q := 1) rfl ?_
    refine j_bipush (pc := 12) 59 dX12_lines_12 (by decide) ?_
    refine j_callVi2 (pc := 14) (ct_X12_isSign M l1 59 hl1 (jm_inL (by decide) (by decide))) kg_1471 km_X12_isSign kv_X12_isSign rfl rfl ⟨(Nat.le_of_ble_eq_true rfl), (Nat.le_of_ble_eq_true rfl)⟩ jv2_0 jm_01 ko2_0 rfl rfl (Nat.le_of_ble_eq_true rfl) dX12_lines_14 (fun v2 M3 h4 => ?_)
    refine j_if_eq (tgt := 39) (pc := 17) h4 dX12_lines_17 (by decide) (fun c5 => ?_) (fun c5 => ?_)
    · skip
      refine j_sub (pc := 39) [(0, jm_vr wd2 X 0 0), (1, jm_i l1), (2, jm_i l2)] [0, 1, 2] rfl ?_
      exact bX12_lines_39 X fu  M3 l1 l2 hl1 hl2
    · skip
      refine j_aload_n (pc := 20) dX12_lines_20 rfl (q := 0) rfl ?_
      refine j_dup (pc := 21) dX12_lines_21 rfl ?_
      refine j_geti (pc := 22) jv2_0 jm_01 kf_RX12_194 kg2_0_41 dX12_lines_22 (fun h6 => ?_)
      refine j_iconst (pc := 25) dX12_lines_25 ?_
      refine j_iadd (pc := 26) dX12_lines_26 ?_
      refine j_put (pc := 27) jv2_0 jm_01 kf_RX12_194 wI2 kp_X12_41 kx2_0_41 (jm_w_in _) rfl rfl dX12_lines_27 (fun M7 => ?_)
      refine j_aload_n (pc := 30) dX12_lines_30 rfl (q := 0) rfl ?_
      refine j_iload_n (pc := 31) dX12_lines_31 rfl (q := 1) rfl ?_
      refine j_callVi1 (pc := 32) (ct_X12_line fu M7 l1 hl1) kg_1467 km_X12_line kv_X12_line rfl rfl ⟨(Nat.le_of_ble_eq_true rfl), (Nat.le_of_ble_eq_true rfl)⟩ jv2_0 jm_01 ko2_0 rfl rfl (Nat.le_of_ble_eq_true rfl) dX12_lines_32 (fun v8 M9 h10 => ?_)
      refine j_istore_n (pc := 35) [(2, jm_i v8), (0, jm_vr wd2 X 0 0), (1, jm_i l1)] dX12_lines_35 rfl (by decide) rfl ?_
      refine j_goto (tgt := 6) (pc := 36) dX12_lines_36 (by decide) ?_
      refine j_sub (pc := 6) [(0, jm_vr wd2 X 0 0), (1, jm_i l1), (2, jm_i v8)] [1, 2, 0] rfl ?_
      exact hk6 M9 l1 v8 hl1 h10
theorem bX12_lines_6 (X : jm_X) (fu : Nat) : ∀ (n : Nat) (M : jm_M) (l1 l2 : Int) (hl1 : jm_in l1) (hl2 : jm_in l2), jm_J wd2 (jm_qi .boolean) cX12_lines 3 RX12 rmX12_lines X M [(0, jm_vr wd2 X 0 0), (1, jm_i l1), (2, jm_i l2)] [] 6 (fX12_lines_6 fu n M l1 l2) := by
  intro n
  induction n with
  | zero => intro M l1 l2 hl1 hl2; exact j_none
  | succ n ih => intro M l1 l2 hl1 hl2; exact b0X12_lines_6 X fu (fX12_lines_6 fu n) ih M l1 l2 hl1 hl2
set_option maxHeartbeats 4000000 in
set_option maxRecDepth 100000 in
theorem ct_X12_lines (fu : Nat) (M : jm_M) (l1 : Int) (hl1 : jm_in l1) : jm_Ci wd2 yX12_lines cX12_lines 3 (some .boolean) rmX12_lines M (fun G ad => [.ref (ad (jm_r wd2 0 0)), jm_i l1]) (fX12_lines fu M l1) := by
  refine jm_met_i (fun X => [(0, jm_vr wd2 X 0 0), (1, jm_i l1)]) (by decide) (fun _ _ => (Nat.le_of_ble_eq_true rfl)) (fun _ => rfl) (fun X => ?_)
  unfold fX12_lines
  refine j_aload_n (pc := 0) dX12_lines_0 rfl (q := 0) rfl ?_
  refine j_iload_n (pc := 1) dX12_lines_1 rfl (q := 1) rfl ?_
  refine j_callVi1 (pc := 2) (ct_X12_line fu M l1 hl1) kg_1467 km_X12_line kv_X12_line rfl rfl ⟨(Nat.le_of_ble_eq_true rfl), (Nat.le_of_ble_eq_true rfl)⟩ jv2_0 jm_01 ko2_0 rfl rfl (Nat.le_of_ble_eq_true rfl) dX12_lines_2 (fun v1 M2 h3 => ?_)
  refine j_istore_n (pc := 5) [(2, jm_i v1), (0, jm_vr wd2 X 0 0), (1, jm_i l1)] dX12_lines_5 rfl (by decide) rfl ?_
  refine j_sub (pc := 6) [(0, jm_vr wd2 X 0 0), (1, jm_i l1), (2, jm_i v1)] [1, 2, 0] rfl ?_
  exact bX12_lines_6 X fu  fu M2 l1 v1 hl1 h3
abbrev rmX12_reads : Room := { frames := 513, cells := 0, slots := 0, locals := 30667 }
set_option maxHeartbeats 4000000 in
set_option maxRecDepth 100000 in
theorem bX12_reads_96 (X : jm_X) (fu : Nat) : ∀ (M : jm_M) (l5 : Int) (hl5 : jm_in l5), jm_J wd2 (jm_qi .int) cX12_reads 6 RX12 rmX12_reads X M [(0, jm_vr wd2 X 0 0), (5, jm_i l5)] [] 96 (gX12_reads_96 fu M l5) := by
  intro M l5 hl5
  unfold gX12_reads_96
  refine j_iload (pc := 96) dX12_reads_96 (q := 1) rfl ?_
  refine j_if_eq (tgt := 105) (pc := 98) hl5 dX12_reads_98 (by decide) (fun c1 => ?_) (fun c1 => ?_)
  · skip
    refine j_iconst (pc := 105) dX12_reads_105 ?_
    refine j_aload_n (pc := 106) dX12_reads_106 rfl (q := 0) rfl ?_
    refine j_geti (pc := 107) jv2_0 jm_01 kf_RX12_194 kg2_0_41 dX12_reads_107 (fun h2 => ?_)
    refine j_isub (pc := 110) dX12_reads_110 ?_
    exact j_iret (pc := 111) (jm_w_in _) rfl dX12_reads_111
  · skip
    refine j_iconst (pc := 101) dX12_reads_101 ?_
    refine j_goto (tgt := 111) (pc := 102) dX12_reads_102 (by decide) ?_
    exact j_iret (pc := 111) (jm_inL (by decide) (by decide)) rfl dX12_reads_111
set_option maxHeartbeats 4000000 in
set_option maxRecDepth 100000 in
theorem bX12_reads_71 (X : jm_X) (fu : Nat) : ∀ (M : jm_M) (l3 s0 : Int) (hl3 : jm_in l3) (hs0 : jm_in s0), jm_J wd2 (jm_qi .int) cX12_reads 6 RX12 rmX12_reads X M [(0, jm_vr wd2 X 0 0), (3, jm_i l3)] [jm_i s0] 71 (gX12_reads_71 fu M l3 s0) := by
  intro M l3 s0 hl3 hs0
  unfold gX12_reads_71
  refine j_istore (pc := 71) [(5, jm_i s0), (0, jm_vr wd2 X 0 0), (3, jm_i l3)] dX12_reads_71 (by decide) rfl ?_
  refine j_iload_n (pc := 73) dX12_reads_73 rfl (q := 2) rfl ?_
  refine j_bipush (pc := 74) 60 dX12_reads_74 (by decide) ?_
  refine j_icmp_le (tgt := 96) (pc := 76) hl3 (jm_inL (by decide) (by decide)) dX12_reads_76 (by decide) (fun c1 => ?_) (fun c1 => ?_)
  · skip
    refine j_sub (pc := 96) [(0, jm_vr wd2 X 0 0), (5, jm_i s0)] [1, 0] rfl ?_
    exact bX12_reads_96 X fu  M s0 hs0
  · skip
    refine j_iload (pc := 79) dX12_reads_79 (q := 0) rfl ?_
    refine j_if_ne (tgt := 93) (pc := 81) hs0 dX12_reads_81 (by decide) (fun c2 => ?_) (fun c2 => ?_)
    · skip
      refine j_aload_n (pc := 84) dX12_reads_84 rfl (q := 1) rfl ?_
      refine j_geti (pc := 85) jv2_0 jm_01 kf_RX12_194 kg2_0_41 dX12_reads_85 (fun h3 => ?_)
      refine j_bipush (pc := 88) 60 dX12_reads_88 (by decide) ?_
      refine j_icmp_lt (tgt := 96) (pc := 90) h3 (jm_inL (by decide) (by decide)) dX12_reads_90 (by decide) (fun c4 => ?_) (fun c4 => ?_)
      · skip
        refine j_sub (pc := 96) [(0, jm_vr wd2 X 0 0), (5, jm_i s0)] [1, 0] rfl ?_
        exact bX12_reads_96 X fu  M s0 hs0
      · skip
        refine j_bipush (pc := 93) (-61) dX12_reads_93 (by decide) ?_
        exact j_iret (pc := 95) (jm_inL (by decide) (by decide)) rfl dX12_reads_95
    · skip
      refine j_bipush (pc := 93) (-61) dX12_reads_93 (by decide) ?_
      exact j_iret (pc := 95) (jm_inL (by decide) (by decide)) rfl dX12_reads_95
set_option maxHeartbeats 4000000 in
set_option maxRecDepth 100000 in
theorem bX12_reads_49 (X : jm_X) (fu : Nat) : ∀ (M : jm_M) (l2 l3 l4 u0 : Int) (hl2 : jm_in l2) (hl3 : jm_in l3) (hl4 : jm_in l4) (gu0 : 0 ≤ u0 ∧ u0 < 11), jm_J wd2 (jm_qi .int) cX12_reads 6 RX12 rmX12_reads X M [(0, jm_vr wd2 X 0 0), (2, jm_i l2), (3, jm_i l3), (4, jm_i l4)] [jm_vs X u0, jm_vr wd2 X 0 0] 49 (gX12_reads_49 fu M l2 l3 l4 u0) := by
  intro M l2 l3 l4 u0 hl2 hl3 hl4 gu0
  unfold gX12_reads_49
  refine j_puts (pc := 49) jv2_0 jm_01 kf_RX12_221 wI2 kp_X12_43 kx2_0_43 (jm_inL (by omega) (by omega)) (fun _ => rfl) (fun _ => rfl) dX12_reads_49 (fun M1 => ?_)
  refine j_iload_n (pc := 52) dX12_reads_52 rfl (q := 1) rfl ?_
  refine j_if_eq (tgt := 65) (pc := 53) hl2 dX12_reads_53 (by decide) (fun c2 => ?_) (fun c2 => ?_)
  · skip
    refine j_aload_n (pc := 65) dX12_reads_65 rfl (q := 0) rfl ?_
    refine j_iload (pc := 66) dX12_reads_66 (q := 3) rfl ?_
    refine j_callVi1 (pc := 68) (ct_X12_law fu M1 l4 hl4) kg_1525 km_X12_law kv_X12_law rfl rfl ⟨(Nat.le_of_ble_eq_true rfl), (Nat.le_of_ble_eq_true rfl)⟩ jv2_0 jm_01 ko2_0 rfl rfl (Nat.le_of_ble_eq_true rfl) dX12_reads_68 (fun v3 M4 h5 => ?_)
    refine j_sub (pc := 71) [(0, jm_vr wd2 X 0 0), (3, jm_i l3)] [0, 2] rfl ?_
    exact bX12_reads_71 X fu  M4 l3 v3 hl3 h5
  · skip
    refine j_aload_n (pc := 56) dX12_reads_56 rfl (q := 0) rfl ?_
    refine j_iload (pc := 57) dX12_reads_57 (q := 3) rfl ?_
    refine j_callVi1 (pc := 59) (ct_X12_lines fu M1 l4 hl4) kg_1463 km_X12_lines kv_X12_lines rfl rfl ⟨(Nat.le_of_ble_eq_true rfl), (Nat.le_of_ble_eq_true rfl)⟩ jv2_0 jm_01 ko2_0 rfl rfl (Nat.le_of_ble_eq_true rfl) dX12_reads_59 (fun v6 M7 h8 => ?_)
    refine j_goto (tgt := 71) (pc := 62) dX12_reads_62 (by decide) ?_
    refine j_sub (pc := 71) [(0, jm_vr wd2 X 0 0), (3, jm_i l3)] [0, 2] rfl ?_
    exact bX12_reads_71 X fu  M7 l3 v6 hl3 h8
set_option maxHeartbeats 4000000 in
set_option maxRecDepth 100000 in
theorem ct_X12_reads (fu : Nat) (M : jm_M) (l1 l2 : Int) (hl1 : jm_in l1) (hl2 : jm_in l2) : jm_Ci wd2 yX12_reads cX12_reads 6 (some .int) rmX12_reads M (fun G ad => [.ref (ad (jm_r wd2 0 0)), jm_i l1, jm_i l2]) (fX12_reads fu M l1 l2) := by
  refine jm_met_i (fun X => [(0, jm_vr wd2 X 0 0), (1, jm_i l1), (2, jm_i l2)]) (by decide) (fun _ _ => (Nat.le_of_ble_eq_true rfl)) (fun _ => rfl) (fun X => ?_)
  unfold fX12_reads
  refine j_aload_n (pc := 0) dX12_reads_0 rfl (q := 0) rfl ?_
  refine j_geti (pc := 1) jv2_0 jm_01 kf_RX12_188 kg2_0_40 dX12_reads_1 (fun h1 => ?_)
  refine j_nm (pc := 4) h1 (fun v2 h3 => ?_)
  refine j_istore_n (pc := 4) [(3, jm_i v2), (0, jm_vr wd2 X 0 0), (1, jm_i l1), (2, jm_i l2)] dX12_reads_4 rfl (by decide) rfl ?_
  refine j_aload_n (pc := 5) dX12_reads_5 rfl (q := 1) rfl ?_
  refine j_iconst (pc := 6) dX12_reads_6 ?_
  refine j_put (pc := 7) jv2_0 jm_01 kf_RX12_188 wI2 kp_X12_40 kx2_0_40 (jm_inL (by decide) (by decide)) rfl rfl dX12_reads_7 (fun M4 => ?_)
  refine j_iload_n (pc := 10) dX12_reads_10 rfl (q := 0) rfl ?_
  refine j_bipush (pc := 11) 60 dX12_reads_11 (by decide) ?_
  refine j_mmin (pc := 13) h3 (jm_inL (by decide) (by decide)) kg_1460 kg_717 kg_5 kg_718 ⟨(Nat.le_of_ble_eq_true rfl), (Nat.le_of_ble_eq_true rfl)⟩ (Nat.le_of_ble_eq_true rfl) dX12_reads_13 ?_
  refine j_nm (pc := 16) (jm_min_in h3 (jm_inL (by decide) (by decide))) (fun v5 h6 => ?_)
  refine j_istore (pc := 16) [(4, jm_i v5), (3, jm_i v2), (0, jm_vr wd2 X 0 0), (1, jm_i l1), (2, jm_i l2)] dX12_reads_16 (by decide) rfl ?_
  refine j_aload_n (pc := 18) dX12_reads_18 rfl (q := 2) rfl ?_
  refine j_iconst (pc := 19) dX12_reads_19 ?_
  refine j_put (pc := 20) jv2_0 jm_01 kf_RX12_194 wI2 kp_X12_41 kx2_0_41 (jm_inL (by decide) (by decide)) rfl rfl dX12_reads_20 (fun M7 => ?_)
  refine j_aload_n (pc := 23) dX12_reads_23 rfl (q := 2) rfl ?_
  refine j_iload_n (pc := 24) dX12_reads_24 rfl (q := 3) rfl ?_
  refine j_put (pc := 25) jv2_0 jm_01 kf_RX12_205 wI2 kp_X12_42 kx2_0_42 hl1 rfl rfl dX12_reads_25 (fun M8 => ?_)
  refine j_aload_n (pc := 28) dX12_reads_28 rfl (q := 2) rfl ?_
  refine j_getr (pc := 29) jv2_0 jm_01 kf_RX12_208 0 kg2_0_45 rfl dX12_reads_29 ?_
  refine j_iload_n (pc := 32) dX12_reads_32 rfl (q := 3) rfl ?_
  refine j_iconst (pc := 33) dX12_reads_33 ?_
  refine j_iast (pc := 34) jv2_36 jm_01 rfl (by decide) wI2 ka2_36 (jm_inL (by decide) (by decide)) dX12_reads_34 (fun c9 M10 => ?_)
  refine j_aload_n (pc := 35) dX12_reads_35 rfl (q := 2) rfl ?_
  refine j_iload_n (pc := 36) dX12_reads_36 rfl (q := 4) rfl ?_
  refine j_if_eq (tgt := 46) (pc := 37) hl2 dX12_reads_37 (by decide) (fun c11 => ?_) (fun c11 => ?_)
  · skip
    refine j_ldcwS (pc := 46) 3 (by decide) rfl rfl dX12_reads_46 ?_
    refine j_sub (pc := 49) [(0, jm_vr wd2 X 0 0), (2, jm_i l2), (3, jm_i v2), (4, jm_i v5)] [2, 4, 1, 0] rfl ?_
    exact bX12_reads_49 X fu  M10 l2 v2 v5 3 hl2 h3 h6 (by omega)
  · skip
    refine j_ldcwS (pc := 40) 2 (by decide) rfl rfl dX12_reads_40 ?_
    refine j_goto (tgt := 49) (pc := 43) dX12_reads_43 (by decide) ?_
    refine j_sub (pc := 49) [(0, jm_vr wd2 X 0 0), (2, jm_i l2), (3, jm_i v2), (4, jm_i v5)] [2, 4, 1, 0] rfl ?_
    exact bX12_reads_49 X fu  M10 l2 v2 v5 2 hl2 h3 h6 (by omega)
abbrev rmX12_plan : Room := { frames := 514, cells := 0, slots := 0, locals := 30692 }
set_option maxHeartbeats 4000000 in
set_option maxRecDepth 100000 in
theorem b0X12_plan_38 (X : jm_X) (fu : Nat) (k38 : jm_M → Int → Int → Int → Int → jm_R) (hk38 : ∀ (M : jm_M) (l1 l2 l3 l4 : Int) (hl1 : jm_in l1) (hl2 : jm_in l2) (hl3 : jm_in l3) (hl4 : jm_in l4), jm_J wd2 (jm_qi .int) cX12_plan 5 RX12 rmX12_plan X M [(0, jm_vr wd2 X 0 0), (1, jm_i l1), (2, jm_i l2), (3, jm_i l3), (4, jm_i l4)] [] 38 (k38 M l1 l2 l3 l4)) : ∀ (M : jm_M) (l1 l2 l3 l4 : Int) (hl1 : jm_in l1) (hl2 : jm_in l2) (hl3 : jm_in l3) (hl4 : jm_in l4), jm_J wd2 (jm_qi .int) cX12_plan 5 RX12 rmX12_plan X M [(0, jm_vr wd2 X 0 0), (1, jm_i l1), (2, jm_i l2), (3, jm_i l3), (4, jm_i l4)] [] 38 (gX12_plan_38 fu k38 M l1 l2 l3 l4) := by
  intro M l1 l2 l3 l4 hl1 hl2 hl3 hl4
  unfold gX12_plan_38
  refine j_iload (pc := 38) dX12_plan_38 (q := 4) rfl ?_
  refine j_aload_n (pc := 40) dX12_plan_40 rfl (q := 0) rfl ?_
  refine j_getr (pc := 41) jv2_0 jm_01 kf_RX12_208 0 kg2_0_45 rfl dX12_plan_41 ?_
  refine j_iload_n (pc := 44) dX12_plan_44 rfl (q := 2) rfl ?_
  refine j_iald (pc := 45) jv2_36 jm_01 rfl (by decide) ka2_36 dX12_plan_45 (fun c1 h2 => ?_)
  refine j_icmp_ge (tgt := 79) (pc := 46) hl4 h2 dX12_plan_46 (by decide) (fun c3 => ?_) (fun c3 => ?_)
  · skip
    refine j_aload_n (pc := 79) dX12_plan_79 rfl (q := 0) rfl ?_
    refine j_getr (pc := 80) jv2_0 jm_01 kf_RX12_208 0 kg2_0_45 rfl dX12_plan_80 ?_
    refine j_iload_n (pc := 83) dX12_plan_83 rfl (q := 1) rfl ?_
    refine j_aload_n (pc := 84) dX12_plan_84 rfl (q := 0) rfl ?_
    refine j_getr (pc := 85) jv2_0 jm_01 kf_RX12_208 0 kg2_0_45 rfl dX12_plan_85 ?_
    refine j_iload_n (pc := 88) dX12_plan_88 rfl (q := 2) rfl ?_
    refine j_iald (pc := 89) jv2_36 jm_01 rfl (by decide) ka2_36 dX12_plan_89 (fun c4 h5 => ?_)
    refine j_iast (pc := 90) jv2_36 jm_01 rfl (by decide) wI2 ka2_36 h5 dX12_plan_90 (fun c6 M7 => ?_)
    refine j_aload_n (pc := 91) dX12_plan_91 rfl (q := 0) rfl ?_
    refine j_getr (pc := 92) jv2_0 jm_01 kf_RX12_142 0 kg2_0_35 rfl dX12_plan_92 ?_
    refine j_iload_n (pc := 95) dX12_plan_95 rfl (q := 1) rfl ?_
    refine j_iconst (pc := 96) dX12_plan_96 ?_
    refine j_bast (pc := 97) jv2_30 jm_01 rfl (by decide) wI2 ka2_30 (jm_inL (by decide) (by decide)) dX12_plan_97 (fun c8 c10 M9 => ?_)
    refine j_iload_n (pc := 98) dX12_plan_98 rfl (q := 3) rfl ?_
    exact j_iret (pc := 99) hl3 rfl dX12_plan_99
  · skip
    refine j_aload_n (pc := 49) dX12_plan_49 rfl (q := 0) rfl ?_
    refine j_getr (pc := 50) jv2_0 jm_01 kf_RX12_202 0 kg2_0_44 rfl dX12_plan_50 ?_
    refine j_bipush (pc := 53) 100 dX12_plan_53 (by decide) ?_
    refine j_iload_n (pc := 55) dX12_plan_55 rfl (q := 1) rfl ?_
    refine j_imul (pc := 56) dX12_plan_56 ?_
    refine j_iload (pc := 57) dX12_plan_57 (q := 4) rfl ?_
    refine j_iadd (pc := 59) dX12_plan_59 ?_
    refine j_aload_n (pc := 60) dX12_plan_60 rfl (q := 0) rfl ?_
    refine j_getr (pc := 61) jv2_0 jm_01 kf_RX12_202 0 kg2_0_44 rfl dX12_plan_61 ?_
    refine j_bipush (pc := 64) 100 dX12_plan_64 (by decide) ?_
    refine j_iload_n (pc := 66) dX12_plan_66 rfl (q := 2) rfl ?_
    refine j_imul (pc := 67) dX12_plan_67 ?_
    refine j_iload (pc := 68) dX12_plan_68 (q := 4) rfl ?_
    refine j_iadd (pc := 70) dX12_plan_70 ?_
    refine j_iald (pc := 71) jv2_35 jm_01 rfl (by decide) ka2_35 dX12_plan_71 (fun c11 h12 => ?_)
    refine j_iast (pc := 72) jv2_35 jm_01 rfl (by decide) wI2 ka2_35 h12 dX12_plan_72 (fun c13 M14 => ?_)
    refine j_iinc (pc := 73) [(0, jm_vr wd2 X 0 0), (1, jm_i l1), (2, jm_i l2), (3, jm_i l3)] (q := 4) dX12_plan_73 rfl (by decide) (fun _ => rfl) (fun v15 h16 => ?_)
    refine j_goto (tgt := 38) (pc := 76) dX12_plan_76 (by decide) ?_
    refine j_sub (pc := 38) [(0, jm_vr wd2 X 0 0), (1, jm_i l1), (2, jm_i l2), (3, jm_i l3), (4, jm_i v15)] [1, 2, 3, 4, 0] rfl ?_
    exact hk38 M14 l1 l2 l3 v15 hl1 hl2 hl3 h16
theorem bX12_plan_38 (X : jm_X) (fu : Nat) : ∀ (n : Nat) (M : jm_M) (l1 l2 l3 l4 : Int) (hl1 : jm_in l1) (hl2 : jm_in l2) (hl3 : jm_in l3) (hl4 : jm_in l4), jm_J wd2 (jm_qi .int) cX12_plan 5 RX12 rmX12_plan X M [(0, jm_vr wd2 X 0 0), (1, jm_i l1), (2, jm_i l2), (3, jm_i l3), (4, jm_i l4)] [] 38 (fX12_plan_38 fu n M l1 l2 l3 l4) := by
  intro n
  induction n with
  | zero => intro M l1 l2 l3 l4 hl1 hl2 hl3 hl4; exact j_none
  | succ n ih => intro M l1 l2 l3 l4 hl1 hl2 hl3 hl4; exact b0X12_plan_38 X fu (fX12_plan_38 fu n) ih M l1 l2 l3 l4 hl1 hl2 hl3 hl4
set_option maxHeartbeats 4000000 in
set_option maxRecDepth 100000 in
theorem ct_X12_plan (fu : Nat) (M : jm_M) (l1 : Int) (hl1 : jm_in l1) : jm_Ci wd2 yX12_plan cX12_plan 5 (some .int) rmX12_plan M (fun G ad => [.ref (ad (jm_r wd2 0 0)), jm_i l1]) (fX12_plan fu M l1) := by
  refine jm_met_i (fun X => [(0, jm_vr wd2 X 0 0), (1, jm_i l1)]) (by decide) (fun _ _ => (Nat.le_of_ble_eq_true rfl)) (fun _ => rfl) (fun X => ?_)
  unfold fX12_plan
  refine j_aload_n (pc := 0) dX12_plan_0 rfl (q := 0) rfl ?_
  refine j_iconst (pc := 1) dX12_plan_1 ?_
  refine j_put (pc := 2) jv2_0 jm_01 kf_RX12_3 wI2 kp_X12_0 kx2_0_0 (jm_inL (by decide) (by decide)) rfl rfl dX12_plan_2 (fun M1 => ?_)
  refine j_aload_n (pc := 5) dX12_plan_5 rfl (q := 0) rfl ?_
  refine j_iload_n (pc := 6) dX12_plan_6 rfl (q := 1) rfl ?_
  refine j_callVi1 (pc := 7) (ct_X12_isCar M1 l1 hl1) kg_1405 km_X12_isCar kv_X12_isCar rfl rfl ⟨(Nat.le_of_ble_eq_true rfl), (Nat.le_of_ble_eq_true rfl)⟩ jv2_0 jm_01 ko2_0 rfl rfl (Nat.le_of_ble_eq_true rfl) dX12_plan_7 (fun v2 M3 h4 => ?_)
  refine j_if_ne (tgt := 21) (pc := 10) h4 dX12_plan_10 (by decide) (fun c5 => ?_) (fun c5 => ?_)
  · skip
    refine j_aload_n (pc := 13) dX12_plan_13 rfl (q := 0) rfl ?_
    refine j_iconst (pc := 14) dX12_plan_14 ?_
    refine j_put (pc := 15) jv2_0 jm_01 kf_RX12_188 wI2 kp_X12_40 kx2_0_40 (jm_inL (by decide) (by decide)) rfl rfl dX12_plan_15 (fun M6 => ?_)
    refine j_bipush (pc := 18) (-100) dX12_plan_18 (by decide) ?_
    exact j_iret (pc := 20) (jm_inL (by decide) (by decide)) rfl dX12_plan_20
  · skip
    refine j_bipush (pc := 21) 16 dX12_plan_21 (by decide) ?_
    refine j_istore_n (pc := 23) [(2, jm_i 16), (0, jm_vr wd2 X 0 0), (1, jm_i l1)] dX12_plan_23 rfl (by decide) rfl ?_
    refine j_aload_n (pc := 24) dX12_plan_24 rfl (q := 1) rfl ?_
    refine j_iload_n (pc := 25) dX12_plan_25 rfl (q := 0) rfl ?_
    refine j_iconst (pc := 26) dX12_plan_26 ?_
    refine j_callVi2 (pc := 27) (ct_X12_reads fu M3 16 1 (jm_inL (by decide) (by decide)) (jm_inL (by decide) (by decide))) kg_1456 km_X12_reads kv_X12_reads rfl rfl ⟨(Nat.le_of_ble_eq_true rfl), (Nat.le_of_ble_eq_true rfl)⟩ jv2_0 jm_01 ko2_0 rfl rfl (Nat.le_of_ble_eq_true rfl) dX12_plan_27 (fun v7 M8 h9 => ?_)
    refine j_istore_n (pc := 30) [(3, jm_i v7), (2, jm_i 16), (0, jm_vr wd2 X 0 0), (1, jm_i l1)] dX12_plan_30 rfl (by decide) rfl ?_
    refine j_iload_n (pc := 31) dX12_plan_31 rfl (q := 0) rfl ?_
    refine j_if_le (tgt := 98) (pc := 32) h9 dX12_plan_32 (by decide) (fun c10 => ?_) (fun c10 => ?_)
    · skip
      refine j_iload_n (pc := 98) dX12_plan_98 rfl (q := 0) rfl ?_
      exact j_iret (pc := 99) h9 rfl dX12_plan_99
    · skip
      refine j_iconst (pc := 35) dX12_plan_35 ?_
      refine j_istore (pc := 36) [(4, jm_i 0), (3, jm_i v7), (2, jm_i 16), (0, jm_vr wd2 X 0 0), (1, jm_i l1)] dX12_plan_36 (by decide) rfl ?_
      refine j_sub (pc := 38) [(0, jm_vr wd2 X 0 0), (1, jm_i l1), (2, jm_i 16), (3, jm_i v7), (4, jm_i 0)] [3, 4, 2, 1, 0] rfl ?_
      exact bX12_plan_38 X fu  fu M8 l1 16 v7 0 hl1 (jm_inL (by decide) (by decide)) h9 (jm_inL (by decide) (by decide))
abbrev rmX12_unplan : Room := { frames := 2, cells := 0, slots := 0, locals := 46 }
set_option maxHeartbeats 4000000 in
set_option maxRecDepth 100000 in
theorem bX12_unplan_27 (X : jm_X) (fu : Nat) : ∀ (M : jm_M) (l1 s0 : Int) (hl1 : jm_in l1) (hs0 : jm_in s0), jm_J wd2 (jm_qi .boolean) cX12_unplan 3 RX12 rmX12_unplan X M [(0, jm_vr wd2 X 0 0), (1, jm_i l1)] [jm_i s0] 27 (gX12_unplan_27 fu M l1 s0) := by
  intro M l1 s0 hl1 hs0
  unfold gX12_unplan_27
  refine j_istore_n (pc := 27) [(2, jm_i s0), (0, jm_vr wd2 X 0 0), (1, jm_i l1)] dX12_unplan_27 rfl (by decide) rfl ?_
  refine j_iload_n (pc := 28) dX12_unplan_28 rfl (q := 0) rfl ?_
  refine j_if_eq (tgt := 39) (pc := 29) hs0 dX12_unplan_29 (by decide) (fun c1 => ?_) (fun c1 => ?_)
  · skip
    refine j_iload_n (pc := 39) dX12_unplan_39 rfl (q := 0) rfl ?_
    exact j_zret (pc := 40) hs0 dX12_unplan_40
  · skip
    refine j_aload_n (pc := 32) dX12_unplan_32 rfl (q := 1) rfl ?_
    refine j_getr (pc := 33) jv2_0 jm_01 kf_RX12_142 0 kg2_0_35 rfl dX12_unplan_33 ?_
    refine j_iload_n (pc := 36) dX12_unplan_36 rfl (q := 2) rfl ?_
    refine j_iconst (pc := 37) dX12_unplan_37 ?_
    refine j_bast (pc := 38) jv2_30 jm_01 rfl (by decide) wI2 ka2_30 (jm_inL (by decide) (by decide)) dX12_unplan_38 (fun c2 c4 M3 => ?_)
    refine j_iload_n (pc := 39) dX12_unplan_39 rfl (q := 0) rfl ?_
    exact j_zret (pc := 40) hs0 dX12_unplan_40
set_option maxHeartbeats 4000000 in
set_option maxRecDepth 100000 in
theorem ct_X12_unplan (fu : Nat) (M : jm_M) (l1 : Int) (hl1 : jm_in l1) : jm_Ci wd2 yX12_unplan cX12_unplan 3 (some .boolean) rmX12_unplan M (fun G ad => [.ref (ad (jm_r wd2 0 0)), jm_i l1]) (fX12_unplan fu M l1) := by
  refine jm_met_i (fun X => [(0, jm_vr wd2 X 0 0), (1, jm_i l1)]) (by decide) (fun _ _ => (Nat.le_of_ble_eq_true rfl)) (fun _ => rfl) (fun X => ?_)
  unfold fX12_unplan
  refine j_aload_n (pc := 0) dX12_unplan_0 rfl (q := 0) rfl ?_
  refine j_iconst (pc := 1) dX12_unplan_1 ?_
  refine j_put (pc := 2) jv2_0 jm_01 kf_RX12_3 wI2 kp_X12_0 kx2_0_0 (jm_inL (by decide) (by decide)) rfl rfl dX12_unplan_2 (fun M1 => ?_)
  refine j_aload_n (pc := 5) dX12_unplan_5 rfl (q := 0) rfl ?_
  refine j_iload_n (pc := 6) dX12_unplan_6 rfl (q := 1) rfl ?_
  refine j_callVi1 (pc := 7) (ct_X12_isCar M1 l1 hl1) kg_1405 km_X12_isCar kv_X12_isCar rfl rfl ⟨(Nat.le_of_ble_eq_true rfl), (Nat.le_of_ble_eq_true rfl)⟩ jv2_0 jm_01 ko2_0 rfl rfl (Nat.le_of_ble_eq_true rfl) dX12_unplan_7 (fun v2 M3 h4 => ?_)
  refine j_if_eq (tgt := 26) (pc := 10) h4 dX12_unplan_10 (by decide) (fun c5 => ?_) (fun c5 => ?_)
  · skip
    refine j_iconst (pc := 26) dX12_unplan_26 ?_
    refine j_sub (pc := 27) [(0, jm_vr wd2 X 0 0), (1, jm_i l1)] [0, 1] rfl ?_
    exact bX12_unplan_27 X fu  M3 l1 0 hl1 (jm_inL (by decide) (by decide))
  · skip
    refine j_aload_n (pc := 13) dX12_unplan_13 rfl (q := 0) rfl ?_
    refine j_getr (pc := 14) jv2_0 jm_01 kf_RX12_142 0 kg2_0_35 rfl dX12_unplan_14 ?_
    refine j_iload_n (pc := 17) dX12_unplan_17 rfl (q := 1) rfl ?_
    refine j_bald (pc := 18) jv2_30 jm_01 rfl (by decide) ka2_30 dX12_unplan_18 (fun c6 h7 => ?_)
    refine j_if_eq (tgt := 26) (pc := 19) h7 dX12_unplan_19 (by decide) (fun c8 => ?_) (fun c8 => ?_)
    · skip
      refine j_iconst (pc := 26) dX12_unplan_26 ?_
      refine j_sub (pc := 27) [(0, jm_vr wd2 X 0 0), (1, jm_i l1)] [0, 1] rfl ?_
      exact bX12_unplan_27 X fu  M3 l1 0 hl1 (jm_inL (by decide) (by decide))
    · skip
      refine j_iconst (pc := 22) dX12_unplan_22 ?_
      refine j_goto (tgt := 27) (pc := 23) dX12_unplan_23 (by decide) ?_
      refine j_sub (pc := 27) [(0, jm_vr wd2 X 0 0), (1, jm_i l1)] [0, 1] rfl ?_
      exact bX12_unplan_27 X fu  M3 l1 1 hl1 (jm_inL (by decide) (by decide))
abbrev rmX12_count : Room := { frames := 0, cells := 0, slots := 0, locals := 0 }
set_option maxHeartbeats 4000000 in
set_option maxRecDepth 100000 in
theorem b0X12_count_9 (X : jm_X) (fu : Nat) (k9 : jm_M → Int → Int → Int → jm_R) (hk9 : ∀ (M : jm_M) (l1 l2 l3 : Int) (hl1 : jm_in l1) (hl2 : jm_in l2) (hl3 : jm_in l3), jm_J wd2 (jm_qi .int) cX12_count 4 RX12 rmX12_count X M [(0, jm_vr wd2 X 0 0), (1, jm_i l1), (2, jm_i l2), (3, jm_i l3)] [] 9 (k9 M l1 l2 l3)) : ∀ (M : jm_M) (l1 l2 l3 : Int) (hl1 : jm_in l1) (hl2 : jm_in l2) (hl3 : jm_in l3), jm_J wd2 (jm_qi .int) cX12_count 4 RX12 rmX12_count X M [(0, jm_vr wd2 X 0 0), (1, jm_i l1), (2, jm_i l2), (3, jm_i l3)] [] 9 (gX12_count_9 fu k9 M l1 l2 l3) := by
  intro M l1 l2 l3 hl1 hl2 hl3
  unfold gX12_count_9
  refine j_iload_n (pc := 9) dX12_count_9 rfl (q := 3) rfl ?_
  refine j_aload_n (pc := 10) dX12_count_10 rfl (q := 0) rfl ?_
  refine j_geti (pc := 11) jv2_0 jm_01 kf_RX12_30 kg2_0_17 dX12_count_11 (fun h1 => ?_)
  refine j_icmp_ge (tgt := 32) (pc := 14) hl3 h1 dX12_count_14 (by decide) (fun c2 => ?_) (fun c2 => ?_)
  · skip
    refine j_iload_n (pc := 32) dX12_count_32 rfl (q := 1) rfl ?_
    refine j_ite (pc := 33) (fun c3 => ?_) (fun c3 => ?_)
    · skip
      refine j_tabIn (off := (55)) (tgt := 88) (pc := 33) 0 hl1 dX12_count_33 c3 (by decide) (by decide) rfl (by decide) ?_
      refine j_aload_n (pc := 88) dX12_count_88 rfl (q := 0) rfl ?_
      refine j_geti (pc := 89) jv2_0 jm_01 kf_RX12_7 kg2_0_1 dX12_count_89 (fun h4 => ?_)
      exact j_iret (pc := 92) h4 rfl dX12_count_92
    · skip
      refine j_ite (pc := 33) (fun c5 => ?_) (fun c5 => ?_)
      · skip
        refine j_tabIn (off := (60)) (tgt := 93) (pc := 33) 1 hl1 dX12_count_33 c5 (by decide) (by decide) rfl (by decide) ?_
        refine j_aload_n (pc := 93) dX12_count_93 rfl (q := 0) rfl ?_
        refine j_geti (pc := 94) jv2_0 jm_01 kf_RX12_10 kg2_0_2 dX12_count_94 (fun h6 => ?_)
        exact j_iret (pc := 97) h6 rfl dX12_count_97
      · skip
        refine j_ite (pc := 33) (fun c7 => ?_) (fun c7 => ?_)
        · skip
          refine j_tabIn (off := (65)) (tgt := 98) (pc := 33) 2 hl1 dX12_count_33 c7 (by decide) (by decide) rfl (by decide) ?_
          refine j_aload_n (pc := 98) dX12_count_98 rfl (q := 0) rfl ?_
          refine j_geti (pc := 99) jv2_0 jm_01 kf_RX12_30 kg2_0_17 dX12_count_99 (fun h8 => ?_)
          exact j_iret (pc := 102) h8 rfl dX12_count_102
        · skip
          refine j_ite (pc := 33) (fun c9 => ?_) (fun c9 => ?_)
          · skip
            refine j_tabIn (off := (70)) (tgt := 103) (pc := 33) 3 hl1 dX12_count_33 c9 (by decide) (by decide) rfl (by decide) ?_
            refine j_aload_n (pc := 103) dX12_count_103 rfl (q := 0) rfl ?_
            refine j_geti (pc := 104) jv2_0 jm_01 kf_RX12_24 kg2_0_8 dX12_count_104 (fun h10 => ?_)
            exact j_iret (pc := 107) h10 rfl dX12_count_107
          · skip
            refine j_ite (pc := 33) (fun c11 => ?_) (fun c11 => ?_)
            · skip
              refine j_tabIn (off := (75)) (tgt := 108) (pc := 33) 4 hl1 dX12_count_33 c11 (by decide) (by decide) rfl (by decide) ?_
              refine j_aload_n (pc := 108) dX12_count_108 rfl (q := 0) rfl ?_
              refine j_geti (pc := 109) jv2_0 jm_01 kf_RX12_27 kg2_0_12 dX12_count_109 (fun h12 => ?_)
              exact j_iret (pc := 112) h12 rfl dX12_count_112
            · skip
              refine j_ite (pc := 33) (fun c13 => ?_) (fun c13 => ?_)
              · skip
                refine j_tabIn (off := (80)) (tgt := 113) (pc := 33) 5 hl1 dX12_count_33 c13 (by decide) (by decide) rfl (by decide) ?_
                refine j_aload_n (pc := 113) dX12_count_113 rfl (q := 0) rfl ?_
                refine j_geti (pc := 114) jv2_0 jm_01 kf_RX12_33 kg2_0_72 dX12_count_114 (fun h14 => ?_)
                exact j_iret (pc := 117) h14 rfl dX12_count_117
              · skip
                refine j_ite (pc := 33) (fun c15 => ?_) (fun c15 => ?_)
                · skip
                  refine j_tabIn (off := (85)) (tgt := 118) (pc := 33) 6 hl1 dX12_count_33 c15 (by decide) (by decide) rfl (by decide) ?_
                  refine j_aload_n (pc := 118) dX12_count_118 rfl (q := 0) rfl ?_
                  refine j_geti (pc := 119) jv2_0 jm_01 kf_RX12_36 kg2_0_75 dX12_count_119 (fun h16 => ?_)
                  exact j_iret (pc := 122) h16 rfl dX12_count_122
                · skip
                  refine j_ite (pc := 33) (fun c17 => ?_) (fun c17 => ?_)
                  · skip
                    refine j_tabIn (off := (90)) (tgt := 123) (pc := 33) 7 hl1 dX12_count_33 c17 (by decide) (by decide) rfl (by decide) ?_
                    refine j_aload_n (pc := 123) dX12_count_123 rfl (q := 0) rfl ?_
                    refine j_geti (pc := 124) jv2_0 jm_01 kf_RX12_185 kg2_0_82 dX12_count_124 (fun h18 => ?_)
                    exact j_iret (pc := 127) h18 rfl dX12_count_127
                  · skip
                    refine j_ite (pc := 33) (fun c19 => ?_) (fun c19 => ?_)
                    · skip
                      refine j_tabIn (off := (95)) (tgt := 128) (pc := 33) 8 hl1 dX12_count_33 c19 (by decide) (by decide) rfl (by decide) ?_
                      refine j_aload_n (pc := 128) dX12_count_128 rfl (q := 0) rfl ?_
                      refine j_geti (pc := 129) jv2_0 jm_01 kf_RX12_188 kg2_0_40 dX12_count_129 (fun h20 => ?_)
                      exact j_iret (pc := 132) h20 rfl dX12_count_132
                    · skip
                      refine j_ite (pc := 33) (fun c21 => ?_) (fun c21 => ?_)
                      · skip
                        refine j_tabIn (off := (100)) (tgt := 133) (pc := 33) 9 hl1 dX12_count_33 c21 (by decide) (by decide) rfl (by decide) ?_
                        refine j_iload_n (pc := 133) dX12_count_133 rfl (q := 2) rfl ?_
                        exact j_iret (pc := 134) hl2 rfl dX12_count_134
                      · skip
                        refine j_tabOut (tgt := 135) (pc := 33) hl1 dX12_count_33 (by omega) (by decide) ?_
                        refine j_iconst (pc := 135) dX12_count_135 ?_
                        exact j_iret (pc := 136) (jm_inL (by decide) (by decide)) rfl dX12_count_136
  · skip
    refine j_iload_n (pc := 17) dX12_count_17 rfl (q := 2) rfl ?_
    refine j_aload_n (pc := 18) dX12_count_18 rfl (q := 0) rfl ?_
    refine j_getr (pc := 19) jv2_0 jm_01 kf_RX12_39 0 kg2_0_36 rfl dX12_count_19 ?_
    refine j_iload_n (pc := 22) dX12_count_22 rfl (q := 3) rfl ?_
    refine j_iald (pc := 23) jv2_31 jm_01 rfl (by decide) ka2_31 dX12_count_23 (fun c22 h23 => ?_)
    refine j_iadd (pc := 24) dX12_count_24 ?_
    refine j_nm (pc := 25) (jm_w_in _) (fun v24 h25 => ?_)
    refine j_istore_n (pc := 25) [(2, jm_i v24), (0, jm_vr wd2 X 0 0), (1, jm_i l1), (3, jm_i l3)] dX12_count_25 rfl (by decide) rfl ?_
    refine j_iinc (pc := 26) [(2, jm_i v24), (0, jm_vr wd2 X 0 0), (1, jm_i l1)] (q := 3) dX12_count_26 rfl (by decide) (fun _ => rfl) (fun v26 h27 => ?_)
    refine j_goto (tgt := 9) (pc := 29) dX12_count_29 (by decide) ?_
    refine j_sub (pc := 9) [(0, jm_vr wd2 X 0 0), (1, jm_i l1), (2, jm_i v24), (3, jm_i v26)] [2, 3, 1, 0] rfl ?_
    exact hk9 M l1 v24 v26 hl1 h25 h27
theorem bX12_count_9 (X : jm_X) (fu : Nat) : ∀ (n : Nat) (M : jm_M) (l1 l2 l3 : Int) (hl1 : jm_in l1) (hl2 : jm_in l2) (hl3 : jm_in l3), jm_J wd2 (jm_qi .int) cX12_count 4 RX12 rmX12_count X M [(0, jm_vr wd2 X 0 0), (1, jm_i l1), (2, jm_i l2), (3, jm_i l3)] [] 9 (fX12_count_9 fu n M l1 l2 l3) := by
  intro n
  induction n with
  | zero => intro M l1 l2 l3 hl1 hl2 hl3; exact j_none
  | succ n ih => intro M l1 l2 l3 hl1 hl2 hl3; exact b0X12_count_9 X fu (fX12_count_9 fu n) ih M l1 l2 l3 hl1 hl2 hl3
set_option maxHeartbeats 4000000 in
set_option maxRecDepth 100000 in
theorem ct_X12_count (fu : Nat) (M : jm_M) (l1 : Int) (hl1 : jm_in l1) : jm_Ci wd2 yX12_count cX12_count 4 (some .int) rmX12_count M (fun G ad => [.ref (ad (jm_r wd2 0 0)), jm_i l1]) (fX12_count fu M l1) := by
  refine jm_met_i (fun X => [(0, jm_vr wd2 X 0 0), (1, jm_i l1)]) (by decide) (fun _ _ => (Nat.le_of_ble_eq_true rfl)) (fun _ => rfl) (fun X => ?_)
  unfold fX12_count
  refine j_aload_n (pc := 0) dX12_count_0 rfl (q := 0) rfl ?_
  refine j_iconst (pc := 1) dX12_count_1 ?_
  refine j_put (pc := 2) jv2_0 jm_01 kf_RX12_3 wI2 kp_X12_0 kx2_0_0 (jm_inL (by decide) (by decide)) rfl rfl dX12_count_2 (fun M1 => ?_)
  refine j_iconst (pc := 5) dX12_count_5 ?_
  refine j_istore_n (pc := 6) [(2, jm_i 0), (0, jm_vr wd2 X 0 0), (1, jm_i l1)] dX12_count_6 rfl (by decide) rfl ?_
  refine j_iconst (pc := 7) dX12_count_7 ?_
  refine j_istore_n (pc := 8) [(3, jm_i 0), (2, jm_i 0), (0, jm_vr wd2 X 0 0), (1, jm_i l1)] dX12_count_8 rfl (by decide) rfl ?_
  refine j_sub (pc := 9) [(0, jm_vr wd2 X 0 0), (1, jm_i l1), (2, jm_i 0), (3, jm_i 0)] [2, 3, 1, 0] rfl ?_
  exact bX12_count_9 X fu  fu M1 l1 0 0 hl1 (jm_inL (by decide) (by decide)) (jm_inL (by decide) (by decide))
abbrev rmX12_refuse : Room := { frames := 0, cells := 0, slots := 0, locals := 0 }
set_option maxHeartbeats 4000000 in
set_option maxRecDepth 100000 in
theorem ct_X12_refuse (M : jm_M) : jm_Ci wd2 yX12_refuse cX12_refuse 1 (some .int) rmX12_refuse M (fun G ad => [.ref (ad (jm_r wd2 0 0))]) (fX12_refuse M ) := by
  refine jm_met_i (fun X => [(0, jm_vr wd2 X 0 0)]) (by decide) (fun _ _ => (Nat.le_of_ble_eq_true rfl)) (fun _ => rfl) (fun X => ?_)
  unfold fX12_refuse
  refine j_aload_n (pc := 0) dX12_refuse_0 rfl (q := 0) rfl ?_
  refine j_iconst (pc := 1) dX12_refuse_1 ?_
  refine j_put (pc := 2) jv2_0 jm_01 kf_RX12_3 wI2 kp_X12_0 kx2_0_0 (jm_inL (by decide) (by decide)) rfl rfl dX12_refuse_2 (fun M1 => ?_)
  refine j_iconst (pc := 5) dX12_refuse_5 ?_
  exact j_iret (pc := 6) (jm_inL (by decide) (by decide)) rfl dX12_refuse_6
abbrev rmX12_starts : Room := { frames := 0, cells := 0, slots := 0, locals := 0 }
set_option maxHeartbeats 4000000 in
set_option maxRecDepth 100000 in
theorem b0X12_starts_273 (X : jm_X) (fu : Nat) (k31 : jm_M → Int → jm_R) (k273 : jm_M → Int → Int → jm_R) (hk31 : ∀ (M : jm_M) (l1 : Int) (hl1 : jm_in l1), jm_J wd2 jm_qv cX12_starts 3 RX12 rmX12_starts X M [(0, jm_vr wd2 X 0 0), (1, jm_i l1)] [] 31 (k31 M l1)) (hk273 : ∀ (M : jm_M) (l1 l2 : Int) (hl1 : jm_in l1) (hl2 : jm_in l2), jm_J wd2 jm_qv cX12_starts 3 RX12 rmX12_starts X M [(0, jm_vr wd2 X 0 0), (1, jm_i l1), (2, jm_i l2)] [] 273 (k273 M l1 l2)) : ∀ (M : jm_M) (l1 l2 : Int) (hl1 : jm_in l1) (hl2 : jm_in l2), jm_J wd2 jm_qv cX12_starts 3 RX12 rmX12_starts X M [(0, jm_vr wd2 X 0 0), (1, jm_i l1), (2, jm_i l2)] [] 273 (gX12_starts_273 fu k31 k273 M l1 l2) := by
  intro M l1 l2 hl1 hl2
  unfold gX12_starts_273
  refine j_iload_n (pc := 273) dX12_starts_273 rfl (q := 2) rfl ?_
  refine j_bipush (pc := 274) 12 dX12_starts_274 (by decide) ?_
  refine j_icmp_ge (tgt := 297) (pc := 276) hl2 (jm_inL (by decide) (by decide)) dX12_starts_276 (by decide) (fun c1 => ?_) (fun c1 => ?_)
  · skip
    refine j_iinc (pc := 297) [(0, jm_vr wd2 X 0 0), (2, jm_i l2)] (q := 1) dX12_starts_297 rfl (by decide) (fun _ => rfl) (fun v2 h3 => ?_)
    refine j_goto (tgt := 31) (pc := 300) dX12_starts_300 (by decide) ?_
    refine j_sub (pc := 31) [(0, jm_vr wd2 X 0 0), (1, jm_i v2)] [1, 0] rfl ?_
    exact hk31 M v2 h3
  · skip
    refine j_aload_n (pc := 279) dX12_starts_279 rfl (q := 0) rfl ?_
    refine j_getr (pc := 280) jv2_0 jm_01 kf_RX12_369 0 kg2_0_69 rfl dX12_starts_280 ?_
    refine j_bipush (pc := 283) 12 dX12_starts_283 (by decide) ?_
    refine j_iload_n (pc := 285) dX12_starts_285 rfl (q := 1) rfl ?_
    refine j_imul (pc := 286) dX12_starts_286 ?_
    refine j_iload_n (pc := 287) dX12_starts_287 rfl (q := 2) rfl ?_
    refine j_iadd (pc := 288) dX12_starts_288 ?_
    refine j_iconst (pc := 289) dX12_starts_289 ?_
    refine j_iast (pc := 290) jv2_59 jm_01 rfl (by decide) wI2 ka2_59 (jm_inL (by decide) (by decide)) dX12_starts_290 (fun c4 M5 => ?_)
    refine j_iinc (pc := 291) [(0, jm_vr wd2 X 0 0), (1, jm_i l1)] (q := 2) dX12_starts_291 rfl (by decide) (fun _ => rfl) (fun v6 h7 => ?_)
    refine j_goto (tgt := 273) (pc := 294) dX12_starts_294 (by decide) ?_
    refine j_sub (pc := 273) [(0, jm_vr wd2 X 0 0), (1, jm_i l1), (2, jm_i v6)] [1, 2, 0] rfl ?_
    exact hk273 M5 l1 v6 hl1 h7
theorem bX12_starts_273 (X : jm_X) (fu : Nat) (k31 : jm_M → Int → jm_R) (hk31 : ∀ (M : jm_M) (l1 : Int) (hl1 : jm_in l1), jm_J wd2 jm_qv cX12_starts 3 RX12 rmX12_starts X M [(0, jm_vr wd2 X 0 0), (1, jm_i l1)] [] 31 (k31 M l1)) : ∀ (n : Nat) (M : jm_M) (l1 l2 : Int) (hl1 : jm_in l1) (hl2 : jm_in l2), jm_J wd2 jm_qv cX12_starts 3 RX12 rmX12_starts X M [(0, jm_vr wd2 X 0 0), (1, jm_i l1), (2, jm_i l2)] [] 273 (fX12_starts_273 fu k31 n M l1 l2) := by
  intro n
  induction n with
  | zero => intro M l1 l2 hl1 hl2; exact j_none
  | succ n ih => intro M l1 l2 hl1 hl2; exact b0X12_starts_273 X fu k31 (fX12_starts_273 fu k31 n) hk31 ih M l1 l2 hl1 hl2
set_option maxHeartbeats 4000000 in
set_option maxRecDepth 100000 in
theorem b0X12_starts_249 (X : jm_X) (fu : Nat) (k31 : jm_M → Int → jm_R) (k249 : jm_M → Int → Int → jm_R) (hk31 : ∀ (M : jm_M) (l1 : Int) (hl1 : jm_in l1), jm_J wd2 jm_qv cX12_starts 3 RX12 rmX12_starts X M [(0, jm_vr wd2 X 0 0), (1, jm_i l1)] [] 31 (k31 M l1)) (hk249 : ∀ (M : jm_M) (l1 l2 : Int) (hl1 : jm_in l1) (hl2 : jm_in l2), jm_J wd2 jm_qv cX12_starts 3 RX12 rmX12_starts X M [(0, jm_vr wd2 X 0 0), (1, jm_i l1), (2, jm_i l2)] [] 249 (k249 M l1 l2)) : ∀ (M : jm_M) (l1 l2 : Int) (hl1 : jm_in l1) (hl2 : jm_in l2), jm_J wd2 jm_qv cX12_starts 3 RX12 rmX12_starts X M [(0, jm_vr wd2 X 0 0), (1, jm_i l1), (2, jm_i l2)] [] 249 (gX12_starts_249 fu k31 k249 M l1 l2) := by
  intro M l1 l2 hl1 hl2
  unfold gX12_starts_249
  refine j_iload_n (pc := 249) dX12_starts_249 rfl (q := 2) rfl ?_
  refine j_iconst (pc := 250) dX12_starts_250 ?_
  refine j_icmp_ge (tgt := 271) (pc := 251) hl2 (jm_inL (by decide) (by decide)) dX12_starts_251 (by decide) (fun c1 => ?_) (fun c1 => ?_)
  · skip
    refine j_iconst (pc := 271) dX12_starts_271 ?_
    refine j_istore_n (pc := 272) [(2, jm_i 0), (0, jm_vr wd2 X 0 0), (1, jm_i l1)] dX12_starts_272 rfl (by decide) rfl ?_
    refine j_sub (pc := 273) [(0, jm_vr wd2 X 0 0), (1, jm_i l1), (2, jm_i 0)] [1, 2, 0] rfl ?_
    exact bX12_starts_273 X fu k31 hk31 fu M l1 0 hl1 (jm_inL (by decide) (by decide))
  · skip
    refine j_aload_n (pc := 254) dX12_starts_254 rfl (q := 0) rfl ?_
    refine j_getr (pc := 255) jv2_0 jm_01 kf_RX12_366 0 kg2_0_66 rfl dX12_starts_255 ?_
    refine j_iconst (pc := 258) dX12_starts_258 ?_
    refine j_iload_n (pc := 259) dX12_starts_259 rfl (q := 1) rfl ?_
    refine j_imul (pc := 260) dX12_starts_260 ?_
    refine j_iload_n (pc := 261) dX12_starts_261 rfl (q := 2) rfl ?_
    refine j_iadd (pc := 262) dX12_starts_262 ?_
    refine j_iconst (pc := 263) dX12_starts_263 ?_
    refine j_iast (pc := 264) jv2_56 jm_01 rfl (by decide) wI2 ka2_56 (jm_inL (by decide) (by decide)) dX12_starts_264 (fun c2 M3 => ?_)
    refine j_iinc (pc := 265) [(0, jm_vr wd2 X 0 0), (1, jm_i l1)] (q := 2) dX12_starts_265 rfl (by decide) (fun _ => rfl) (fun v4 h5 => ?_)
    refine j_goto (tgt := 249) (pc := 268) dX12_starts_268 (by decide) ?_
    refine j_sub (pc := 249) [(0, jm_vr wd2 X 0 0), (1, jm_i l1), (2, jm_i v4)] [1, 2, 0] rfl ?_
    exact hk249 M3 l1 v4 hl1 h5
theorem bX12_starts_249 (X : jm_X) (fu : Nat) (k31 : jm_M → Int → jm_R) (hk31 : ∀ (M : jm_M) (l1 : Int) (hl1 : jm_in l1), jm_J wd2 jm_qv cX12_starts 3 RX12 rmX12_starts X M [(0, jm_vr wd2 X 0 0), (1, jm_i l1)] [] 31 (k31 M l1)) : ∀ (n : Nat) (M : jm_M) (l1 l2 : Int) (hl1 : jm_in l1) (hl2 : jm_in l2), jm_J wd2 jm_qv cX12_starts 3 RX12 rmX12_starts X M [(0, jm_vr wd2 X 0 0), (1, jm_i l1), (2, jm_i l2)] [] 249 (fX12_starts_249 fu k31 n M l1 l2) := by
  intro n
  induction n with
  | zero => intro M l1 l2 hl1 hl2; exact j_none
  | succ n ih => intro M l1 l2 hl1 hl2; exact b0X12_starts_249 X fu k31 (fX12_starts_249 fu k31 n) hk31 ih M l1 l2 hl1 hl2
set_option maxHeartbeats 4000000 in
set_option maxRecDepth 100000 in
theorem b0X12_starts_223 (X : jm_X) (fu : Nat) (k31 : jm_M → Int → jm_R) (k223 : jm_M → Int → Int → jm_R) (hk31 : ∀ (M : jm_M) (l1 : Int) (hl1 : jm_in l1), jm_J wd2 jm_qv cX12_starts 3 RX12 rmX12_starts X M [(0, jm_vr wd2 X 0 0), (1, jm_i l1)] [] 31 (k31 M l1)) (hk223 : ∀ (M : jm_M) (l1 l2 : Int) (hl1 : jm_in l1) (hl2 : jm_in l2), jm_J wd2 jm_qv cX12_starts 3 RX12 rmX12_starts X M [(0, jm_vr wd2 X 0 0), (1, jm_i l1), (2, jm_i l2)] [] 223 (k223 M l1 l2)) : ∀ (M : jm_M) (l1 l2 : Int) (hl1 : jm_in l1) (hl2 : jm_in l2), jm_J wd2 jm_qv cX12_starts 3 RX12 rmX12_starts X M [(0, jm_vr wd2 X 0 0), (1, jm_i l1), (2, jm_i l2)] [] 223 (gX12_starts_223 fu k31 k223 M l1 l2) := by
  intro M l1 l2 hl1 hl2
  unfold gX12_starts_223
  refine j_iload_n (pc := 223) dX12_starts_223 rfl (q := 2) rfl ?_
  refine j_bipush (pc := 224) 60 dX12_starts_224 (by decide) ?_
  refine j_icmp_ge (tgt := 247) (pc := 226) hl2 (jm_inL (by decide) (by decide)) dX12_starts_226 (by decide) (fun c1 => ?_) (fun c1 => ?_)
  · skip
    refine j_iconst (pc := 247) dX12_starts_247 ?_
    refine j_istore_n (pc := 248) [(2, jm_i 0), (0, jm_vr wd2 X 0 0), (1, jm_i l1)] dX12_starts_248 rfl (by decide) rfl ?_
    refine j_sub (pc := 249) [(0, jm_vr wd2 X 0 0), (1, jm_i l1), (2, jm_i 0)] [1, 2, 0] rfl ?_
    exact bX12_starts_249 X fu k31 hk31 fu M l1 0 hl1 (jm_inL (by decide) (by decide))
  · skip
    refine j_aload_n (pc := 229) dX12_starts_229 rfl (q := 0) rfl ?_
    refine j_getr (pc := 230) jv2_0 jm_01 kf_RX12_363 0 kg2_0_65 rfl dX12_starts_230 ?_
    refine j_bipush (pc := 233) 60 dX12_starts_233 (by decide) ?_
    refine j_iload_n (pc := 235) dX12_starts_235 rfl (q := 1) rfl ?_
    refine j_imul (pc := 236) dX12_starts_236 ?_
    refine j_iload_n (pc := 237) dX12_starts_237 rfl (q := 2) rfl ?_
    refine j_iadd (pc := 238) dX12_starts_238 ?_
    refine j_iconst (pc := 239) dX12_starts_239 ?_
    refine j_iast (pc := 240) jv2_55 jm_01 rfl (by decide) wI2 ka2_55 (jm_inL (by decide) (by decide)) dX12_starts_240 (fun c2 M3 => ?_)
    refine j_iinc (pc := 241) [(0, jm_vr wd2 X 0 0), (1, jm_i l1)] (q := 2) dX12_starts_241 rfl (by decide) (fun _ => rfl) (fun v4 h5 => ?_)
    refine j_goto (tgt := 223) (pc := 244) dX12_starts_244 (by decide) ?_
    refine j_sub (pc := 223) [(0, jm_vr wd2 X 0 0), (1, jm_i l1), (2, jm_i v4)] [1, 2, 0] rfl ?_
    exact hk223 M3 l1 v4 hl1 h5
theorem bX12_starts_223 (X : jm_X) (fu : Nat) (k31 : jm_M → Int → jm_R) (hk31 : ∀ (M : jm_M) (l1 : Int) (hl1 : jm_in l1), jm_J wd2 jm_qv cX12_starts 3 RX12 rmX12_starts X M [(0, jm_vr wd2 X 0 0), (1, jm_i l1)] [] 31 (k31 M l1)) : ∀ (n : Nat) (M : jm_M) (l1 l2 : Int) (hl1 : jm_in l1) (hl2 : jm_in l2), jm_J wd2 jm_qv cX12_starts 3 RX12 rmX12_starts X M [(0, jm_vr wd2 X 0 0), (1, jm_i l1), (2, jm_i l2)] [] 223 (fX12_starts_223 fu k31 n M l1 l2) := by
  intro n
  induction n with
  | zero => intro M l1 l2 hl1 hl2; exact j_none
  | succ n ih => intro M l1 l2 hl1 hl2; exact b0X12_starts_223 X fu k31 (fX12_starts_223 fu k31 n) hk31 ih M l1 l2 hl1 hl2
set_option maxHeartbeats 4000000 in
set_option maxRecDepth 100000 in
theorem b0X12_starts_190 (X : jm_X) (fu : Nat) (k31 : jm_M → Int → jm_R) (k190 : jm_M → Int → Int → jm_R) (hk31 : ∀ (M : jm_M) (l1 : Int) (hl1 : jm_in l1), jm_J wd2 jm_qv cX12_starts 3 RX12 rmX12_starts X M [(0, jm_vr wd2 X 0 0), (1, jm_i l1)] [] 31 (k31 M l1)) (hk190 : ∀ (M : jm_M) (l1 l2 : Int) (hl1 : jm_in l1) (hl2 : jm_in l2), jm_J wd2 jm_qv cX12_starts 3 RX12 rmX12_starts X M [(0, jm_vr wd2 X 0 0), (1, jm_i l1), (2, jm_i l2)] [] 190 (k190 M l1 l2)) : ∀ (M : jm_M) (l1 l2 : Int) (hl1 : jm_in l1) (hl2 : jm_in l2), jm_J wd2 jm_qv cX12_starts 3 RX12 rmX12_starts X M [(0, jm_vr wd2 X 0 0), (1, jm_i l1), (2, jm_i l2)] [] 190 (gX12_starts_190 fu k31 k190 M l1 l2) := by
  intro M l1 l2 hl1 hl2
  unfold gX12_starts_190
  refine j_iload_n (pc := 190) dX12_starts_190 rfl (q := 2) rfl ?_
  refine j_iconst (pc := 191) dX12_starts_191 ?_
  refine j_icmp_ge (tgt := 221) (pc := 192) hl2 (jm_inL (by decide) (by decide)) dX12_starts_192 (by decide) (fun c1 => ?_) (fun c1 => ?_)
  · skip
    refine j_iconst (pc := 221) dX12_starts_221 ?_
    refine j_istore_n (pc := 222) [(2, jm_i 0), (0, jm_vr wd2 X 0 0), (1, jm_i l1)] dX12_starts_222 rfl (by decide) rfl ?_
    refine j_sub (pc := 223) [(0, jm_vr wd2 X 0 0), (1, jm_i l1), (2, jm_i 0)] [1, 2, 0] rfl ?_
    exact bX12_starts_223 X fu k31 hk31 fu M l1 0 hl1 (jm_inL (by decide) (by decide))
  · skip
    refine j_aload_n (pc := 195) dX12_starts_195 rfl (q := 0) rfl ?_
    refine j_getr (pc := 196) jv2_0 jm_01 kf_RX12_360 0 kg2_0_56 rfl dX12_starts_196 ?_
    refine j_iconst (pc := 199) dX12_starts_199 ?_
    refine j_iload_n (pc := 200) dX12_starts_200 rfl (q := 1) rfl ?_
    refine j_imul (pc := 201) dX12_starts_201 ?_
    refine j_iload_n (pc := 202) dX12_starts_202 rfl (q := 2) rfl ?_
    refine j_iadd (pc := 203) dX12_starts_203 ?_
    refine j_aload_n (pc := 204) dX12_starts_204 rfl (q := 0) rfl ?_
    refine j_getr (pc := 205) jv2_0 jm_01 kf_RX12_151 0 kg2_0_26 rfl dX12_starts_205 ?_
    refine j_iconst (pc := 208) dX12_starts_208 ?_
    refine j_iload_n (pc := 209) dX12_starts_209 rfl (q := 1) rfl ?_
    refine j_imul (pc := 210) dX12_starts_210 ?_
    refine j_iload_n (pc := 211) dX12_starts_211 rfl (q := 2) rfl ?_
    refine j_iadd (pc := 212) dX12_starts_212 ?_
    refine j_iald (pc := 213) jv2_21 jm_01 rfl (by decide) ka2_21 dX12_starts_213 (fun c2 h3 => ?_)
    refine j_iast (pc := 214) jv2_46 jm_01 rfl (by decide) wI2 ka2_46 h3 dX12_starts_214 (fun c4 M5 => ?_)
    refine j_iinc (pc := 215) [(0, jm_vr wd2 X 0 0), (1, jm_i l1)] (q := 2) dX12_starts_215 rfl (by decide) (fun _ => rfl) (fun v6 h7 => ?_)
    refine j_goto (tgt := 190) (pc := 218) dX12_starts_218 (by decide) ?_
    refine j_sub (pc := 190) [(0, jm_vr wd2 X 0 0), (1, jm_i l1), (2, jm_i v6)] [1, 2, 0] rfl ?_
    exact hk190 M5 l1 v6 hl1 h7
theorem bX12_starts_190 (X : jm_X) (fu : Nat) (k31 : jm_M → Int → jm_R) (hk31 : ∀ (M : jm_M) (l1 : Int) (hl1 : jm_in l1), jm_J wd2 jm_qv cX12_starts 3 RX12 rmX12_starts X M [(0, jm_vr wd2 X 0 0), (1, jm_i l1)] [] 31 (k31 M l1)) : ∀ (n : Nat) (M : jm_M) (l1 l2 : Int) (hl1 : jm_in l1) (hl2 : jm_in l2), jm_J wd2 jm_qv cX12_starts 3 RX12 rmX12_starts X M [(0, jm_vr wd2 X 0 0), (1, jm_i l1), (2, jm_i l2)] [] 190 (fX12_starts_190 fu k31 n M l1 l2) := by
  intro n
  induction n with
  | zero => intro M l1 l2 hl1 hl2; exact j_none
  | succ n ih => intro M l1 l2 hl1 hl2; exact b0X12_starts_190 X fu k31 (fX12_starts_190 fu k31 n) hk31 ih M l1 l2 hl1 hl2
set_option maxHeartbeats 4000000 in
set_option maxRecDepth 100000 in
theorem bX12_starts_131 (X : jm_X) (fu : Nat) (k31 : jm_M → Int → jm_R) (hk31 : ∀ (M : jm_M) (l1 : Int) (hl1 : jm_in l1), jm_J wd2 jm_qv cX12_starts 3 RX12 rmX12_starts X M [(0, jm_vr wd2 X 0 0), (1, jm_i l1)] [] 31 (k31 M l1)) : ∀ (M : jm_M) (l1 s0 s1 : Int) (hl1 : jm_in l1) (hs0 : jm_in s0) (hs1 : jm_in s1), jm_J wd2 jm_qv cX12_starts 3 RX12 rmX12_starts X M [(0, jm_vr wd2 X 0 0), (1, jm_i l1)] [jm_i s0, jm_i s1, jm_vr wd2 X 45 0] 131 (gX12_starts_131 fu k31 M l1 s0 s1) := by
  intro M l1 s0 s1 hl1 hs0 hs1
  unfold gX12_starts_131
  refine j_iast (pc := 131) jv2_45 jm_01 rfl (by decide) wI2 ka2_45 hs0 dX12_starts_131 (fun c1 M2 => ?_)
  refine j_aload_n (pc := 132) dX12_starts_132 rfl (q := 0) rfl ?_
  refine j_getr (pc := 133) jv2_0 jm_01 kf_RX12_336 0 kg2_0_57 rfl dX12_starts_133 ?_
  refine j_iload_n (pc := 136) dX12_starts_136 rfl (q := 1) rfl ?_
  refine j_iconst (pc := 137) dX12_starts_137 ?_
  refine j_iast (pc := 138) jv2_47 jm_01 rfl (by decide) wI2 ka2_47 (jm_inL (by decide) (by decide)) dX12_starts_138 (fun c3 M4 => ?_)
  refine j_aload_n (pc := 139) dX12_starts_139 rfl (q := 0) rfl ?_
  refine j_getr (pc := 140) jv2_0 jm_01 kf_RX12_339 0 kg2_0_58 rfl dX12_starts_140 ?_
  refine j_iload_n (pc := 143) dX12_starts_143 rfl (q := 1) rfl ?_
  refine j_iconst (pc := 144) dX12_starts_144 ?_
  refine j_iast (pc := 145) jv2_48 jm_01 rfl (by decide) wI2 ka2_48 (jm_inL (by decide) (by decide)) dX12_starts_145 (fun c5 M6 => ?_)
  refine j_aload_n (pc := 146) dX12_starts_146 rfl (q := 0) rfl ?_
  refine j_getr (pc := 147) jv2_0 jm_01 kf_RX12_342 0 kg2_0_59 rfl dX12_starts_147 ?_
  refine j_iload_n (pc := 150) dX12_starts_150 rfl (q := 1) rfl ?_
  refine j_iconst (pc := 151) dX12_starts_151 ?_
  refine j_iast (pc := 152) jv2_49 jm_01 rfl (by decide) wI2 ka2_49 (jm_inL (by decide) (by decide)) dX12_starts_152 (fun c7 M8 => ?_)
  refine j_aload_n (pc := 153) dX12_starts_153 rfl (q := 0) rfl ?_
  refine j_getr (pc := 154) jv2_0 jm_01 kf_RX12_345 0 kg2_0_60 rfl dX12_starts_154 ?_
  refine j_iload_n (pc := 157) dX12_starts_157 rfl (q := 1) rfl ?_
  refine j_iconst (pc := 158) dX12_starts_158 ?_
  refine j_iast (pc := 159) jv2_50 jm_01 rfl (by decide) wI2 ka2_50 (jm_inL (by decide) (by decide)) dX12_starts_159 (fun c9 M10 => ?_)
  refine j_aload_n (pc := 160) dX12_starts_160 rfl (q := 0) rfl ?_
  refine j_getr (pc := 161) jv2_0 jm_01 kf_RX12_348 0 kg2_0_61 rfl dX12_starts_161 ?_
  refine j_iload_n (pc := 164) dX12_starts_164 rfl (q := 1) rfl ?_
  refine j_iconst (pc := 165) dX12_starts_165 ?_
  refine j_iast (pc := 166) jv2_51 jm_01 rfl (by decide) wI2 ka2_51 (jm_inL (by decide) (by decide)) dX12_starts_166 (fun c11 M12 => ?_)
  refine j_aload_n (pc := 167) dX12_starts_167 rfl (q := 0) rfl ?_
  refine j_getr (pc := 168) jv2_0 jm_01 kf_RX12_351 0 kg2_0_62 rfl dX12_starts_168 ?_
  refine j_iload_n (pc := 171) dX12_starts_171 rfl (q := 1) rfl ?_
  refine j_iconst (pc := 172) dX12_starts_172 ?_
  refine j_iast (pc := 173) jv2_52 jm_01 rfl (by decide) wI2 ka2_52 (jm_inL (by decide) (by decide)) dX12_starts_173 (fun c13 M14 => ?_)
  refine j_aload_n (pc := 174) dX12_starts_174 rfl (q := 0) rfl ?_
  refine j_getr (pc := 175) jv2_0 jm_01 kf_RX12_354 0 kg2_0_63 rfl dX12_starts_175 ?_
  refine j_iload_n (pc := 178) dX12_starts_178 rfl (q := 1) rfl ?_
  refine j_iconst (pc := 179) dX12_starts_179 ?_
  refine j_iast (pc := 180) jv2_53 jm_01 rfl (by decide) wI2 ka2_53 (jm_inL (by decide) (by decide)) dX12_starts_180 (fun c15 M16 => ?_)
  refine j_aload_n (pc := 181) dX12_starts_181 rfl (q := 0) rfl ?_
  refine j_getr (pc := 182) jv2_0 jm_01 kf_RX12_357 0 kg2_0_64 rfl dX12_starts_182 ?_
  refine j_iload_n (pc := 185) dX12_starts_185 rfl (q := 1) rfl ?_
  refine j_iconst (pc := 186) dX12_starts_186 ?_
  refine j_iast (pc := 187) jv2_54 jm_01 rfl (by decide) wI2 ka2_54 (jm_inL (by decide) (by decide)) dX12_starts_187 (fun c17 M18 => ?_)
  refine j_iconst (pc := 188) dX12_starts_188 ?_
  refine j_istore_n (pc := 189) [(2, jm_i 0), (0, jm_vr wd2 X 0 0), (1, jm_i l1)] dX12_starts_189 rfl (by decide) rfl ?_
  refine j_sub (pc := 190) [(0, jm_vr wd2 X 0 0), (1, jm_i l1), (2, jm_i 0)] [1, 2, 0] rfl ?_
  exact bX12_starts_190 X fu k31 hk31 fu M18 l1 0 hl1 (jm_inL (by decide) (by decide))
set_option maxHeartbeats 4000000 in
set_option maxRecDepth 100000 in
theorem bX12_starts_58 (X : jm_X) (fu : Nat) (k31 : jm_M → Int → jm_R) (hk31 : ∀ (M : jm_M) (l1 : Int) (hl1 : jm_in l1), jm_J wd2 jm_qv cX12_starts 3 RX12 rmX12_starts X M [(0, jm_vr wd2 X 0 0), (1, jm_i l1)] [] 31 (k31 M l1)) : ∀ (M : jm_M) (l1 s0 s1 : Int) (hl1 : jm_in l1) (hs0 : jm_in s0) (hs1 : jm_in s1), jm_J wd2 jm_qv cX12_starts 3 RX12 rmX12_starts X M [(0, jm_vr wd2 X 0 0), (1, jm_i l1)] [jm_i s0, jm_i s1, jm_vr wd2 X 39 0] 58 (gX12_starts_58 fu k31 M l1 s0 s1) := by
  intro M l1 s0 s1 hl1 hs0 hs1
  unfold gX12_starts_58
  refine j_iast (pc := 58) jv2_39 jm_01 rfl (by decide) wI2 ka2_39 hs0 dX12_starts_58 (fun c1 M2 => ?_)
  refine j_aload_n (pc := 59) dX12_starts_59 rfl (q := 0) rfl ?_
  refine j_getr (pc := 60) jv2_0 jm_01 kf_RX12_318 0 kg2_0_51 rfl dX12_starts_60 ?_
  refine j_iload_n (pc := 63) dX12_starts_63 rfl (q := 1) rfl ?_
  refine j_aload_n (pc := 64) dX12_starts_64 rfl (q := 0) rfl ?_
  refine j_getr (pc := 65) jv2_0 jm_01 kf_RX12_83 0 kg2_0_7 rfl dX12_starts_65 ?_
  refine j_bipush (pc := 68) 6 dX12_starts_68 (by decide) ?_
  refine j_iald (pc := 70) jv2_5 jm_01 rfl (by decide) ka2_5 dX12_starts_70 (fun c3 h4 => ?_)
  refine j_iload_n (pc := 71) dX12_starts_71 rfl (q := 1) rfl ?_
  refine j_imul (pc := 72) dX12_starts_72 ?_
  refine j_iast (pc := 73) jv2_41 jm_01 rfl (by decide) wI2 ka2_41 (jm_w_in _) dX12_starts_73 (fun c5 M6 => ?_)
  refine j_aload_n (pc := 74) dX12_starts_74 rfl (q := 0) rfl ?_
  refine j_getr (pc := 75) jv2_0 jm_01 kf_RX12_321 0 kg2_0_50 rfl dX12_starts_75 ?_
  refine j_iload_n (pc := 78) dX12_starts_78 rfl (q := 1) rfl ?_
  refine j_aload_n (pc := 79) dX12_starts_79 rfl (q := 0) rfl ?_
  refine j_getr (pc := 80) jv2_0 jm_01 kf_RX12_318 0 kg2_0_51 rfl dX12_starts_80 ?_
  refine j_iload_n (pc := 83) dX12_starts_83 rfl (q := 1) rfl ?_
  refine j_iald (pc := 84) jv2_41 jm_01 rfl (by decide) ka2_41 dX12_starts_84 (fun c7 h8 => ?_)
  refine j_iast (pc := 85) jv2_40 jm_01 rfl (by decide) wI2 ka2_40 h8 dX12_starts_85 (fun c9 M10 => ?_)
  refine j_aload_n (pc := 86) dX12_starts_86 rfl (q := 0) rfl ?_
  refine j_getr (pc := 87) jv2_0 jm_01 kf_RX12_324 0 kg2_0_52 rfl dX12_starts_87 ?_
  refine j_iload_n (pc := 90) dX12_starts_90 rfl (q := 1) rfl ?_
  refine j_iconst (pc := 91) dX12_starts_91 ?_
  refine j_iast (pc := 92) jv2_42 jm_01 rfl (by decide) wI2 ka2_42 (jm_inL (by decide) (by decide)) dX12_starts_92 (fun c11 M12 => ?_)
  refine j_aload_n (pc := 93) dX12_starts_93 rfl (q := 0) rfl ?_
  refine j_getr (pc := 94) jv2_0 jm_01 kf_RX12_327 0 kg2_0_53 rfl dX12_starts_94 ?_
  refine j_iload_n (pc := 97) dX12_starts_97 rfl (q := 1) rfl ?_
  refine j_iconst (pc := 98) dX12_starts_98 ?_
  refine j_iast (pc := 99) jv2_43 jm_01 rfl (by decide) wI2 ka2_43 (jm_inL (by decide) (by decide)) dX12_starts_99 (fun c13 M14 => ?_)
  refine j_aload_n (pc := 100) dX12_starts_100 rfl (q := 0) rfl ?_
  refine j_getr (pc := 101) jv2_0 jm_01 kf_RX12_330 0 kg2_0_54 rfl dX12_starts_101 ?_
  refine j_iload_n (pc := 104) dX12_starts_104 rfl (q := 1) rfl ?_
  refine j_aload_n (pc := 105) dX12_starts_105 rfl (q := 0) rfl ?_
  refine j_getr (pc := 106) jv2_0 jm_01 kf_RX12_130 0 kg2_0_23 rfl dX12_starts_106 ?_
  refine j_iload_n (pc := 109) dX12_starts_109 rfl (q := 1) rfl ?_
  refine j_iald (pc := 110) jv2_18 jm_01 rfl (by decide) ka2_18 dX12_starts_110 (fun c15 h16 => ?_)
  refine j_iast (pc := 111) jv2_44 jm_01 rfl (by decide) wI2 ka2_44 h16 dX12_starts_111 (fun c17 M18 => ?_)
  refine j_aload_n (pc := 112) dX12_starts_112 rfl (q := 0) rfl ?_
  refine j_getr (pc := 113) jv2_0 jm_01 kf_RX12_333 0 kg2_0_55 rfl dX12_starts_113 ?_
  refine j_iload_n (pc := 116) dX12_starts_116 rfl (q := 1) rfl ?_
  refine j_aload_n (pc := 117) dX12_starts_117 rfl (q := 0) rfl ?_
  refine j_getr (pc := 118) jv2_0 jm_01 kf_RX12_133 0 kg2_0_24 rfl dX12_starts_118 ?_
  refine j_iload_n (pc := 121) dX12_starts_121 rfl (q := 1) rfl ?_
  refine j_iald (pc := 122) jv2_19 jm_01 rfl (by decide) ka2_19 dX12_starts_122 (fun c19 h20 => ?_)
  refine j_if_ne (tgt := 130) (pc := 123) h20 dX12_starts_123 (by decide) (fun c21 => ?_) (fun c21 => ?_)
  · skip
    refine j_iconst (pc := 126) dX12_starts_126 ?_
    refine j_goto (tgt := 131) (pc := 127) dX12_starts_127 (by decide) ?_
    refine j_sub (pc := 131) [(0, jm_vr wd2 X 0 0), (1, jm_i l1)] [0, 1] rfl ?_
    exact bX12_starts_131 X fu k31 hk31 M18 l1 (-1) l1 hl1 (jm_inL (by decide) (by decide)) hl1
  · skip
    refine j_iconst (pc := 130) dX12_starts_130 ?_
    refine j_sub (pc := 131) [(0, jm_vr wd2 X 0 0), (1, jm_i l1)] [0, 1] rfl ?_
    exact bX12_starts_131 X fu k31 hk31 M18 l1 0 l1 hl1 (jm_inL (by decide) (by decide)) hl1
set_option maxHeartbeats 4000000 in
set_option maxRecDepth 100000 in
theorem b0X12_starts_31 (X : jm_X) (fu : Nat) (k31 : jm_M → Int → jm_R) (hk31 : ∀ (M : jm_M) (l1 : Int) (hl1 : jm_in l1), jm_J wd2 jm_qv cX12_starts 3 RX12 rmX12_starts X M [(0, jm_vr wd2 X 0 0), (1, jm_i l1)] [] 31 (k31 M l1)) : ∀ (M : jm_M) (l1 : Int) (hl1 : jm_in l1), jm_J wd2 jm_qv cX12_starts 3 RX12 rmX12_starts X M [(0, jm_vr wd2 X 0 0), (1, jm_i l1)] [] 31 (gX12_starts_31 fu k31 M l1) := by
  intro M l1 hl1
  unfold gX12_starts_31
  refine j_iload_n (pc := 31) dX12_starts_31 rfl (q := 1) rfl ?_
  refine j_aload_n (pc := 32) dX12_starts_32 rfl (q := 0) rfl ?_
  refine j_geti (pc := 33) jv2_0 jm_01 kf_RX12_30 kg2_0_17 dX12_starts_33 (fun h1 => ?_)
  refine j_icmp_ge (tgt := 303) (pc := 36) hl1 h1 dX12_starts_36 (by decide) (fun c2 => ?_) (fun c2 => ?_)
  · skip
    exact j_vret (pc := 303) dX12_starts_303
  · skip
    refine j_aload_n (pc := 39) dX12_starts_39 rfl (q := 0) rfl ?_
    refine j_getr (pc := 40) jv2_0 jm_01 kf_RX12_309 0 kg2_0_49 rfl dX12_starts_40 ?_
    refine j_iload_n (pc := 43) dX12_starts_43 rfl (q := 1) rfl ?_
    refine j_aload_n (pc := 44) dX12_starts_44 rfl (q := 0) rfl ?_
    refine j_getr (pc := 45) jv2_0 jm_01 kf_RX12_133 0 kg2_0_24 rfl dX12_starts_45 ?_
    refine j_iload_n (pc := 48) dX12_starts_48 rfl (q := 1) rfl ?_
    refine j_iald (pc := 49) jv2_19 jm_01 rfl (by decide) ka2_19 dX12_starts_49 (fun c3 h4 => ?_)
    refine j_if_ne (tgt := 57) (pc := 50) h4 dX12_starts_50 (by decide) (fun c5 => ?_) (fun c5 => ?_)
    · skip
      refine j_iconst (pc := 53) dX12_starts_53 ?_
      refine j_goto (tgt := 58) (pc := 54) dX12_starts_54 (by decide) ?_
      refine j_sub (pc := 58) [(0, jm_vr wd2 X 0 0), (1, jm_i l1)] [0, 1] rfl ?_
      exact bX12_starts_58 X fu k31 hk31 M l1 2 l1 hl1 (jm_inL (by decide) (by decide)) hl1
    · skip
      refine j_iconst (pc := 57) dX12_starts_57 ?_
      refine j_sub (pc := 58) [(0, jm_vr wd2 X 0 0), (1, jm_i l1)] [0, 1] rfl ?_
      exact bX12_starts_58 X fu k31 hk31 M l1 0 l1 hl1 (jm_inL (by decide) (by decide)) hl1
theorem bX12_starts_31 (X : jm_X) (fu : Nat) : ∀ (n : Nat) (M : jm_M) (l1 : Int) (hl1 : jm_in l1), jm_J wd2 jm_qv cX12_starts 3 RX12 rmX12_starts X M [(0, jm_vr wd2 X 0 0), (1, jm_i l1)] [] 31 (fX12_starts_31 fu n M l1) := by
  intro n
  induction n with
  | zero => intro M l1 hl1; exact j_none
  | succ n ih => intro M l1 hl1; exact b0X12_starts_31 X fu (fX12_starts_31 fu n) ih M l1 hl1
set_option maxHeartbeats 4000000 in
set_option maxRecDepth 100000 in
theorem b0X12_starts_7 (X : jm_X) (fu : Nat) (k7 : jm_M → Int → jm_R) (hk7 : ∀ (M : jm_M) (l1 : Int) (hl1 : jm_in l1), jm_J wd2 jm_qv cX12_starts 3 RX12 rmX12_starts X M [(0, jm_vr wd2 X 0 0), (1, jm_i l1)] [] 7 (k7 M l1)) : ∀ (M : jm_M) (l1 : Int) (hl1 : jm_in l1), jm_J wd2 jm_qv cX12_starts 3 RX12 rmX12_starts X M [(0, jm_vr wd2 X 0 0), (1, jm_i l1)] [] 7 (gX12_starts_7 fu k7 M l1) := by
  intro M l1 hl1
  unfold gX12_starts_7
  refine j_iload_n (pc := 7) dX12_starts_7 rfl (q := 1) rfl ?_
  refine j_aload_n (pc := 8) dX12_starts_8 rfl (q := 0) rfl ?_
  refine j_getr (pc := 9) jv2_0 jm_01 kf_RX12_315 0 kg2_0_68 rfl dX12_starts_9 ?_
  refine j_alen (pc := 12) jv2_58 jm_01 rfl (by decide) (fun _ => rfl) ka2_58 dX12_starts_12 ?_
  refine j_icmp_ge (tgt := 29) (pc := 13) hl1 (jm_inL (by decide) (by decide)) dX12_starts_13 (by decide) (fun c1 => ?_) (fun c1 => ?_)
  · skip
    refine j_iconst (pc := 29) dX12_starts_29 ?_
    refine j_istore_n (pc := 30) [(1, jm_i 0), (0, jm_vr wd2 X 0 0)] dX12_starts_30 rfl (by decide) rfl ?_
    refine j_sub (pc := 31) [(0, jm_vr wd2 X 0 0), (1, jm_i 0)] [1, 0] rfl ?_
    exact bX12_starts_31 X fu  fu M 0 (jm_inL (by decide) (by decide))
  · skip
    refine j_aload_n (pc := 16) dX12_starts_16 rfl (q := 0) rfl ?_
    refine j_getr (pc := 17) jv2_0 jm_01 kf_RX12_315 0 kg2_0_68 rfl dX12_starts_17 ?_
    refine j_iload_n (pc := 20) dX12_starts_20 rfl (q := 1) rfl ?_
    refine j_iconst (pc := 21) dX12_starts_21 ?_
    refine j_iast (pc := 22) jv2_58 jm_01 rfl (by decide) wI2 ka2_58 (jm_inL (by decide) (by decide)) dX12_starts_22 (fun c2 M3 => ?_)
    refine j_iinc (pc := 23) [(0, jm_vr wd2 X 0 0)] (q := 1) dX12_starts_23 rfl (by decide) (fun _ => rfl) (fun v4 h5 => ?_)
    refine j_goto (tgt := 7) (pc := 26) dX12_starts_26 (by decide) ?_
    refine j_sub (pc := 7) [(0, jm_vr wd2 X 0 0), (1, jm_i v4)] [1, 0] rfl ?_
    exact hk7 M3 v4 h5
theorem bX12_starts_7 (X : jm_X) (fu : Nat) : ∀ (n : Nat) (M : jm_M) (l1 : Int) (hl1 : jm_in l1), jm_J wd2 jm_qv cX12_starts 3 RX12 rmX12_starts X M [(0, jm_vr wd2 X 0 0), (1, jm_i l1)] [] 7 (fX12_starts_7 fu n M l1) := by
  intro n
  induction n with
  | zero => intro M l1 hl1; exact j_none
  | succ n ih => intro M l1 hl1; exact b0X12_starts_7 X fu (fX12_starts_7 fu n) ih M l1 hl1
set_option maxHeartbeats 4000000 in
set_option maxRecDepth 100000 in
theorem ct_X12_starts (fu : Nat) (M : jm_M) : jm_Cv wd2 yX12_starts cX12_starts 3 none rmX12_starts M (fun G ad => [.ref (ad (jm_r wd2 0 0))]) (fX12_starts fu M ) := by
  refine jm_met_v (fun X => [(0, jm_vr wd2 X 0 0)]) (by decide) (fun _ _ => (Nat.le_of_ble_eq_true rfl)) (fun _ => rfl) (fun X => ?_)
  unfold fX12_starts
  refine j_aload_n (pc := 0) dX12_starts_0 rfl (q := 0) rfl ?_
  refine j_iconst (pc := 1) dX12_starts_1 ?_
  refine j_put (pc := 2) jv2_0 jm_01 kf_RX12_312 wI2 kp_X12_70 kx2_0_70 (jm_inL (by decide) (by decide)) rfl rfl dX12_starts_2 (fun M1 => ?_)
  refine j_iconst (pc := 5) dX12_starts_5 ?_
  refine j_istore_n (pc := 6) [(1, jm_i 0), (0, jm_vr wd2 X 0 0)] dX12_starts_6 rfl (by decide) rfl ?_
  refine j_sub (pc := 7) [(0, jm_vr wd2 X 0 0), (1, jm_i 0)] [1, 0] rfl ?_
  exact bX12_starts_7 X fu  fu M1 0 (jm_inL (by decide) (by decide))
abbrev rmX12_goesOn : Room := { frames := 0, cells := 0, slots := 0, locals := 0 }
set_option maxHeartbeats 4000000 in
set_option maxRecDepth 100000 in
theorem ct_X12_goesOn (M : jm_M) (l1 : Int) (hl1 : jm_in l1) : jm_Ci wd2 yX12_goesOn cX12_goesOn 2 (some .boolean) rmX12_goesOn M (fun G ad => [.ref (ad (jm_r wd2 0 0)), jm_i l1]) (fX12_goesOn M l1) := by
  refine jm_met_i (fun X => [(0, jm_vr wd2 X 0 0), (1, jm_i l1)]) (by decide) (fun _ _ => (Nat.le_of_ble_eq_true rfl)) (fun _ => rfl) (fun X => ?_)
  unfold fX12_goesOn
  refine j_aload_n (pc := 0) dX12_goesOn_0 rfl (q := 0) rfl ?_
  refine j_getr (pc := 1) jv2_0 jm_01 kf_RX12_309 0 kg2_0_49 rfl dX12_goesOn_1 ?_
  refine j_iload_n (pc := 4) dX12_goesOn_4 rfl (q := 1) rfl ?_
  refine j_iald (pc := 5) jv2_39 jm_01 rfl (by decide) ka2_39 dX12_goesOn_5 (fun c1 h2 => ?_)
  refine j_if_ne (tgt := 13) (pc := 6) h2 dX12_goesOn_6 (by decide) (fun c3 => ?_) (fun c3 => ?_)
  · skip
    refine j_iconst (pc := 9) dX12_goesOn_9 ?_
    refine j_goto (tgt := 14) (pc := 10) dX12_goesOn_10 (by decide) ?_
    exact j_iret (pc := 14) (jm_inL (by decide) (by decide)) rfl dX12_goesOn_14
  · skip
    refine j_iconst (pc := 13) dX12_goesOn_13 ?_
    exact j_iret (pc := 14) (jm_inL (by decide) (by decide)) rfl dX12_goesOn_14
abbrev rmX12_next : Room := { frames := 1, cells := 0, slots := 0, locals := 21 }
set_option maxHeartbeats 4000000 in
set_option maxRecDepth 100000 in
theorem b0X12_next_4 (X : jm_X) (fu : Nat) (k4 : jm_M → Int → Int → jm_R) (hk4 : ∀ (M : jm_M) (l1 l2 : Int) (hl1 : jm_in l1) (hl2 : jm_in l2), jm_J wd2 (jm_qi .int) cX12_next 3 RX12 rmX12_next X M [(0, jm_vr wd2 X 0 0), (1, jm_i l1), (2, jm_i l2)] [] 4 (k4 M l1 l2)) : ∀ (M : jm_M) (l1 l2 : Int) (hl1 : jm_in l1) (hl2 : jm_in l2), jm_J wd2 (jm_qi .int) cX12_next 3 RX12 rmX12_next X M [(0, jm_vr wd2 X 0 0), (1, jm_i l1), (2, jm_i l2)] [] 4 (gX12_next_4 fu k4 M l1 l2) := by
  intro M l1 l2 hl1 hl2
  unfold gX12_next_4
  refine j_iload_n (pc := 4) dX12_next_4 rfl (q := 2) rfl ?_
  refine j_aload_n (pc := 5) dX12_next_5 rfl (q := 0) rfl ?_
  refine j_geti (pc := 6) jv2_0 jm_01 kf_RX12_30 kg2_0_17 dX12_next_6 (fun h1 => ?_)
  refine j_icmp_ge (tgt := 77) (pc := 9) hl2 h1 dX12_next_9 (by decide) (fun c2 => ?_) (fun c2 => ?_)
  · skip
    refine j_iload_n (pc := 77) dX12_next_77 rfl (q := 1) rfl ?_
    exact j_iret (pc := 78) hl1 rfl dX12_next_78
  · skip
    refine j_aload_n (pc := 12) dX12_next_12 rfl (q := 0) rfl ?_
    refine j_iload_n (pc := 13) dX12_next_13 rfl (q := 2) rfl ?_
    refine j_callVi1 (pc := 14) (ct_X12_goesOn M l2 hl2) kg_1550 km_X12_goesOn kv_X12_goesOn rfl rfl ⟨(Nat.le_of_ble_eq_true rfl), (Nat.le_of_ble_eq_true rfl)⟩ jv2_0 jm_01 ko2_0 rfl rfl (Nat.le_of_ble_eq_true rfl) dX12_next_14 (fun v3 M4 h5 => ?_)
    refine j_if_eq (tgt := 71) (pc := 17) h5 dX12_next_17 (by decide) (fun c6 => ?_) (fun c6 => ?_)
    · skip
      refine j_iinc (pc := 71) [(0, jm_vr wd2 X 0 0), (1, jm_i l1)] (q := 2) dX12_next_71 rfl (by decide) (fun _ => rfl) (fun v7 h8 => ?_)
      refine j_goto (tgt := 4) (pc := 74) dX12_next_74 (by decide) ?_
      refine j_sub (pc := 4) [(0, jm_vr wd2 X 0 0), (1, jm_i l1), (2, jm_i v7)] [1, 2, 0] rfl ?_
      exact hk4 M4 l1 v7 hl1 h8
    · skip
      refine j_iload_n (pc := 20) dX12_next_20 rfl (q := 1) rfl ?_
      refine j_if_lt (tgt := 69) (pc := 21) hl1 dX12_next_21 (by decide) (fun c9 => ?_) (fun c9 => ?_)
      · skip
        refine j_iload_n (pc := 69) dX12_next_69 rfl (q := 2) rfl ?_
        refine j_istore_n (pc := 70) [(1, jm_i l2), (0, jm_vr wd2 X 0 0), (2, jm_i l2)] dX12_next_70 rfl (by decide) rfl ?_
        refine j_iinc (pc := 71) [(1, jm_i l2), (0, jm_vr wd2 X 0 0)] (q := 2) dX12_next_71 rfl (by decide) (fun _ => rfl) (fun v10 h11 => ?_)
        refine j_goto (tgt := 4) (pc := 74) dX12_next_74 (by decide) ?_
        refine j_sub (pc := 4) [(0, jm_vr wd2 X 0 0), (1, jm_i l2), (2, jm_i v10)] [2, 1, 0] rfl ?_
        exact hk4 M4 l2 v10 hl2 h11
      · skip
        refine j_aload_n (pc := 24) dX12_next_24 rfl (q := 0) rfl ?_
        refine j_getr (pc := 25) jv2_0 jm_01 kf_RX12_318 0 kg2_0_51 rfl dX12_next_25 ?_
        refine j_iload_n (pc := 28) dX12_next_28 rfl (q := 2) rfl ?_
        refine j_iald (pc := 29) jv2_41 jm_01 rfl (by decide) ka2_41 dX12_next_29 (fun c12 h13 => ?_)
        refine j_aload_n (pc := 30) dX12_next_30 rfl (q := 0) rfl ?_
        refine j_getr (pc := 31) jv2_0 jm_01 kf_RX12_318 0 kg2_0_51 rfl dX12_next_31 ?_
        refine j_iload_n (pc := 34) dX12_next_34 rfl (q := 1) rfl ?_
        refine j_iald (pc := 35) jv2_41 jm_01 rfl (by decide) ka2_41 dX12_next_35 (fun c14 h15 => ?_)
        refine j_icmp_lt (tgt := 69) (pc := 36) h13 h15 dX12_next_36 (by decide) (fun c16 => ?_) (fun c16 => ?_)
        · skip
          refine j_iload_n (pc := 69) dX12_next_69 rfl (q := 2) rfl ?_
          refine j_istore_n (pc := 70) [(1, jm_i l2), (0, jm_vr wd2 X 0 0), (2, jm_i l2)] dX12_next_70 rfl (by decide) rfl ?_
          refine j_iinc (pc := 71) [(1, jm_i l2), (0, jm_vr wd2 X 0 0)] (q := 2) dX12_next_71 rfl (by decide) (fun _ => rfl) (fun v17 h18 => ?_)
          refine j_goto (tgt := 4) (pc := 74) dX12_next_74 (by decide) ?_
          refine j_sub (pc := 4) [(0, jm_vr wd2 X 0 0), (1, jm_i l2), (2, jm_i v17)] [2, 1, 0] rfl ?_
          exact hk4 M4 l2 v17 hl2 h18
        · skip
          refine j_aload_n (pc := 39) dX12_next_39 rfl (q := 0) rfl ?_
          refine j_getr (pc := 40) jv2_0 jm_01 kf_RX12_318 0 kg2_0_51 rfl dX12_next_40 ?_
          refine j_iload_n (pc := 43) dX12_next_43 rfl (q := 2) rfl ?_
          refine j_iald (pc := 44) jv2_41 jm_01 rfl (by decide) ka2_41 dX12_next_44 (fun c19 h20 => ?_)
          refine j_aload_n (pc := 45) dX12_next_45 rfl (q := 0) rfl ?_
          refine j_getr (pc := 46) jv2_0 jm_01 kf_RX12_318 0 kg2_0_51 rfl dX12_next_46 ?_
          refine j_iload_n (pc := 49) dX12_next_49 rfl (q := 1) rfl ?_
          refine j_iald (pc := 50) jv2_41 jm_01 rfl (by decide) ka2_41 dX12_next_50 (fun c21 h22 => ?_)
          refine j_icmp_ne (tgt := 71) (pc := 51) h20 h22 dX12_next_51 (by decide) (fun c23 => ?_) (fun c23 => ?_)
          · skip
            refine j_aload_n (pc := 54) dX12_next_54 rfl (q := 0) rfl ?_
            refine j_getr (pc := 55) jv2_0 jm_01 kf_RX12_324 0 kg2_0_52 rfl dX12_next_55 ?_
            refine j_iload_n (pc := 58) dX12_next_58 rfl (q := 2) rfl ?_
            refine j_iald (pc := 59) jv2_42 jm_01 rfl (by decide) ka2_42 dX12_next_59 (fun c24 h25 => ?_)
            refine j_aload_n (pc := 60) dX12_next_60 rfl (q := 0) rfl ?_
            refine j_getr (pc := 61) jv2_0 jm_01 kf_RX12_324 0 kg2_0_52 rfl dX12_next_61 ?_
            refine j_iload_n (pc := 64) dX12_next_64 rfl (q := 1) rfl ?_
            refine j_iald (pc := 65) jv2_42 jm_01 rfl (by decide) ka2_42 dX12_next_65 (fun c26 h27 => ?_)
            refine j_icmp_le (tgt := 71) (pc := 66) h25 h27 dX12_next_66 (by decide) (fun c28 => ?_) (fun c28 => ?_)
            · skip
              refine j_iinc (pc := 71) [(0, jm_vr wd2 X 0 0), (1, jm_i l1)] (q := 2) dX12_next_71 rfl (by decide) (fun _ => rfl) (fun v29 h30 => ?_)
              refine j_goto (tgt := 4) (pc := 74) dX12_next_74 (by decide) ?_
              refine j_sub (pc := 4) [(0, jm_vr wd2 X 0 0), (1, jm_i l1), (2, jm_i v29)] [1, 2, 0] rfl ?_
              exact hk4 M4 l1 v29 hl1 h30
            · skip
              refine j_iload_n (pc := 69) dX12_next_69 rfl (q := 2) rfl ?_
              refine j_istore_n (pc := 70) [(1, jm_i l2), (0, jm_vr wd2 X 0 0), (2, jm_i l2)] dX12_next_70 rfl (by decide) rfl ?_
              refine j_iinc (pc := 71) [(1, jm_i l2), (0, jm_vr wd2 X 0 0)] (q := 2) dX12_next_71 rfl (by decide) (fun _ => rfl) (fun v31 h32 => ?_)
              refine j_goto (tgt := 4) (pc := 74) dX12_next_74 (by decide) ?_
              refine j_sub (pc := 4) [(0, jm_vr wd2 X 0 0), (1, jm_i l2), (2, jm_i v31)] [2, 1, 0] rfl ?_
              exact hk4 M4 l2 v31 hl2 h32
          · skip
            refine j_iinc (pc := 71) [(0, jm_vr wd2 X 0 0), (1, jm_i l1)] (q := 2) dX12_next_71 rfl (by decide) (fun _ => rfl) (fun v33 h34 => ?_)
            refine j_goto (tgt := 4) (pc := 74) dX12_next_74 (by decide) ?_
            refine j_sub (pc := 4) [(0, jm_vr wd2 X 0 0), (1, jm_i l1), (2, jm_i v33)] [1, 2, 0] rfl ?_
            exact hk4 M4 l1 v33 hl1 h34
theorem bX12_next_4 (X : jm_X) (fu : Nat) : ∀ (n : Nat) (M : jm_M) (l1 l2 : Int) (hl1 : jm_in l1) (hl2 : jm_in l2), jm_J wd2 (jm_qi .int) cX12_next 3 RX12 rmX12_next X M [(0, jm_vr wd2 X 0 0), (1, jm_i l1), (2, jm_i l2)] [] 4 (fX12_next_4 fu n M l1 l2) := by
  intro n
  induction n with
  | zero => intro M l1 l2 hl1 hl2; exact j_none
  | succ n ih => intro M l1 l2 hl1 hl2; exact b0X12_next_4 X fu (fX12_next_4 fu n) ih M l1 l2 hl1 hl2
set_option maxHeartbeats 4000000 in
set_option maxRecDepth 100000 in
theorem ct_X12_next (fu : Nat) (M : jm_M) : jm_Ci wd2 yX12_next cX12_next 3 (some .int) rmX12_next M (fun G ad => [.ref (ad (jm_r wd2 0 0))]) (fX12_next fu M ) := by
  refine jm_met_i (fun X => [(0, jm_vr wd2 X 0 0)]) (by decide) (fun _ _ => (Nat.le_of_ble_eq_true rfl)) (fun _ => rfl) (fun X => ?_)
  unfold fX12_next
  refine j_iconst (pc := 0) dX12_next_0 ?_
  refine j_istore_n (pc := 1) [(1, jm_i (-1)), (0, jm_vr wd2 X 0 0)] dX12_next_1 rfl (by decide) rfl ?_
  refine j_iconst (pc := 2) dX12_next_2 ?_
  refine j_istore_n (pc := 3) [(2, jm_i 0), (1, jm_i (-1)), (0, jm_vr wd2 X 0 0)] dX12_next_3 rfl (by decide) rfl ?_
  refine j_sub (pc := 4) [(0, jm_vr wd2 X 0 0), (1, jm_i (-1)), (2, jm_i 0)] [2, 1, 0] rfl ?_
  exact bX12_next_4 X fu  fu M (-1) 0 (jm_inL (by decide) (by decide)) (jm_inL (by decide) (by decide))
abbrev rmX12_hears : Room := { frames := 0, cells := 0, slots := 0, locals := 0 }
set_option maxHeartbeats 4000000 in
set_option maxRecDepth 100000 in
theorem bX12_hears_72 (X : jm_X) (fu : Nat) (k5 : jm_M → Int → Int → Int → jm_R) (hk5 : ∀ (M : jm_M) (l1 l2 l3 : Int) (hl1 : jm_in l1) (hl2 : jm_in l2) (hl3 : jm_in l3), jm_J wd2 jm_qv cX12_hears 4 RX12 rmX12_hears X M [(0, jm_vr wd2 X 0 0), (1, jm_i l1), (2, jm_i l2), (3, jm_i l3)] [] 5 (k5 M l1 l2 l3)) : ∀ (M : jm_M) (l1 l2 l3 s0 s1 : Int) (hl1 : jm_in l1) (hl2 : jm_in l2) (hl3 : jm_in l3) (hs0 : jm_in s0) (hs1 : jm_in s1), jm_J wd2 jm_qv cX12_hears 4 RX12 rmX12_hears X M [(0, jm_vr wd2 X 0 0), (1, jm_i l1), (2, jm_i l2), (3, jm_i l3)] [jm_i s0, jm_i s1, jm_vr wd2 X 47 0] 72 (gX12_hears_72 fu k5 M l1 l2 l3 s0 s1) := by
  intro M l1 l2 l3 s0 s1 hl1 hl2 hl3 hs0 hs1
  unfold gX12_hears_72
  refine j_iast (pc := 72) jv2_47 jm_01 rfl (by decide) wI2 ka2_47 hs0 dX12_hears_72 (fun c1 M2 => ?_)
  refine j_aload_n (pc := 73) dX12_hears_73 rfl (q := 0) rfl ?_
  refine j_getr (pc := 74) jv2_0 jm_01 kf_RX12_339 0 kg2_0_58 rfl dX12_hears_74 ?_
  refine j_iload_n (pc := 77) dX12_hears_77 rfl (q := 1) rfl ?_
  refine j_aload_n (pc := 78) dX12_hears_78 rfl (q := 0) rfl ?_
  refine j_getr (pc := 79) jv2_0 jm_01 kf_RX12_160 0 kg2_0_29 rfl dX12_hears_79 ?_
  refine j_iload_n (pc := 82) dX12_hears_82 rfl (q := 3) rfl ?_
  refine j_iald (pc := 83) jv2_24 jm_01 rfl (by decide) ka2_24 dX12_hears_83 (fun c3 h4 => ?_)
  refine j_iconst (pc := 84) dX12_hears_84 ?_
  refine j_icmp_ne (tgt := 97) (pc := 85) h4 (jm_inL (by decide) (by decide)) dX12_hears_85 (by decide) (fun c5 => ?_) (fun c5 => ?_)
  · skip
    refine j_aload_n (pc := 88) dX12_hears_88 rfl (q := 0) rfl ?_
    refine j_getr (pc := 89) jv2_0 jm_01 kf_RX12_163 0 kg2_0_30 rfl dX12_hears_89 ?_
    refine j_iload_n (pc := 92) dX12_hears_92 rfl (q := 3) rfl ?_
    refine j_iald (pc := 93) jv2_25 jm_01 rfl (by decide) ka2_25 dX12_hears_93 (fun c6 h7 => ?_)
    refine j_goto (tgt := 103) (pc := 94) dX12_hears_94 (by decide) ?_
    refine j_iast (pc := 103) jv2_48 jm_01 rfl (by decide) wI2 ka2_48 h7 dX12_hears_103 (fun c8 M9 => ?_)
    refine j_iinc (pc := 104) [(0, jm_vr wd2 X 0 0), (1, jm_i l1), (2, jm_i l2)] (q := 3) dX12_hears_104 rfl (by decide) (fun _ => rfl) (fun v10 h11 => ?_)
    refine j_goto (tgt := 5) (pc := 107) dX12_hears_107 (by decide) ?_
    refine j_sub (pc := 5) [(0, jm_vr wd2 X 0 0), (1, jm_i l1), (2, jm_i l2), (3, jm_i v10)] [1, 2, 3, 0] rfl ?_
    exact hk5 M9 l1 l2 v10 hl1 hl2 h11
  · skip
    refine j_aload_n (pc := 97) dX12_hears_97 rfl (q := 0) rfl ?_
    refine j_getr (pc := 98) jv2_0 jm_01 kf_RX12_339 0 kg2_0_58 rfl dX12_hears_98 ?_
    refine j_iload_n (pc := 101) dX12_hears_101 rfl (q := 1) rfl ?_
    refine j_iald (pc := 102) jv2_48 jm_01 rfl (by decide) ka2_48 dX12_hears_102 (fun c12 h13 => ?_)
    refine j_iast (pc := 103) jv2_48 jm_01 rfl (by decide) wI2 ka2_48 h13 dX12_hears_103 (fun c14 M15 => ?_)
    refine j_iinc (pc := 104) [(0, jm_vr wd2 X 0 0), (1, jm_i l1), (2, jm_i l2)] (q := 3) dX12_hears_104 rfl (by decide) (fun _ => rfl) (fun v16 h17 => ?_)
    refine j_goto (tgt := 5) (pc := 107) dX12_hears_107 (by decide) ?_
    refine j_sub (pc := 5) [(0, jm_vr wd2 X 0 0), (1, jm_i l1), (2, jm_i l2), (3, jm_i v16)] [1, 2, 3, 0] rfl ?_
    exact hk5 M15 l1 l2 v16 hl1 hl2 h17
set_option maxHeartbeats 4000000 in
set_option maxRecDepth 100000 in
theorem b0X12_hears_5 (X : jm_X) (fu : Nat) (k5 : jm_M → Int → Int → Int → jm_R) (hk5 : ∀ (M : jm_M) (l1 l2 l3 : Int) (hl1 : jm_in l1) (hl2 : jm_in l2) (hl3 : jm_in l3), jm_J wd2 jm_qv cX12_hears 4 RX12 rmX12_hears X M [(0, jm_vr wd2 X 0 0), (1, jm_i l1), (2, jm_i l2), (3, jm_i l3)] [] 5 (k5 M l1 l2 l3)) : ∀ (M : jm_M) (l1 l2 l3 : Int) (hl1 : jm_in l1) (hl2 : jm_in l2) (hl3 : jm_in l3), jm_J wd2 jm_qv cX12_hears 4 RX12 rmX12_hears X M [(0, jm_vr wd2 X 0 0), (1, jm_i l1), (2, jm_i l2), (3, jm_i l3)] [] 5 (gX12_hears_5 fu k5 M l1 l2 l3) := by
  intro M l1 l2 l3 hl1 hl2 hl3
  unfold gX12_hears_5
  refine j_iload_n (pc := 5) dX12_hears_5 rfl (q := 3) rfl ?_
  refine j_bipush (pc := 6) 12 dX12_hears_6 (by decide) ?_
  refine j_iload_n (pc := 8) dX12_hears_8 rfl (q := 1) rfl ?_
  refine j_imul (pc := 9) dX12_hears_9 ?_
  refine j_aload_n (pc := 10) dX12_hears_10 rfl (q := 0) rfl ?_
  refine j_getr (pc := 11) jv2_0 jm_01 kf_RX12_136 0 kg2_0_27 rfl dX12_hears_11 ?_
  refine j_iload_n (pc := 14) dX12_hears_14 rfl (q := 1) rfl ?_
  refine j_iald (pc := 15) jv2_22 jm_01 rfl (by decide) ka2_22 dX12_hears_15 (fun c1 h2 => ?_)
  refine j_iadd (pc := 16) dX12_hears_16 ?_
  refine j_icmp_ge (tgt := 110) (pc := 17) hl3 (jm_w_in _) dX12_hears_17 (by decide) (fun c3 => ?_) (fun c3 => ?_)
  · skip
    exact j_vret (pc := 110) dX12_hears_110
  · skip
    refine j_aload_n (pc := 20) dX12_hears_20 rfl (q := 0) rfl ?_
    refine j_getr (pc := 21) jv2_0 jm_01 kf_RX12_157 0 kg2_0_28 rfl dX12_hears_21 ?_
    refine j_iload_n (pc := 24) dX12_hears_24 rfl (q := 3) rfl ?_
    refine j_iald (pc := 25) jv2_23 jm_01 rfl (by decide) ka2_23 dX12_hears_25 (fun c4 h5 => ?_)
    refine j_aload_n (pc := 26) dX12_hears_26 rfl (q := 0) rfl ?_
    refine j_geti (pc := 27) jv2_0 jm_01 kf_RX12_7 kg2_0_1 dX12_hears_27 (fun h6 => ?_)
    refine j_imul (pc := 30) dX12_hears_30 ?_
    refine j_aload_n (pc := 31) dX12_hears_31 rfl (q := 0) rfl ?_
    refine j_getr (pc := 32) jv2_0 jm_01 kf_RX12_83 0 kg2_0_7 rfl dX12_hears_32 ?_
    refine j_bipush (pc := 35) 7 dX12_hears_35 (by decide) ?_
    refine j_iald (pc := 37) jv2_5 jm_01 rfl (by decide) ka2_5 dX12_hears_37 (fun c7 h8 => ?_)
    refine j_iadd (pc := 38) dX12_hears_38 ?_
    refine j_iload_n (pc := 39) dX12_hears_39 rfl (q := 2) rfl ?_
    refine j_icmp_ne (tgt := 104) (pc := 40) (jm_w_in _) hl2 dX12_hears_40 (by decide) (fun c9 => ?_) (fun c9 => ?_)
    · skip
      refine j_aload_n (pc := 43) dX12_hears_43 rfl (q := 0) rfl ?_
      refine j_getr (pc := 44) jv2_0 jm_01 kf_RX12_336 0 kg2_0_57 rfl dX12_hears_44 ?_
      refine j_iload_n (pc := 47) dX12_hears_47 rfl (q := 1) rfl ?_
      refine j_aload_n (pc := 48) dX12_hears_48 rfl (q := 0) rfl ?_
      refine j_getr (pc := 49) jv2_0 jm_01 kf_RX12_160 0 kg2_0_29 rfl dX12_hears_49 ?_
      refine j_iload_n (pc := 52) dX12_hears_52 rfl (q := 3) rfl ?_
      refine j_iald (pc := 53) jv2_24 jm_01 rfl (by decide) ka2_24 dX12_hears_53 (fun c10 h11 => ?_)
      refine j_if_ne (tgt := 66) (pc := 54) h11 dX12_hears_54 (by decide) (fun c12 => ?_) (fun c12 => ?_)
      · skip
        refine j_aload_n (pc := 57) dX12_hears_57 rfl (q := 0) rfl ?_
        refine j_getr (pc := 58) jv2_0 jm_01 kf_RX12_163 0 kg2_0_30 rfl dX12_hears_58 ?_
        refine j_iload_n (pc := 61) dX12_hears_61 rfl (q := 3) rfl ?_
        refine j_iald (pc := 62) jv2_25 jm_01 rfl (by decide) ka2_25 dX12_hears_62 (fun c13 h14 => ?_)
        refine j_goto (tgt := 72) (pc := 63) dX12_hears_63 (by decide) ?_
        refine j_sub (pc := 72) [(0, jm_vr wd2 X 0 0), (1, jm_i l1), (2, jm_i l2), (3, jm_i l3)] [0, 1, 2, 3] rfl ?_
        exact bX12_hears_72 X fu k5 hk5 M l1 l2 l3 (M 25 0 l3) l1 hl1 hl2 hl3 h14 hl1
      · skip
        refine j_aload_n (pc := 66) dX12_hears_66 rfl (q := 0) rfl ?_
        refine j_getr (pc := 67) jv2_0 jm_01 kf_RX12_336 0 kg2_0_57 rfl dX12_hears_67 ?_
        refine j_iload_n (pc := 70) dX12_hears_70 rfl (q := 1) rfl ?_
        refine j_iald (pc := 71) jv2_47 jm_01 rfl (by decide) ka2_47 dX12_hears_71 (fun c15 h16 => ?_)
        refine j_sub (pc := 72) [(0, jm_vr wd2 X 0 0), (1, jm_i l1), (2, jm_i l2), (3, jm_i l3)] [0, 1, 2, 3] rfl ?_
        exact bX12_hears_72 X fu k5 hk5 M l1 l2 l3 (M 47 0 l1) l1 hl1 hl2 hl3 h16 hl1
    · skip
      refine j_iinc (pc := 104) [(0, jm_vr wd2 X 0 0), (1, jm_i l1), (2, jm_i l2)] (q := 3) dX12_hears_104 rfl (by decide) (fun _ => rfl) (fun v17 h18 => ?_)
      refine j_goto (tgt := 5) (pc := 107) dX12_hears_107 (by decide) ?_
      refine j_sub (pc := 5) [(0, jm_vr wd2 X 0 0), (1, jm_i l1), (2, jm_i l2), (3, jm_i v17)] [1, 2, 3, 0] rfl ?_
      exact hk5 M l1 l2 v17 hl1 hl2 h18
theorem bX12_hears_5 (X : jm_X) (fu : Nat) : ∀ (n : Nat) (M : jm_M) (l1 l2 l3 : Int) (hl1 : jm_in l1) (hl2 : jm_in l2) (hl3 : jm_in l3), jm_J wd2 jm_qv cX12_hears 4 RX12 rmX12_hears X M [(0, jm_vr wd2 X 0 0), (1, jm_i l1), (2, jm_i l2), (3, jm_i l3)] [] 5 (fX12_hears_5 fu n M l1 l2 l3) := by
  intro n
  induction n with
  | zero => intro M l1 l2 l3 hl1 hl2 hl3; exact j_none
  | succ n ih => intro M l1 l2 l3 hl1 hl2 hl3; exact b0X12_hears_5 X fu (fX12_hears_5 fu n) ih M l1 l2 l3 hl1 hl2 hl3
set_option maxHeartbeats 4000000 in
set_option maxRecDepth 100000 in
theorem ct_X12_hears (fu : Nat) (M : jm_M) (l1 l2 : Int) (hl1 : jm_in l1) (hl2 : jm_in l2) : jm_Cv wd2 yX12_hears cX12_hears 4 none rmX12_hears M (fun G ad => [.ref (ad (jm_r wd2 0 0)), jm_i l1, jm_i l2]) (fX12_hears fu M l1 l2) := by
  refine jm_met_v (fun X => [(0, jm_vr wd2 X 0 0), (1, jm_i l1), (2, jm_i l2)]) (by decide) (fun _ _ => (Nat.le_of_ble_eq_true rfl)) (fun _ => rfl) (fun X => ?_)
  unfold fX12_hears
  refine j_bipush (pc := 0) 12 dX12_hears_0 (by decide) ?_
  refine j_iload_n (pc := 2) dX12_hears_2 rfl (q := 1) rfl ?_
  refine j_imul (pc := 3) dX12_hears_3 ?_
  refine j_nm (pc := 4) (jm_w_in _) (fun v1 h2 => ?_)
  refine j_istore_n (pc := 4) [(3, jm_i v1), (0, jm_vr wd2 X 0 0), (1, jm_i l1), (2, jm_i l2)] dX12_hears_4 rfl (by decide) rfl ?_
  refine j_sub (pc := 5) [(0, jm_vr wd2 X 0 0), (1, jm_i l1), (2, jm_i l2), (3, jm_i v1)] [1, 2, 3, 0] rfl ?_
  exact bX12_hears_5 X fu  fu M l1 l2 v1 hl1 hl2 h2
abbrev rmX12_isSlow : Room := { frames := 0, cells := 0, slots := 0, locals := 0 }
set_option maxHeartbeats 4000000 in
set_option maxRecDepth 100000 in
theorem b0X12_isSlow_4 (X : jm_X) (fu : Nat) (k4 : jm_M → Int → Int → Int → jm_R) (hk4 : ∀ (M : jm_M) (l1 l2 l3 : Int) (hl1 : jm_in l1) (hl2 : jm_in l2) (hl3 : jm_in l3), jm_J wd2 (jm_qi .boolean) cX12_isSlow 4 RX12 rmX12_isSlow X M [(0, jm_vr wd2 X 0 0), (1, jm_i l1), (2, jm_i l2), (3, jm_i l3)] [] 4 (k4 M l1 l2 l3)) : ∀ (M : jm_M) (l1 l2 l3 : Int) (hl1 : jm_in l1) (hl2 : jm_in l2) (hl3 : jm_in l3), jm_J wd2 (jm_qi .boolean) cX12_isSlow 4 RX12 rmX12_isSlow X M [(0, jm_vr wd2 X 0 0), (1, jm_i l1), (2, jm_i l2), (3, jm_i l3)] [] 4 (gX12_isSlow_4 fu k4 M l1 l2 l3) := by
  intro M l1 l2 l3 hl1 hl2 hl3
  unfold gX12_isSlow_4
  refine j_iload_n (pc := 4) dX12_isSlow_4 rfl (q := 3) rfl ?_
  refine j_aload_n (pc := 5) dX12_isSlow_5 rfl (q := 0) rfl ?_
  refine j_geti (pc := 6) jv2_0 jm_01 kf_RX12_27 kg2_0_12 dX12_isSlow_6 (fun h1 => ?_)
  refine j_icmp_ge (tgt := 58) (pc := 9) hl3 h1 dX12_isSlow_9 (by decide) (fun c2 => ?_) (fun c2 => ?_)
  · skip
    refine j_iload_n (pc := 58) dX12_isSlow_58 rfl (q := 2) rfl ?_
    exact j_zret (pc := 59) hl2 dX12_isSlow_59
  · skip
    refine j_iload_n (pc := 12) dX12_isSlow_12 rfl (q := 2) rfl ?_
    refine j_if_ne (tgt := 46) (pc := 13) hl2 dX12_isSlow_13 (by decide) (fun c3 => ?_) (fun c3 => ?_)
    · skip
      refine j_aload_n (pc := 16) dX12_isSlow_16 rfl (q := 0) rfl ?_
      refine j_getr (pc := 17) jv2_0 jm_01 kf_RX12_104 0 kg2_0_16 rfl dX12_isSlow_17 ?_
      refine j_iload_n (pc := 20) dX12_isSlow_20 rfl (q := 3) rfl ?_
      refine j_iald (pc := 21) jv2_12 jm_01 rfl (by decide) ka2_12 dX12_isSlow_21 (fun c4 h5 => ?_)
      refine j_iconst (pc := 22) dX12_isSlow_22 ?_
      refine j_icmp_ne (tgt := 50) (pc := 23) h5 (jm_inL (by decide) (by decide)) dX12_isSlow_23 (by decide) (fun c6 => ?_) (fun c6 => ?_)
      · skip
        refine j_aload_n (pc := 26) dX12_isSlow_26 rfl (q := 0) rfl ?_
        refine j_getr (pc := 27) jv2_0 jm_01 kf_RX12_98 0 kg2_0_14 rfl dX12_isSlow_27 ?_
        refine j_iload_n (pc := 30) dX12_isSlow_30 rfl (q := 3) rfl ?_
        refine j_iald (pc := 31) jv2_10 jm_01 rfl (by decide) ka2_10 dX12_isSlow_31 (fun c7 h8 => ?_)
        refine j_iload_n (pc := 32) dX12_isSlow_32 rfl (q := 1) rfl ?_
        refine j_icmp_gt (tgt := 50) (pc := 33) h8 hl1 dX12_isSlow_33 (by decide) (fun c9 => ?_) (fun c9 => ?_)
        · skip
          refine j_iconst (pc := 50) dX12_isSlow_50 ?_
          refine j_istore_n (pc := 51) [(2, jm_i 0), (0, jm_vr wd2 X 0 0), (1, jm_i l1), (3, jm_i l3)] dX12_isSlow_51 rfl (by decide) rfl ?_
          refine j_iinc (pc := 52) [(2, jm_i 0), (0, jm_vr wd2 X 0 0), (1, jm_i l1)] (q := 3) dX12_isSlow_52 rfl (by decide) (fun _ => rfl) (fun v10 h11 => ?_)
          refine j_goto (tgt := 4) (pc := 55) dX12_isSlow_55 (by decide) ?_
          refine j_sub (pc := 4) [(0, jm_vr wd2 X 0 0), (1, jm_i l1), (2, jm_i 0), (3, jm_i v10)] [2, 3, 1, 0] rfl ?_
          exact hk4 M l1 0 v10 hl1 (jm_inL (by decide) (by decide)) h11
        · skip
          refine j_iload_n (pc := 36) dX12_isSlow_36 rfl (q := 1) rfl ?_
          refine j_aload_n (pc := 37) dX12_isSlow_37 rfl (q := 0) rfl ?_
          refine j_getr (pc := 38) jv2_0 jm_01 kf_RX12_101 0 kg2_0_15 rfl dX12_isSlow_38 ?_
          refine j_iload_n (pc := 41) dX12_isSlow_41 rfl (q := 3) rfl ?_
          refine j_iald (pc := 42) jv2_11 jm_01 rfl (by decide) ka2_11 dX12_isSlow_42 (fun c12 h13 => ?_)
          refine j_icmp_ge (tgt := 50) (pc := 43) hl1 h13 dX12_isSlow_43 (by decide) (fun c14 => ?_) (fun c14 => ?_)
          · skip
            refine j_iconst (pc := 50) dX12_isSlow_50 ?_
            refine j_istore_n (pc := 51) [(2, jm_i 0), (0, jm_vr wd2 X 0 0), (1, jm_i l1), (3, jm_i l3)] dX12_isSlow_51 rfl (by decide) rfl ?_
            refine j_iinc (pc := 52) [(2, jm_i 0), (0, jm_vr wd2 X 0 0), (1, jm_i l1)] (q := 3) dX12_isSlow_52 rfl (by decide) (fun _ => rfl) (fun v15 h16 => ?_)
            refine j_goto (tgt := 4) (pc := 55) dX12_isSlow_55 (by decide) ?_
            refine j_sub (pc := 4) [(0, jm_vr wd2 X 0 0), (1, jm_i l1), (2, jm_i 0), (3, jm_i v15)] [2, 3, 1, 0] rfl ?_
            exact hk4 M l1 0 v15 hl1 (jm_inL (by decide) (by decide)) h16
          · skip
            refine j_iconst (pc := 46) dX12_isSlow_46 ?_
            refine j_goto (tgt := 51) (pc := 47) dX12_isSlow_47 (by decide) ?_
            refine j_istore_n (pc := 51) [(2, jm_i 1), (0, jm_vr wd2 X 0 0), (1, jm_i l1), (3, jm_i l3)] dX12_isSlow_51 rfl (by decide) rfl ?_
            refine j_iinc (pc := 52) [(2, jm_i 1), (0, jm_vr wd2 X 0 0), (1, jm_i l1)] (q := 3) dX12_isSlow_52 rfl (by decide) (fun _ => rfl) (fun v17 h18 => ?_)
            refine j_goto (tgt := 4) (pc := 55) dX12_isSlow_55 (by decide) ?_
            refine j_sub (pc := 4) [(0, jm_vr wd2 X 0 0), (1, jm_i l1), (2, jm_i 1), (3, jm_i v17)] [2, 3, 1, 0] rfl ?_
            exact hk4 M l1 1 v17 hl1 (jm_inL (by decide) (by decide)) h18
      · skip
        refine j_iconst (pc := 50) dX12_isSlow_50 ?_
        refine j_istore_n (pc := 51) [(2, jm_i 0), (0, jm_vr wd2 X 0 0), (1, jm_i l1), (3, jm_i l3)] dX12_isSlow_51 rfl (by decide) rfl ?_
        refine j_iinc (pc := 52) [(2, jm_i 0), (0, jm_vr wd2 X 0 0), (1, jm_i l1)] (q := 3) dX12_isSlow_52 rfl (by decide) (fun _ => rfl) (fun v19 h20 => ?_)
        refine j_goto (tgt := 4) (pc := 55) dX12_isSlow_55 (by decide) ?_
        refine j_sub (pc := 4) [(0, jm_vr wd2 X 0 0), (1, jm_i l1), (2, jm_i 0), (3, jm_i v19)] [2, 3, 1, 0] rfl ?_
        exact hk4 M l1 0 v19 hl1 (jm_inL (by decide) (by decide)) h20
    · skip
      refine j_iconst (pc := 46) dX12_isSlow_46 ?_
      refine j_goto (tgt := 51) (pc := 47) dX12_isSlow_47 (by decide) ?_
      refine j_istore_n (pc := 51) [(2, jm_i 1), (0, jm_vr wd2 X 0 0), (1, jm_i l1), (3, jm_i l3)] dX12_isSlow_51 rfl (by decide) rfl ?_
      refine j_iinc (pc := 52) [(2, jm_i 1), (0, jm_vr wd2 X 0 0), (1, jm_i l1)] (q := 3) dX12_isSlow_52 rfl (by decide) (fun _ => rfl) (fun v21 h22 => ?_)
      refine j_goto (tgt := 4) (pc := 55) dX12_isSlow_55 (by decide) ?_
      refine j_sub (pc := 4) [(0, jm_vr wd2 X 0 0), (1, jm_i l1), (2, jm_i 1), (3, jm_i v21)] [2, 3, 1, 0] rfl ?_
      exact hk4 M l1 1 v21 hl1 (jm_inL (by decide) (by decide)) h22
theorem bX12_isSlow_4 (X : jm_X) (fu : Nat) : ∀ (n : Nat) (M : jm_M) (l1 l2 l3 : Int) (hl1 : jm_in l1) (hl2 : jm_in l2) (hl3 : jm_in l3), jm_J wd2 (jm_qi .boolean) cX12_isSlow 4 RX12 rmX12_isSlow X M [(0, jm_vr wd2 X 0 0), (1, jm_i l1), (2, jm_i l2), (3, jm_i l3)] [] 4 (fX12_isSlow_4 fu n M l1 l2 l3) := by
  intro n
  induction n with
  | zero => intro M l1 l2 l3 hl1 hl2 hl3; exact j_none
  | succ n ih => intro M l1 l2 l3 hl1 hl2 hl3; exact b0X12_isSlow_4 X fu (fX12_isSlow_4 fu n) ih M l1 l2 l3 hl1 hl2 hl3
set_option maxHeartbeats 4000000 in
set_option maxRecDepth 100000 in
theorem ct_X12_isSlow (fu : Nat) (M : jm_M) (l1 : Int) (hl1 : jm_in l1) : jm_Ci wd2 yX12_isSlow cX12_isSlow 4 (some .boolean) rmX12_isSlow M (fun G ad => [.ref (ad (jm_r wd2 0 0)), jm_i l1]) (fX12_isSlow fu M l1) := by
  refine jm_met_i (fun X => [(0, jm_vr wd2 X 0 0), (1, jm_i l1)]) (by decide) (fun _ _ => (Nat.le_of_ble_eq_true rfl)) (fun _ => rfl) (fun X => ?_)
  unfold fX12_isSlow
  refine j_iconst (pc := 0) dX12_isSlow_0 ?_
  refine j_istore_n (pc := 1) [(2, jm_i 0), (0, jm_vr wd2 X 0 0), (1, jm_i l1)] dX12_isSlow_1 rfl (by decide) rfl ?_
  refine j_iconst (pc := 2) dX12_isSlow_2 ?_
  refine j_istore_n (pc := 3) [(3, jm_i 0), (2, jm_i 0), (0, jm_vr wd2 X 0 0), (1, jm_i l1)] dX12_isSlow_3 rfl (by decide) rfl ?_
  refine j_sub (pc := 4) [(0, jm_vr wd2 X 0 0), (1, jm_i l1), (2, jm_i 0), (3, jm_i 0)] [2, 3, 1, 0] rfl ?_
  exact bX12_isSlow_4 X fu  fu M l1 0 0 hl1 (jm_inL (by decide) (by decide)) (jm_inL (by decide) (by decide))
abbrev rmX12_isFront : Room := { frames := 1, cells := 0, slots := 0, locals := 21 }
set_option maxHeartbeats 4000000 in
set_option maxRecDepth 100000 in
theorem b0X12_isFront_4 (X : jm_X) (fu : Nat) (k4 : jm_M → Int → Int → Int → jm_R) (hk4 : ∀ (M : jm_M) (l1 l2 l3 : Int) (hl1 : jm_in l1) (hl2 : jm_in l2) (hl3 : jm_in l3), jm_J wd2 (jm_qi .boolean) cX12_isFront 4 RX12 rmX12_isFront X M [(0, jm_vr wd2 X 0 0), (1, jm_i l1), (2, jm_i l2), (3, jm_i l3)] [] 4 (k4 M l1 l2 l3)) : ∀ (M : jm_M) (l1 l2 l3 : Int) (hl1 : jm_in l1) (hl2 : jm_in l2) (hl3 : jm_in l3), jm_J wd2 (jm_qi .boolean) cX12_isFront 4 RX12 rmX12_isFront X M [(0, jm_vr wd2 X 0 0), (1, jm_i l1), (2, jm_i l2), (3, jm_i l3)] [] 4 (gX12_isFront_4 fu k4 M l1 l2 l3) := by
  intro M l1 l2 l3 hl1 hl2 hl3
  unfold gX12_isFront_4
  refine j_iload_n (pc := 4) dX12_isFront_4 rfl (q := 3) rfl ?_
  refine j_aload_n (pc := 5) dX12_isFront_5 rfl (q := 0) rfl ?_
  refine j_geti (pc := 6) jv2_0 jm_01 kf_RX12_30 kg2_0_17 dX12_isFront_6 (fun h1 => ?_)
  refine j_icmp_ge (tgt := 56) (pc := 9) hl3 h1 dX12_isFront_9 (by decide) (fun c2 => ?_) (fun c2 => ?_)
  · skip
    refine j_iload_n (pc := 56) dX12_isFront_56 rfl (q := 2) rfl ?_
    exact j_zret (pc := 57) hl2 dX12_isFront_57
  · skip
    refine j_iload_n (pc := 12) dX12_isFront_12 rfl (q := 2) rfl ?_
    refine j_if_eq (tgt := 48) (pc := 13) hl2 dX12_isFront_13 (by decide) (fun c3 => ?_) (fun c3 => ?_)
    · skip
      refine j_iconst (pc := 48) dX12_isFront_48 ?_
      refine j_istore_n (pc := 49) [(2, jm_i 0), (0, jm_vr wd2 X 0 0), (1, jm_i l1), (3, jm_i l3)] dX12_isFront_49 rfl (by decide) rfl ?_
      refine j_iinc (pc := 50) [(2, jm_i 0), (0, jm_vr wd2 X 0 0), (1, jm_i l1)] (q := 3) dX12_isFront_50 rfl (by decide) (fun _ => rfl) (fun v4 h5 => ?_)
      refine j_goto (tgt := 4) (pc := 53) dX12_isFront_53 (by decide) ?_
      refine j_sub (pc := 4) [(0, jm_vr wd2 X 0 0), (1, jm_i l1), (2, jm_i 0), (3, jm_i v4)] [2, 3, 1, 0] rfl ?_
      exact hk4 M l1 0 v4 hl1 (jm_inL (by decide) (by decide)) h5
    · skip
      refine j_iload_n (pc := 16) dX12_isFront_16 rfl (q := 3) rfl ?_
      refine j_iload_n (pc := 17) dX12_isFront_17 rfl (q := 1) rfl ?_
      refine j_icmp_eq (tgt := 44) (pc := 18) hl3 hl1 dX12_isFront_18 (by decide) (fun c6 => ?_) (fun c6 => ?_)
      · skip
        refine j_iconst (pc := 44) dX12_isFront_44 ?_
        refine j_goto (tgt := 49) (pc := 45) dX12_isFront_45 (by decide) ?_
        refine j_istore_n (pc := 49) [(2, jm_i 1), (0, jm_vr wd2 X 0 0), (1, jm_i l1), (3, jm_i l3)] dX12_isFront_49 rfl (by decide) rfl ?_
        refine j_iinc (pc := 50) [(2, jm_i 1), (0, jm_vr wd2 X 0 0), (1, jm_i l1)] (q := 3) dX12_isFront_50 rfl (by decide) (fun _ => rfl) (fun v7 h8 => ?_)
        refine j_goto (tgt := 4) (pc := 53) dX12_isFront_53 (by decide) ?_
        refine j_sub (pc := 4) [(0, jm_vr wd2 X 0 0), (1, jm_i l1), (2, jm_i 1), (3, jm_i v7)] [2, 3, 1, 0] rfl ?_
        exact hk4 M l1 1 v7 hl1 (jm_inL (by decide) (by decide)) h8
      · skip
        refine j_aload_n (pc := 21) dX12_isFront_21 rfl (q := 0) rfl ?_
        refine j_iload_n (pc := 22) dX12_isFront_22 rfl (q := 3) rfl ?_
        refine j_callVi1 (pc := 23) (ct_X12_goesOn M l3 hl3) kg_1550 km_X12_goesOn kv_X12_goesOn rfl rfl ⟨(Nat.le_of_ble_eq_true rfl), (Nat.le_of_ble_eq_true rfl)⟩ jv2_0 jm_01 ko2_0 rfl rfl (Nat.le_of_ble_eq_true rfl) dX12_isFront_23 (fun v9 M10 h11 => ?_)
        refine j_if_eq (tgt := 44) (pc := 26) h11 dX12_isFront_26 (by decide) (fun c12 => ?_) (fun c12 => ?_)
        · skip
          refine j_iconst (pc := 44) dX12_isFront_44 ?_
          refine j_goto (tgt := 49) (pc := 45) dX12_isFront_45 (by decide) ?_
          refine j_istore_n (pc := 49) [(2, jm_i 1), (0, jm_vr wd2 X 0 0), (1, jm_i l1), (3, jm_i l3)] dX12_isFront_49 rfl (by decide) rfl ?_
          refine j_iinc (pc := 50) [(2, jm_i 1), (0, jm_vr wd2 X 0 0), (1, jm_i l1)] (q := 3) dX12_isFront_50 rfl (by decide) (fun _ => rfl) (fun v13 h14 => ?_)
          refine j_goto (tgt := 4) (pc := 53) dX12_isFront_53 (by decide) ?_
          refine j_sub (pc := 4) [(0, jm_vr wd2 X 0 0), (1, jm_i l1), (2, jm_i 1), (3, jm_i v13)] [2, 3, 1, 0] rfl ?_
          exact hk4 M10 l1 1 v13 hl1 (jm_inL (by decide) (by decide)) h14
        · skip
          refine j_aload_n (pc := 29) dX12_isFront_29 rfl (q := 0) rfl ?_
          refine j_getr (pc := 30) jv2_0 jm_01 kf_RX12_324 0 kg2_0_52 rfl dX12_isFront_30 ?_
          refine j_iload_n (pc := 33) dX12_isFront_33 rfl (q := 3) rfl ?_
          refine j_iald (pc := 34) jv2_42 jm_01 rfl (by decide) ka2_42 dX12_isFront_34 (fun c15 h16 => ?_)
          refine j_aload_n (pc := 35) dX12_isFront_35 rfl (q := 0) rfl ?_
          refine j_getr (pc := 36) jv2_0 jm_01 kf_RX12_324 0 kg2_0_52 rfl dX12_isFront_36 ?_
          refine j_iload_n (pc := 39) dX12_isFront_39 rfl (q := 1) rfl ?_
          refine j_iald (pc := 40) jv2_42 jm_01 rfl (by decide) ka2_42 dX12_isFront_40 (fun c17 h18 => ?_)
          refine j_icmp_ge (tgt := 48) (pc := 41) h16 h18 dX12_isFront_41 (by decide) (fun c19 => ?_) (fun c19 => ?_)
          · skip
            refine j_iconst (pc := 48) dX12_isFront_48 ?_
            refine j_istore_n (pc := 49) [(2, jm_i 0), (0, jm_vr wd2 X 0 0), (1, jm_i l1), (3, jm_i l3)] dX12_isFront_49 rfl (by decide) rfl ?_
            refine j_iinc (pc := 50) [(2, jm_i 0), (0, jm_vr wd2 X 0 0), (1, jm_i l1)] (q := 3) dX12_isFront_50 rfl (by decide) (fun _ => rfl) (fun v20 h21 => ?_)
            refine j_goto (tgt := 4) (pc := 53) dX12_isFront_53 (by decide) ?_
            refine j_sub (pc := 4) [(0, jm_vr wd2 X 0 0), (1, jm_i l1), (2, jm_i 0), (3, jm_i v20)] [2, 3, 1, 0] rfl ?_
            exact hk4 M10 l1 0 v20 hl1 (jm_inL (by decide) (by decide)) h21
          · skip
            refine j_iconst (pc := 44) dX12_isFront_44 ?_
            refine j_goto (tgt := 49) (pc := 45) dX12_isFront_45 (by decide) ?_
            refine j_istore_n (pc := 49) [(2, jm_i 1), (0, jm_vr wd2 X 0 0), (1, jm_i l1), (3, jm_i l3)] dX12_isFront_49 rfl (by decide) rfl ?_
            refine j_iinc (pc := 50) [(2, jm_i 1), (0, jm_vr wd2 X 0 0), (1, jm_i l1)] (q := 3) dX12_isFront_50 rfl (by decide) (fun _ => rfl) (fun v22 h23 => ?_)
            refine j_goto (tgt := 4) (pc := 53) dX12_isFront_53 (by decide) ?_
            refine j_sub (pc := 4) [(0, jm_vr wd2 X 0 0), (1, jm_i l1), (2, jm_i 1), (3, jm_i v22)] [2, 3, 1, 0] rfl ?_
            exact hk4 M10 l1 1 v22 hl1 (jm_inL (by decide) (by decide)) h23
theorem bX12_isFront_4 (X : jm_X) (fu : Nat) : ∀ (n : Nat) (M : jm_M) (l1 l2 l3 : Int) (hl1 : jm_in l1) (hl2 : jm_in l2) (hl3 : jm_in l3), jm_J wd2 (jm_qi .boolean) cX12_isFront 4 RX12 rmX12_isFront X M [(0, jm_vr wd2 X 0 0), (1, jm_i l1), (2, jm_i l2), (3, jm_i l3)] [] 4 (fX12_isFront_4 fu n M l1 l2 l3) := by
  intro n
  induction n with
  | zero => intro M l1 l2 l3 hl1 hl2 hl3; exact j_none
  | succ n ih => intro M l1 l2 l3 hl1 hl2 hl3; exact b0X12_isFront_4 X fu (fX12_isFront_4 fu n) ih M l1 l2 l3 hl1 hl2 hl3
set_option maxHeartbeats 4000000 in
set_option maxRecDepth 100000 in
theorem ct_X12_isFront (fu : Nat) (M : jm_M) (l1 : Int) (hl1 : jm_in l1) : jm_Ci wd2 yX12_isFront cX12_isFront 4 (some .boolean) rmX12_isFront M (fun G ad => [.ref (ad (jm_r wd2 0 0)), jm_i l1]) (fX12_isFront fu M l1) := by
  refine jm_met_i (fun X => [(0, jm_vr wd2 X 0 0), (1, jm_i l1)]) (by decide) (fun _ _ => (Nat.le_of_ble_eq_true rfl)) (fun _ => rfl) (fun X => ?_)
  unfold fX12_isFront
  refine j_iconst (pc := 0) dX12_isFront_0 ?_
  refine j_istore_n (pc := 1) [(2, jm_i 1), (0, jm_vr wd2 X 0 0), (1, jm_i l1)] dX12_isFront_1 rfl (by decide) rfl ?_
  refine j_iconst (pc := 2) dX12_isFront_2 ?_
  refine j_istore_n (pc := 3) [(3, jm_i 0), (2, jm_i 1), (0, jm_vr wd2 X 0 0), (1, jm_i l1)] dX12_isFront_3 rfl (by decide) rfl ?_
  refine j_sub (pc := 4) [(0, jm_vr wd2 X 0 0), (1, jm_i l1), (2, jm_i 1), (3, jm_i 0)] [2, 3, 1, 0] rfl ?_
  exact bX12_isFront_4 X fu  fu M l1 1 0 hl1 (jm_inL (by decide) (by decide)) (jm_inL (by decide) (by decide))
abbrev rmX12_wet : Room := { frames := 0, cells := 0, slots := 0, locals := 0 }
set_option maxHeartbeats 4000000 in
set_option maxRecDepth 100000 in
theorem b0X12_wet_5 (X : jm_X) (fu : Nat) (k5 : jm_M → Int → Int → Int → Int → jm_R) (hk5 : ∀ (M : jm_M) (l1 l2 l3 l4 : Int) (hl1 : jm_in l1) (hl2 : jm_in l2) (hl3 : jm_in l3) (hl4 : jm_in l4), jm_J wd2 (jm_qi .int) cX12_wet 5 RX12 rmX12_wet X M [(0, jm_vr wd2 X 0 0), (1, jm_i l1), (2, jm_i l2), (3, jm_i l3), (4, jm_i l4)] [] 5 (k5 M l1 l2 l3 l4)) : ∀ (M : jm_M) (l1 l2 l3 l4 : Int) (hl1 : jm_in l1) (hl2 : jm_in l2) (hl3 : jm_in l3) (hl4 : jm_in l4), jm_J wd2 (jm_qi .int) cX12_wet 5 RX12 rmX12_wet X M [(0, jm_vr wd2 X 0 0), (1, jm_i l1), (2, jm_i l2), (3, jm_i l3), (4, jm_i l4)] [] 5 (gX12_wet_5 fu k5 M l1 l2 l3 l4) := by
  intro M l1 l2 l3 l4 hl1 hl2 hl3 hl4
  unfold gX12_wet_5
  refine j_iload (pc := 5) dX12_wet_5 (q := 4) rfl ?_
  refine j_aload_n (pc := 7) dX12_wet_7 rfl (q := 0) rfl ?_
  refine j_geti (pc := 8) jv2_0 jm_01 kf_RX12_24 kg2_0_8 dX12_wet_8 (fun h1 => ?_)
  refine j_icmp_ge (tgt := 65) (pc := 11) hl4 h1 dX12_wet_11 (by decide) (fun c2 => ?_) (fun c2 => ?_)
  · skip
    refine j_iload_n (pc := 65) dX12_wet_65 rfl (q := 3) rfl ?_
    refine j_if_ge (tgt := 73) (pc := 66) hl3 dX12_wet_66 (by decide) (fun c3 => ?_) (fun c3 => ?_)
    · skip
      refine j_aload_n (pc := 73) dX12_wet_73 rfl (q := 0) rfl ?_
      refine j_getr (pc := 74) jv2_0 jm_01 kf_RX12_92 0 kg2_0_11 rfl dX12_wet_74 ?_
      refine j_iload_n (pc := 77) dX12_wet_77 rfl (q := 3) rfl ?_
      refine j_iald (pc := 78) jv2_8 jm_01 rfl (by decide) ka2_8 dX12_wet_78 (fun c4 h5 => ?_)
      exact j_iret (pc := 79) h5 rfl dX12_wet_79
    · skip
      refine j_iconst (pc := 69) dX12_wet_69 ?_
      refine j_goto (tgt := 79) (pc := 70) dX12_wet_70 (by decide) ?_
      exact j_iret (pc := 79) (jm_inL (by decide) (by decide)) rfl dX12_wet_79
  · skip
    refine j_aload_n (pc := 14) dX12_wet_14 rfl (q := 0) rfl ?_
    refine j_getr (pc := 15) jv2_0 jm_01 kf_RX12_86 0 kg2_0_9 rfl dX12_wet_15 ?_
    refine j_iload (pc := 18) dX12_wet_18 (q := 4) rfl ?_
    refine j_iald (pc := 20) jv2_6 jm_01 rfl (by decide) ka2_6 dX12_wet_20 (fun c6 h7 => ?_)
    refine j_iload_n (pc := 21) dX12_wet_21 rfl (q := 1) rfl ?_
    refine j_icmp_ne (tgt := 59) (pc := 22) h7 hl1 dX12_wet_22 (by decide) (fun c8 => ?_) (fun c8 => ?_)
    · skip
      refine j_aload_n (pc := 25) dX12_wet_25 rfl (q := 0) rfl ?_
      refine j_getr (pc := 26) jv2_0 jm_01 kf_RX12_89 0 kg2_0_10 rfl dX12_wet_26 ?_
      refine j_iload (pc := 29) dX12_wet_29 (q := 4) rfl ?_
      refine j_iald (pc := 31) jv2_7 jm_01 rfl (by decide) ka2_7 dX12_wet_31 (fun c9 h10 => ?_)
      refine j_iload_n (pc := 32) dX12_wet_32 rfl (q := 2) rfl ?_
      refine j_icmp_gt (tgt := 59) (pc := 33) h10 hl2 dX12_wet_33 (by decide) (fun c11 => ?_) (fun c11 => ?_)
      · skip
        refine j_iinc (pc := 59) [(0, jm_vr wd2 X 0 0), (1, jm_i l1), (2, jm_i l2), (3, jm_i l3)] (q := 4) dX12_wet_59 rfl (by decide) (fun _ => rfl) (fun v12 h13 => ?_)
        refine j_goto (tgt := 5) (pc := 62) dX12_wet_62 (by decide) ?_
        refine j_sub (pc := 5) [(0, jm_vr wd2 X 0 0), (1, jm_i l1), (2, jm_i l2), (3, jm_i l3), (4, jm_i v12)] [1, 2, 3, 4, 0] rfl ?_
        exact hk5 M l1 l2 l3 v12 hl1 hl2 hl3 h13
      · skip
        refine j_iload_n (pc := 36) dX12_wet_36 rfl (q := 3) rfl ?_
        refine j_if_lt (tgt := 56) (pc := 37) hl3 dX12_wet_37 (by decide) (fun c14 => ?_) (fun c14 => ?_)
        · skip
          refine j_iload (pc := 56) dX12_wet_56 (q := 4) rfl ?_
          refine j_istore_n (pc := 58) [(3, jm_i l4), (0, jm_vr wd2 X 0 0), (1, jm_i l1), (2, jm_i l2), (4, jm_i l4)] dX12_wet_58 rfl (by decide) rfl ?_
          refine j_iinc (pc := 59) [(3, jm_i l4), (0, jm_vr wd2 X 0 0), (1, jm_i l1), (2, jm_i l2)] (q := 4) dX12_wet_59 rfl (by decide) (fun _ => rfl) (fun v15 h16 => ?_)
          refine j_goto (tgt := 5) (pc := 62) dX12_wet_62 (by decide) ?_
          refine j_sub (pc := 5) [(0, jm_vr wd2 X 0 0), (1, jm_i l1), (2, jm_i l2), (3, jm_i l4), (4, jm_i v15)] [2, 3, 4, 1, 0] rfl ?_
          exact hk5 M l1 l2 l4 v15 hl1 hl2 hl4 h16
        · skip
          refine j_aload_n (pc := 40) dX12_wet_40 rfl (q := 0) rfl ?_
          refine j_getr (pc := 41) jv2_0 jm_01 kf_RX12_89 0 kg2_0_10 rfl dX12_wet_41 ?_
          refine j_iload (pc := 44) dX12_wet_44 (q := 4) rfl ?_
          refine j_iald (pc := 46) jv2_7 jm_01 rfl (by decide) ka2_7 dX12_wet_46 (fun c17 h18 => ?_)
          refine j_aload_n (pc := 47) dX12_wet_47 rfl (q := 0) rfl ?_
          refine j_getr (pc := 48) jv2_0 jm_01 kf_RX12_89 0 kg2_0_10 rfl dX12_wet_48 ?_
          refine j_iload_n (pc := 51) dX12_wet_51 rfl (q := 3) rfl ?_
          refine j_iald (pc := 52) jv2_7 jm_01 rfl (by decide) ka2_7 dX12_wet_52 (fun c19 h20 => ?_)
          refine j_icmp_lt (tgt := 59) (pc := 53) h18 h20 dX12_wet_53 (by decide) (fun c21 => ?_) (fun c21 => ?_)
          · skip
            refine j_iinc (pc := 59) [(0, jm_vr wd2 X 0 0), (1, jm_i l1), (2, jm_i l2), (3, jm_i l3)] (q := 4) dX12_wet_59 rfl (by decide) (fun _ => rfl) (fun v22 h23 => ?_)
            refine j_goto (tgt := 5) (pc := 62) dX12_wet_62 (by decide) ?_
            refine j_sub (pc := 5) [(0, jm_vr wd2 X 0 0), (1, jm_i l1), (2, jm_i l2), (3, jm_i l3), (4, jm_i v22)] [1, 2, 3, 4, 0] rfl ?_
            exact hk5 M l1 l2 l3 v22 hl1 hl2 hl3 h23
          · skip
            refine j_iload (pc := 56) dX12_wet_56 (q := 4) rfl ?_
            refine j_istore_n (pc := 58) [(3, jm_i l4), (0, jm_vr wd2 X 0 0), (1, jm_i l1), (2, jm_i l2), (4, jm_i l4)] dX12_wet_58 rfl (by decide) rfl ?_
            refine j_iinc (pc := 59) [(3, jm_i l4), (0, jm_vr wd2 X 0 0), (1, jm_i l1), (2, jm_i l2)] (q := 4) dX12_wet_59 rfl (by decide) (fun _ => rfl) (fun v24 h25 => ?_)
            refine j_goto (tgt := 5) (pc := 62) dX12_wet_62 (by decide) ?_
            refine j_sub (pc := 5) [(0, jm_vr wd2 X 0 0), (1, jm_i l1), (2, jm_i l2), (3, jm_i l4), (4, jm_i v24)] [2, 3, 4, 1, 0] rfl ?_
            exact hk5 M l1 l2 l4 v24 hl1 hl2 hl4 h25
    · skip
      refine j_iinc (pc := 59) [(0, jm_vr wd2 X 0 0), (1, jm_i l1), (2, jm_i l2), (3, jm_i l3)] (q := 4) dX12_wet_59 rfl (by decide) (fun _ => rfl) (fun v26 h27 => ?_)
      refine j_goto (tgt := 5) (pc := 62) dX12_wet_62 (by decide) ?_
      refine j_sub (pc := 5) [(0, jm_vr wd2 X 0 0), (1, jm_i l1), (2, jm_i l2), (3, jm_i l3), (4, jm_i v26)] [1, 2, 3, 4, 0] rfl ?_
      exact hk5 M l1 l2 l3 v26 hl1 hl2 hl3 h27
theorem bX12_wet_5 (X : jm_X) (fu : Nat) : ∀ (n : Nat) (M : jm_M) (l1 l2 l3 l4 : Int) (hl1 : jm_in l1) (hl2 : jm_in l2) (hl3 : jm_in l3) (hl4 : jm_in l4), jm_J wd2 (jm_qi .int) cX12_wet 5 RX12 rmX12_wet X M [(0, jm_vr wd2 X 0 0), (1, jm_i l1), (2, jm_i l2), (3, jm_i l3), (4, jm_i l4)] [] 5 (fX12_wet_5 fu n M l1 l2 l3 l4) := by
  intro n
  induction n with
  | zero => intro M l1 l2 l3 l4 hl1 hl2 hl3 hl4; exact j_none
  | succ n ih => intro M l1 l2 l3 l4 hl1 hl2 hl3 hl4; exact b0X12_wet_5 X fu (fX12_wet_5 fu n) ih M l1 l2 l3 l4 hl1 hl2 hl3 hl4
set_option maxHeartbeats 4000000 in
set_option maxRecDepth 100000 in
theorem ct_X12_wet (fu : Nat) (M : jm_M) (l1 l2 : Int) (hl1 : jm_in l1) (hl2 : jm_in l2) : jm_Ci wd2 yX12_wet cX12_wet 5 (some .int) rmX12_wet M (fun G ad => [.ref (ad (jm_r wd2 0 0)), jm_i l1, jm_i l2]) (fX12_wet fu M l1 l2) := by
  refine jm_met_i (fun X => [(0, jm_vr wd2 X 0 0), (1, jm_i l1), (2, jm_i l2)]) (by decide) (fun _ _ => (Nat.le_of_ble_eq_true rfl)) (fun _ => rfl) (fun X => ?_)
  unfold fX12_wet
  refine j_iconst (pc := 0) dX12_wet_0 ?_
  refine j_istore_n (pc := 1) [(3, jm_i (-1)), (0, jm_vr wd2 X 0 0), (1, jm_i l1), (2, jm_i l2)] dX12_wet_1 rfl (by decide) rfl ?_
  refine j_iconst (pc := 2) dX12_wet_2 ?_
  refine j_istore (pc := 3) [(4, jm_i 0), (3, jm_i (-1)), (0, jm_vr wd2 X 0 0), (1, jm_i l1), (2, jm_i l2)] dX12_wet_3 (by decide) rfl ?_
  refine j_sub (pc := 5) [(0, jm_vr wd2 X 0 0), (1, jm_i l1), (2, jm_i l2), (3, jm_i (-1)), (4, jm_i 0)] [2, 3, 4, 1, 0] rfl ?_
  exact bX12_wet_5 X fu  fu M l1 l2 (-1) 0 hl1 hl2 (jm_inL (by decide) (by decide)) (jm_inL (by decide) (by decide))
abbrev rmX12_takes : Room := { frames := 2, cells := 0, slots := 0, locals := 44 }
set_option maxHeartbeats 4000000 in
set_option maxRecDepth 100000 in
theorem bX12_takes_145 (X : jm_X) (fu : Nat) : ∀ (M : jm_M) (l1 l2 l3 l6 s0 s1 : Int) (hl1 : jm_in l1) (hl2 : jm_in l2) (hl3 : jm_in l3) (hl6 : jm_in l6) (hs0 : jm_in s0) (hs1 : jm_in s1), jm_J wd2 (jm_qi .int) cX12_takes 8 RX12 rmX12_takes X M [(0, jm_vr wd2 X 0 0), (1, jm_i l1), (2, jm_i l2), (3, jm_i l3), (6, jm_i l6)] [jm_i s0, jm_i s1] 145 (gX12_takes_145 fu M l1 l2 l3 l6 s0 s1) := by
  intro M l1 l2 l3 l6 s0 s1 hl1 hl2 hl3 hl6 hs0 hs1
  unfold gX12_takes_145
  refine j_iadd (pc := 145) dX12_takes_145 ?_
  refine j_nm (pc := 146) (jm_w_in _) (fun v1 h2 => ?_)
  refine j_istore (pc := 146) [(7, jm_i v1), (0, jm_vr wd2 X 0 0), (1, jm_i l1), (2, jm_i l2), (3, jm_i l3), (6, jm_i l6)] dX12_takes_146 (by decide) rfl ?_
  refine j_iload (pc := 148) dX12_takes_148 (q := 0) rfl ?_
  refine j_aload_n (pc := 150) dX12_takes_150 rfl (q := 1) rfl ?_
  refine j_getr (pc := 151) jv2_0 jm_01 kf_RX12_72 0 kg2_0_6 rfl dX12_takes_151 ?_
  refine j_iload (pc := 154) dX12_takes_154 (q := 5) rfl ?_
  refine j_iconst (pc := 156) dX12_takes_156 ?_
  refine j_iadd (pc := 157) dX12_takes_157 ?_
  refine j_iald (pc := 158) jv2_4 jm_01 rfl (by decide) ka2_4 dX12_takes_158 (fun c3 h4 => ?_)
  refine j_aload_n (pc := 159) dX12_takes_159 rfl (q := 1) rfl ?_
  refine j_iload_n (pc := 160) dX12_takes_160 rfl (q := 3) rfl ?_
  refine j_iload_n (pc := 161) dX12_takes_161 rfl (q := 4) rfl ?_
  refine j_callVi2 (pc := 162) (ct_X12_wet fu M l2 l3 hl2 hl3) kg_1574 km_X12_wet kv_X12_wet rfl rfl ⟨(Nat.le_of_ble_eq_true rfl), (Nat.le_of_ble_eq_true rfl)⟩ jv2_0 jm_01 ko2_0 rfl rfl (Nat.le_of_ble_eq_true rfl) dX12_takes_162 (fun v5 M6 h7 => ?_)
  refine j_aload_n (pc := 165) dX12_takes_165 rfl (q := 1) rfl ?_
  refine j_getr (pc := 166) jv2_0 jm_01 kf_RX12_72 0 kg2_0_6 rfl dX12_takes_166 ?_
  refine j_iload (pc := 169) dX12_takes_169 (q := 5) rfl ?_
  refine j_iconst (pc := 171) dX12_takes_171 ?_
  refine j_iadd (pc := 172) dX12_takes_172 ?_
  refine j_iald (pc := 173) jv2_4 jm_01 rfl (by decide) ka2_4 dX12_takes_173 (fun c8 h9 => ?_)
  refine j_isub (pc := 174) dX12_takes_174 ?_
  refine j_mabs (pc := 175) (jm_w_in _) kg_1578 kg_923 kg_5 kg_924 ⟨(Nat.le_of_ble_eq_true rfl), (Nat.le_of_ble_eq_true rfl)⟩ (Nat.le_of_ble_eq_true rfl) dX12_takes_175 ?_
  refine j_imul (pc := 178) dX12_takes_178 ?_
  refine j_aload_n (pc := 179) dX12_takes_179 rfl (q := 1) rfl ?_
  refine j_getr (pc := 180) jv2_0 jm_01 kf_RX12_83 0 kg2_0_7 rfl dX12_takes_180 ?_
  refine j_iconst (pc := 183) dX12_takes_183 ?_
  refine j_iald (pc := 184) jv2_5 jm_01 rfl (by decide) ka2_5 dX12_takes_184 (fun c10 h11 => ?_)
  refine j_aload_n (pc := 185) dX12_takes_185 rfl (q := 1) rfl ?_
  refine j_getr (pc := 186) jv2_0 jm_01 kf_RX12_336 0 kg2_0_57 rfl dX12_takes_186 ?_
  refine j_iload_n (pc := 189) dX12_takes_189 rfl (q := 2) rfl ?_
  refine j_iald (pc := 190) jv2_47 jm_01 rfl (by decide) ka2_47 dX12_takes_190 (fun c12 h13 => ?_)
  refine j_imul (pc := 191) dX12_takes_191 ?_
  refine j_iadd (pc := 192) dX12_takes_192 ?_
  refine j_iadd (pc := 193) dX12_takes_193 ?_
  refine j_nm (pc := 194) (jm_w_in _) (fun v14 h15 => ?_)
  refine j_istore (pc := 194) [(7, jm_i v14), (0, jm_vr wd2 X 0 0), (1, jm_i l1), (2, jm_i l2), (3, jm_i l3), (6, jm_i l6)] dX12_takes_194 (by decide) rfl ?_
  refine j_sipush (pc := 196) 1000 dX12_takes_196 (by decide) ?_
  refine j_iload (pc := 199) dX12_takes_199 (q := 0) rfl ?_
  refine j_mmax (pc := 201) (jm_inL (by decide) (by decide)) h15 kg_1579 kg_61 kg_5 kg_62 ⟨(Nat.le_of_ble_eq_true rfl), (Nat.le_of_ble_eq_true rfl)⟩ (Nat.le_of_ble_eq_true rfl) dX12_takes_201 ?_
  exact j_iret (pc := 204) (jm_max_in (jm_inL (by decide) (by decide)) h15) rfl dX12_takes_204
set_option maxHeartbeats 4000000 in
set_option maxRecDepth 100000 in
theorem ct_X12_takes (fu : Nat) (M : jm_M) (l1 l2 l3 l4 : Int) (hl1 : jm_in l1) (hl2 : jm_in l2) (hl3 : jm_in l3) (hl4 : jm_in l4) : jm_Ci wd2 yX12_takes cX12_takes 8 (some .int) rmX12_takes M (fun G ad => [.ref (ad (jm_r wd2 0 0)), jm_i l1, jm_i l2, jm_i l3, jm_i l4]) (fX12_takes fu M l1 l2 l3 l4) := by
  refine jm_met_i (fun X => [(0, jm_vr wd2 X 0 0), (1, jm_i l1), (2, jm_i l2), (3, jm_i l3), (4, jm_i l4)]) (by decide) (fun _ _ => (Nat.le_of_ble_eq_true rfl)) (fun _ => rfl) (fun X => ?_)
  unfold fX12_takes
  refine j_iload (pc := 0) dX12_takes_0 (q := 4) rfl ?_
  refine j_if_eq (tgt := 32) (pc := 2) hl4 dX12_takes_2 (by decide) (fun c1 => ?_) (fun c1 => ?_)
  · skip
    refine j_iconst (pc := 32) dX12_takes_32 ?_
    refine j_iload_n (pc := 33) dX12_takes_33 rfl (q := 1) rfl ?_
    refine j_imul (pc := 34) dX12_takes_34 ?_
    refine j_aload_n (pc := 35) dX12_takes_35 rfl (q := 0) rfl ?_
    refine j_getr (pc := 36) jv2_0 jm_01 kf_RX12_333 0 kg2_0_55 rfl dX12_takes_36 ?_
    refine j_iload_n (pc := 39) dX12_takes_39 rfl (q := 1) rfl ?_
    refine j_iald (pc := 40) jv2_45 jm_01 rfl (by decide) ka2_45 dX12_takes_40 (fun c2 h3 => ?_)
    refine j_iadd (pc := 41) dX12_takes_41 ?_
    refine j_nm (pc := 42) (jm_w_in _) (fun v4 h5 => ?_)
    refine j_istore (pc := 42) [(5, jm_i v4), (0, jm_vr wd2 X 0 0), (1, jm_i l1), (2, jm_i l2), (3, jm_i l3), (4, jm_i l4)] dX12_takes_42 (by decide) rfl ?_
    refine j_bipush (pc := 44) 6 dX12_takes_44 (by decide) ?_
    refine j_aload_n (pc := 46) dX12_takes_46 rfl (q := 1) rfl ?_
    refine j_getr (pc := 47) jv2_0 jm_01 kf_RX12_148 0 kg2_0_25 rfl dX12_takes_47 ?_
    refine j_iload (pc := 50) dX12_takes_50 (q := 0) rfl ?_
    refine j_iald (pc := 52) jv2_20 jm_01 rfl (by decide) ka2_20 dX12_takes_52 (fun c6 h7 => ?_)
    refine j_imul (pc := 53) dX12_takes_53 ?_
    refine j_nm (pc := 54) (jm_w_in _) (fun v8 h9 => ?_)
    refine j_istore (pc := 54) [(6, jm_i v8), (5, jm_i v4), (0, jm_vr wd2 X 0 0), (1, jm_i l1), (2, jm_i l2), (3, jm_i l3), (4, jm_i l4)] dX12_takes_54 (by decide) rfl ?_
    refine j_aload_n (pc := 56) dX12_takes_56 rfl (q := 2) rfl ?_
    refine j_getr (pc := 57) jv2_0 jm_01 kf_RX12_13 0 kg2_0_3 rfl dX12_takes_57 ?_
    refine j_iload_n (pc := 60) dX12_takes_60 rfl (q := 4) rfl ?_
    refine j_iald (pc := 61) jv2_1 jm_01 rfl (by decide) ka2_1 dX12_takes_61 (fun c10 h11 => ?_)
    refine j_aload_n (pc := 62) dX12_takes_62 rfl (q := 2) rfl ?_
    refine j_getr (pc := 63) jv2_0 jm_01 kf_RX12_115 0 kg2_0_18 rfl dX12_takes_63 ?_
    refine j_iload_n (pc := 66) dX12_takes_66 rfl (q := 3) rfl ?_
    refine j_iald (pc := 67) jv2_13 jm_01 rfl (by decide) ka2_13 dX12_takes_67 (fun c12 h13 => ?_)
    refine j_iadd (pc := 68) dX12_takes_68 ?_
    refine j_aload_n (pc := 69) dX12_takes_69 rfl (q := 2) rfl ?_
    refine j_getr (pc := 70) jv2_0 jm_01 kf_RX12_83 0 kg2_0_7 rfl dX12_takes_70 ?_
    refine j_iconst (pc := 73) dX12_takes_73 ?_
    refine j_iald (pc := 74) jv2_5 jm_01 rfl (by decide) ka2_5 dX12_takes_74 (fun c14 h15 => ?_)
    refine j_aload_n (pc := 75) dX12_takes_75 rfl (q := 2) rfl ?_
    refine j_getr (pc := 76) jv2_0 jm_01 kf_RX12_330 0 kg2_0_54 rfl dX12_takes_76 ?_
    refine j_iload_n (pc := 79) dX12_takes_79 rfl (q := 3) rfl ?_
    refine j_iald (pc := 80) jv2_44 jm_01 rfl (by decide) ka2_44 dX12_takes_80 (fun c16 h17 => ?_)
    refine j_imul (pc := 81) dX12_takes_81 ?_
    refine j_iadd (pc := 82) dX12_takes_82 ?_
    refine j_aload_n (pc := 83) dX12_takes_83 rfl (q := 2) rfl ?_
    refine j_getr (pc := 84) jv2_0 jm_01 kf_RX12_72 0 kg2_0_6 rfl dX12_takes_84 ?_
    refine j_iload (pc := 87) dX12_takes_87 (q := 0) rfl ?_
    refine j_iald (pc := 89) jv2_4 jm_01 rfl (by decide) ka2_4 dX12_takes_89 (fun c18 h19 => ?_)
    refine j_iadd (pc := 90) dX12_takes_90 ?_
    refine j_aload_n (pc := 91) dX12_takes_91 rfl (q := 2) rfl ?_
    refine j_getr (pc := 92) jv2_0 jm_01 kf_RX12_72 0 kg2_0_6 rfl dX12_takes_92 ?_
    refine j_iload (pc := 95) dX12_takes_95 (q := 0) rfl ?_
    refine j_iconst (pc := 97) dX12_takes_97 ?_
    refine j_iadd (pc := 98) dX12_takes_98 ?_
    refine j_iald (pc := 99) jv2_4 jm_01 rfl (by decide) ka2_4 dX12_takes_99 (fun c20 h21 => ?_)
    refine j_aload_n (pc := 100) dX12_takes_100 rfl (q := 2) rfl ?_
    refine j_getr (pc := 101) jv2_0 jm_01 kf_RX12_360 0 kg2_0_56 rfl dX12_takes_101 ?_
    refine j_iload (pc := 104) dX12_takes_104 (q := 1) rfl ?_
    refine j_iald (pc := 106) jv2_46 jm_01 rfl (by decide) ka2_46 dX12_takes_106 (fun c22 h23 => ?_)
    refine j_imul (pc := 107) dX12_takes_107 ?_
    refine j_iadd (pc := 108) dX12_takes_108 ?_
    refine j_nm (pc := 109) (jm_w_in _) (fun v24 h25 => ?_)
    refine j_istore (pc := 109) [(7, jm_i v24), (6, jm_i v8), (5, jm_i v4), (0, jm_vr wd2 X 0 0), (1, jm_i l1), (2, jm_i l2), (3, jm_i l3), (4, jm_i l4)] dX12_takes_109 (by decide) rfl ?_
    refine j_iload (pc := 111) dX12_takes_111 (q := 0) rfl ?_
    refine j_aload_n (pc := 113) dX12_takes_113 rfl (q := 3) rfl ?_
    refine j_getr (pc := 114) jv2_0 jm_01 kf_RX12_360 0 kg2_0_56 rfl dX12_takes_114 ?_
    refine j_iload (pc := 117) dX12_takes_117 (q := 2) rfl ?_
    refine j_iald (pc := 119) jv2_46 jm_01 rfl (by decide) ka2_46 dX12_takes_119 (fun c26 h27 => ?_)
    refine j_aload_n (pc := 120) dX12_takes_120 rfl (q := 3) rfl ?_
    refine j_getr (pc := 121) jv2_0 jm_01 kf_RX12_72 0 kg2_0_6 rfl dX12_takes_121 ?_
    refine j_iload (pc := 124) dX12_takes_124 (q := 1) rfl ?_
    refine j_iconst (pc := 126) dX12_takes_126 ?_
    refine j_iadd (pc := 127) dX12_takes_127 ?_
    refine j_iald (pc := 128) jv2_4 jm_01 rfl (by decide) ka2_4 dX12_takes_128 (fun c28 h29 => ?_)
    refine j_icmp_lt (tgt := 144) (pc := 129) h27 h29 dX12_takes_129 (by decide) (fun c30 => ?_) (fun c30 => ?_)
    · skip
      refine j_iconst (pc := 144) dX12_takes_144 ?_
      refine j_sub (pc := 145) [(0, jm_vr wd2 X 0 0), (1, jm_i l1), (2, jm_i l2), (3, jm_i l3), (6, jm_i v8)] [3, 4, 5, 6, 1] rfl ?_
      exact bX12_takes_145 X fu  M l1 l2 l3 v8 0 v24 hl1 hl2 hl3 h9 (jm_inL (by decide) (by decide)) h25
    · skip
      refine j_aload_n (pc := 132) dX12_takes_132 rfl (q := 3) rfl ?_
      refine j_getr (pc := 133) jv2_0 jm_01 kf_RX12_72 0 kg2_0_6 rfl dX12_takes_133 ?_
      refine j_iload (pc := 136) dX12_takes_136 (q := 1) rfl ?_
      refine j_iconst (pc := 138) dX12_takes_138 ?_
      refine j_iadd (pc := 139) dX12_takes_139 ?_
      refine j_iald (pc := 140) jv2_4 jm_01 rfl (by decide) ka2_4 dX12_takes_140 (fun c31 h32 => ?_)
      refine j_goto (tgt := 145) (pc := 141) dX12_takes_141 (by decide) ?_
      refine j_sub (pc := 145) [(0, jm_vr wd2 X 0 0), (1, jm_i l1), (2, jm_i l2), (3, jm_i l3), (6, jm_i v8)] [3, 4, 5, 6, 1] rfl ?_
      exact bX12_takes_145 X fu  M l1 l2 l3 v8 (M 4 0 (jm_w (v8 + 3))) v24 hl1 hl2 hl3 h9 h32 h25
  · skip
    refine j_aload_n (pc := 5) dX12_takes_5 rfl (q := 0) rfl ?_
    refine j_getr (pc := 6) jv2_0 jm_01 kf_RX12_13 0 kg2_0_3 rfl dX12_takes_6 ?_
    refine j_iload_n (pc := 9) dX12_takes_9 rfl (q := 2) rfl ?_
    refine j_iald (pc := 10) jv2_1 jm_01 rfl (by decide) ka2_1 dX12_takes_10 (fun c33 h34 => ?_)
    refine j_aload_n (pc := 11) dX12_takes_11 rfl (q := 0) rfl ?_
    refine j_iload_n (pc := 12) dX12_takes_12 rfl (q := 1) rfl ?_
    refine j_callVi1 (pc := 13) (ct_X12_isFront fu M l1 hl1) kg_1570 km_X12_isFront kv_X12_isFront rfl rfl ⟨(Nat.le_of_ble_eq_true rfl), (Nat.le_of_ble_eq_true rfl)⟩ jv2_0 jm_01 ko2_0 rfl rfl (Nat.le_of_ble_eq_true rfl) dX12_takes_13 (fun v35 M36 h37 => ?_)
    refine j_if_eq (tgt := 25) (pc := 16) h37 dX12_takes_16 (by decide) (fun c38 => ?_) (fun c38 => ?_)
    · skip
      refine j_bipush (pc := 25) 120 dX12_takes_25 (by decide) ?_
      refine j_imul (pc := 27) dX12_takes_27 ?_
      refine j_bipush (pc := 28) 100 dX12_takes_28 (by decide) ?_
      refine j_idiv (pc := 30) (jm_w_in _) (jm_inL (by decide) (by decide)) dX12_takes_30 (by decide) ?_
      exact j_iret (pc := 31) (jm_div_in _ _) rfl dX12_takes_31
    · skip
      refine j_sipush (pc := 19) 150 dX12_takes_19 (by decide) ?_
      refine j_goto (tgt := 27) (pc := 22) dX12_takes_22 (by decide) ?_
      refine j_imul (pc := 27) dX12_takes_27 ?_
      refine j_bipush (pc := 28) 100 dX12_takes_28 (by decide) ?_
      refine j_idiv (pc := 30) (jm_w_in _) (jm_inL (by decide) (by decide)) dX12_takes_30 (by decide) ?_
      exact j_iret (pc := 31) (jm_div_in _ _) rfl dX12_takes_31
abbrev rmX12_isYellow : Room := { frames := 0, cells := 0, slots := 0, locals := 0 }
set_option maxHeartbeats 4000000 in
set_option maxRecDepth 100000 in
theorem bX12_isYellow_46 (X : jm_X) (fu : Nat) (k5 : jm_M → Int → Int → Int → Int → jm_R) (hk5 : ∀ (M : jm_M) (l1 l2 l3 l4 : Int) (hl1 : jm_in l1) (hl2 : jm_in l2) (hl3 : jm_in l3) (hl4 : jm_in l4), jm_J wd2 (jm_qi .boolean) cX12_isYellow 6 RX12 rmX12_isYellow X M [(0, jm_vr wd2 X 0 0), (1, jm_i l1), (2, jm_i l2), (3, jm_i l3), (4, jm_i l4)] [] 5 (k5 M l1 l2 l3 l4)) : ∀ (M : jm_M) (l1 l2 l3 l4 s0 : Int) (hl1 : jm_in l1) (hl2 : jm_in l2) (hl3 : jm_in l3) (hl4 : jm_in l4) (hs0 : jm_in s0), jm_J wd2 (jm_qi .boolean) cX12_isYellow 6 RX12 rmX12_isYellow X M [(0, jm_vr wd2 X 0 0), (1, jm_i l1), (2, jm_i l2), (3, jm_i l3), (4, jm_i l4)] [jm_i s0] 46 (gX12_isYellow_46 fu k5 M l1 l2 l3 l4 s0) := by
  intro M l1 l2 l3 l4 s0 hl1 hl2 hl3 hl4 hs0
  unfold gX12_isYellow_46
  refine j_istore (pc := 46) [(5, jm_i s0), (0, jm_vr wd2 X 0 0), (1, jm_i l1), (2, jm_i l2), (3, jm_i l3), (4, jm_i l4)] dX12_isYellow_46 (by decide) rfl ?_
  refine j_iload_n (pc := 48) dX12_isYellow_48 rfl (q := 4) rfl ?_
  refine j_if_ne (tgt := 89) (pc := 49) hl3 dX12_isYellow_49 (by decide) (fun c1 => ?_) (fun c1 => ?_)
  · skip
    refine j_aload_n (pc := 52) dX12_isYellow_52 rfl (q := 1) rfl ?_
    refine j_getr (pc := 53) jv2_0 jm_01 kf_RX12_104 0 kg2_0_16 rfl dX12_isYellow_53 ?_
    refine j_iload (pc := 56) dX12_isYellow_56 (q := 5) rfl ?_
    refine j_iald (pc := 58) jv2_12 jm_01 rfl (by decide) ka2_12 dX12_isYellow_58 (fun c2 h3 => ?_)
    refine j_if_ne (tgt := 93) (pc := 59) h3 dX12_isYellow_59 (by decide) (fun c4 => ?_) (fun c4 => ?_)
    · skip
      refine j_iload (pc := 62) dX12_isYellow_62 (q := 0) rfl ?_
      refine j_if_eq (tgt := 93) (pc := 64) hs0 dX12_isYellow_64 (by decide) (fun c5 => ?_) (fun c5 => ?_)
      · skip
        refine j_iconst (pc := 93) dX12_isYellow_93 ?_
        refine j_istore_n (pc := 94) [(3, jm_i 0), (5, jm_i s0), (0, jm_vr wd2 X 0 0), (1, jm_i l1), (2, jm_i l2), (4, jm_i l4)] dX12_isYellow_94 rfl (by decide) rfl ?_
        refine j_iinc (pc := 95) [(3, jm_i 0), (5, jm_i s0), (0, jm_vr wd2 X 0 0), (1, jm_i l1), (2, jm_i l2)] (q := 5) dX12_isYellow_95 rfl (by decide) (fun _ => rfl) (fun v6 h7 => ?_)
        refine j_goto (tgt := 5) (pc := 98) dX12_isYellow_98 (by decide) ?_
        refine j_sub (pc := 5) [(0, jm_vr wd2 X 0 0), (1, jm_i l1), (2, jm_i l2), (3, jm_i 0), (4, jm_i v6)] [3, 4, 5, 1, 0] rfl ?_
        exact hk5 M l1 l2 0 v6 hl1 hl2 (jm_inL (by decide) (by decide)) h7
      · skip
        refine j_aload_n (pc := 67) dX12_isYellow_67 rfl (q := 1) rfl ?_
        refine j_getr (pc := 68) jv2_0 jm_01 kf_RX12_98 0 kg2_0_14 rfl dX12_isYellow_68 ?_
        refine j_iload (pc := 71) dX12_isYellow_71 (q := 5) rfl ?_
        refine j_iald (pc := 73) jv2_10 jm_01 rfl (by decide) ka2_10 dX12_isYellow_73 (fun c8 h9 => ?_)
        refine j_iload_n (pc := 74) dX12_isYellow_74 rfl (q := 3) rfl ?_
        refine j_icmp_gt (tgt := 93) (pc := 75) h9 hl2 dX12_isYellow_75 (by decide) (fun c10 => ?_) (fun c10 => ?_)
        · skip
          refine j_iconst (pc := 93) dX12_isYellow_93 ?_
          refine j_istore_n (pc := 94) [(3, jm_i 0), (5, jm_i s0), (0, jm_vr wd2 X 0 0), (1, jm_i l1), (2, jm_i l2), (4, jm_i l4)] dX12_isYellow_94 rfl (by decide) rfl ?_
          refine j_iinc (pc := 95) [(3, jm_i 0), (5, jm_i s0), (0, jm_vr wd2 X 0 0), (1, jm_i l1), (2, jm_i l2)] (q := 5) dX12_isYellow_95 rfl (by decide) (fun _ => rfl) (fun v11 h12 => ?_)
          refine j_goto (tgt := 5) (pc := 98) dX12_isYellow_98 (by decide) ?_
          refine j_sub (pc := 5) [(0, jm_vr wd2 X 0 0), (1, jm_i l1), (2, jm_i l2), (3, jm_i 0), (4, jm_i v11)] [3, 4, 5, 1, 0] rfl ?_
          exact hk5 M l1 l2 0 v11 hl1 hl2 (jm_inL (by decide) (by decide)) h12
        · skip
          refine j_iload_n (pc := 78) dX12_isYellow_78 rfl (q := 3) rfl ?_
          refine j_aload_n (pc := 79) dX12_isYellow_79 rfl (q := 1) rfl ?_
          refine j_getr (pc := 80) jv2_0 jm_01 kf_RX12_101 0 kg2_0_15 rfl dX12_isYellow_80 ?_
          refine j_iload (pc := 83) dX12_isYellow_83 (q := 5) rfl ?_
          refine j_iald (pc := 85) jv2_11 jm_01 rfl (by decide) ka2_11 dX12_isYellow_85 (fun c13 h14 => ?_)
          refine j_icmp_ge (tgt := 93) (pc := 86) hl2 h14 dX12_isYellow_86 (by decide) (fun c15 => ?_) (fun c15 => ?_)
          · skip
            refine j_iconst (pc := 93) dX12_isYellow_93 ?_
            refine j_istore_n (pc := 94) [(3, jm_i 0), (5, jm_i s0), (0, jm_vr wd2 X 0 0), (1, jm_i l1), (2, jm_i l2), (4, jm_i l4)] dX12_isYellow_94 rfl (by decide) rfl ?_
            refine j_iinc (pc := 95) [(3, jm_i 0), (5, jm_i s0), (0, jm_vr wd2 X 0 0), (1, jm_i l1), (2, jm_i l2)] (q := 5) dX12_isYellow_95 rfl (by decide) (fun _ => rfl) (fun v16 h17 => ?_)
            refine j_goto (tgt := 5) (pc := 98) dX12_isYellow_98 (by decide) ?_
            refine j_sub (pc := 5) [(0, jm_vr wd2 X 0 0), (1, jm_i l1), (2, jm_i l2), (3, jm_i 0), (4, jm_i v16)] [3, 4, 5, 1, 0] rfl ?_
            exact hk5 M l1 l2 0 v16 hl1 hl2 (jm_inL (by decide) (by decide)) h17
          · skip
            refine j_iconst (pc := 89) dX12_isYellow_89 ?_
            refine j_goto (tgt := 94) (pc := 90) dX12_isYellow_90 (by decide) ?_
            refine j_istore_n (pc := 94) [(3, jm_i 1), (5, jm_i s0), (0, jm_vr wd2 X 0 0), (1, jm_i l1), (2, jm_i l2), (4, jm_i l4)] dX12_isYellow_94 rfl (by decide) rfl ?_
            refine j_iinc (pc := 95) [(3, jm_i 1), (5, jm_i s0), (0, jm_vr wd2 X 0 0), (1, jm_i l1), (2, jm_i l2)] (q := 5) dX12_isYellow_95 rfl (by decide) (fun _ => rfl) (fun v18 h19 => ?_)
            refine j_goto (tgt := 5) (pc := 98) dX12_isYellow_98 (by decide) ?_
            refine j_sub (pc := 5) [(0, jm_vr wd2 X 0 0), (1, jm_i l1), (2, jm_i l2), (3, jm_i 1), (4, jm_i v18)] [3, 4, 5, 1, 0] rfl ?_
            exact hk5 M l1 l2 1 v18 hl1 hl2 (jm_inL (by decide) (by decide)) h19
    · skip
      refine j_iconst (pc := 93) dX12_isYellow_93 ?_
      refine j_istore_n (pc := 94) [(3, jm_i 0), (5, jm_i s0), (0, jm_vr wd2 X 0 0), (1, jm_i l1), (2, jm_i l2), (4, jm_i l4)] dX12_isYellow_94 rfl (by decide) rfl ?_
      refine j_iinc (pc := 95) [(3, jm_i 0), (5, jm_i s0), (0, jm_vr wd2 X 0 0), (1, jm_i l1), (2, jm_i l2)] (q := 5) dX12_isYellow_95 rfl (by decide) (fun _ => rfl) (fun v20 h21 => ?_)
      refine j_goto (tgt := 5) (pc := 98) dX12_isYellow_98 (by decide) ?_
      refine j_sub (pc := 5) [(0, jm_vr wd2 X 0 0), (1, jm_i l1), (2, jm_i l2), (3, jm_i 0), (4, jm_i v20)] [3, 4, 5, 1, 0] rfl ?_
      exact hk5 M l1 l2 0 v20 hl1 hl2 (jm_inL (by decide) (by decide)) h21
  · skip
    refine j_iconst (pc := 89) dX12_isYellow_89 ?_
    refine j_goto (tgt := 94) (pc := 90) dX12_isYellow_90 (by decide) ?_
    refine j_istore_n (pc := 94) [(3, jm_i 1), (5, jm_i s0), (0, jm_vr wd2 X 0 0), (1, jm_i l1), (2, jm_i l2), (4, jm_i l4)] dX12_isYellow_94 rfl (by decide) rfl ?_
    refine j_iinc (pc := 95) [(3, jm_i 1), (5, jm_i s0), (0, jm_vr wd2 X 0 0), (1, jm_i l1), (2, jm_i l2)] (q := 5) dX12_isYellow_95 rfl (by decide) (fun _ => rfl) (fun v22 h23 => ?_)
    refine j_goto (tgt := 5) (pc := 98) dX12_isYellow_98 (by decide) ?_
    refine j_sub (pc := 5) [(0, jm_vr wd2 X 0 0), (1, jm_i l1), (2, jm_i l2), (3, jm_i 1), (4, jm_i v22)] [3, 4, 5, 1, 0] rfl ?_
    exact hk5 M l1 l2 1 v22 hl1 hl2 (jm_inL (by decide) (by decide)) h23
set_option maxHeartbeats 4000000 in
set_option maxRecDepth 100000 in
theorem b0X12_isYellow_5 (X : jm_X) (fu : Nat) (k5 : jm_M → Int → Int → Int → Int → jm_R) (hk5 : ∀ (M : jm_M) (l1 l2 l3 l4 : Int) (hl1 : jm_in l1) (hl2 : jm_in l2) (hl3 : jm_in l3) (hl4 : jm_in l4), jm_J wd2 (jm_qi .boolean) cX12_isYellow 6 RX12 rmX12_isYellow X M [(0, jm_vr wd2 X 0 0), (1, jm_i l1), (2, jm_i l2), (3, jm_i l3), (4, jm_i l4)] [] 5 (k5 M l1 l2 l3 l4)) : ∀ (M : jm_M) (l1 l2 l3 l4 : Int) (hl1 : jm_in l1) (hl2 : jm_in l2) (hl3 : jm_in l3) (hl4 : jm_in l4), jm_J wd2 (jm_qi .boolean) cX12_isYellow 6 RX12 rmX12_isYellow X M [(0, jm_vr wd2 X 0 0), (1, jm_i l1), (2, jm_i l2), (3, jm_i l3), (4, jm_i l4)] [] 5 (gX12_isYellow_5 fu k5 M l1 l2 l3 l4) := by
  intro M l1 l2 l3 l4 hl1 hl2 hl3 hl4
  unfold gX12_isYellow_5
  refine j_iload (pc := 5) dX12_isYellow_5 (q := 4) rfl ?_
  refine j_aload_n (pc := 7) dX12_isYellow_7 rfl (q := 0) rfl ?_
  refine j_geti (pc := 8) jv2_0 jm_01 kf_RX12_27 kg2_0_12 dX12_isYellow_8 (fun h1 => ?_)
  refine j_icmp_ge (tgt := 101) (pc := 11) hl4 h1 dX12_isYellow_11 (by decide) (fun c2 => ?_) (fun c2 => ?_)
  · skip
    refine j_iload_n (pc := 101) dX12_isYellow_101 rfl (q := 3) rfl ?_
    exact j_zret (pc := 102) hl3 dX12_isYellow_102
  · skip
    refine j_iload_n (pc := 14) dX12_isYellow_14 rfl (q := 1) rfl ?_
    refine j_iconst (pc := 15) dX12_isYellow_15 ?_
    refine j_icmp_eq (tgt := 41) (pc := 16) hl1 (jm_inL (by decide) (by decide)) dX12_isYellow_16 (by decide) (fun c3 => ?_) (fun c3 => ?_)
    · skip
      refine j_iconst (pc := 41) dX12_isYellow_41 ?_
      refine j_goto (tgt := 46) (pc := 42) dX12_isYellow_42 (by decide) ?_
      refine j_sub (pc := 46) [(0, jm_vr wd2 X 0 0), (1, jm_i l1), (2, jm_i l2), (3, jm_i l3), (4, jm_i l4)] [0, 1, 2, 3, 4] rfl ?_
      exact bX12_isYellow_46 X fu k5 hk5 M l1 l2 l3 l4 1 hl1 hl2 hl3 hl4 (jm_inL (by decide) (by decide))
    · skip
      refine j_aload_n (pc := 19) dX12_isYellow_19 rfl (q := 0) rfl ?_
      refine j_getr (pc := 20) jv2_0 jm_01 kf_RX12_95 0 kg2_0_13 rfl dX12_isYellow_20 ?_
      refine j_iload (pc := 23) dX12_isYellow_23 (q := 4) rfl ?_
      refine j_iald (pc := 25) jv2_9 jm_01 rfl (by decide) ka2_9 dX12_isYellow_25 (fun c4 h5 => ?_)
      refine j_iconst (pc := 26) dX12_isYellow_26 ?_
      refine j_icmp_eq (tgt := 41) (pc := 27) h5 (jm_inL (by decide) (by decide)) dX12_isYellow_27 (by decide) (fun c6 => ?_) (fun c6 => ?_)
      · skip
        refine j_iconst (pc := 41) dX12_isYellow_41 ?_
        refine j_goto (tgt := 46) (pc := 42) dX12_isYellow_42 (by decide) ?_
        refine j_sub (pc := 46) [(0, jm_vr wd2 X 0 0), (1, jm_i l1), (2, jm_i l2), (3, jm_i l3), (4, jm_i l4)] [0, 1, 2, 3, 4] rfl ?_
        exact bX12_isYellow_46 X fu k5 hk5 M l1 l2 l3 l4 1 hl1 hl2 hl3 hl4 (jm_inL (by decide) (by decide))
      · skip
        refine j_aload_n (pc := 30) dX12_isYellow_30 rfl (q := 0) rfl ?_
        refine j_getr (pc := 31) jv2_0 jm_01 kf_RX12_95 0 kg2_0_13 rfl dX12_isYellow_31 ?_
        refine j_iload (pc := 34) dX12_isYellow_34 (q := 4) rfl ?_
        refine j_iald (pc := 36) jv2_9 jm_01 rfl (by decide) ka2_9 dX12_isYellow_36 (fun c7 h8 => ?_)
        refine j_iload_n (pc := 37) dX12_isYellow_37 rfl (q := 1) rfl ?_
        refine j_icmp_ne (tgt := 45) (pc := 38) h8 hl1 dX12_isYellow_38 (by decide) (fun c9 => ?_) (fun c9 => ?_)
        · skip
          refine j_iconst (pc := 41) dX12_isYellow_41 ?_
          refine j_goto (tgt := 46) (pc := 42) dX12_isYellow_42 (by decide) ?_
          refine j_sub (pc := 46) [(0, jm_vr wd2 X 0 0), (1, jm_i l1), (2, jm_i l2), (3, jm_i l3), (4, jm_i l4)] [0, 1, 2, 3, 4] rfl ?_
          exact bX12_isYellow_46 X fu k5 hk5 M l1 l2 l3 l4 1 hl1 hl2 hl3 hl4 (jm_inL (by decide) (by decide))
        · skip
          refine j_iconst (pc := 45) dX12_isYellow_45 ?_
          refine j_sub (pc := 46) [(0, jm_vr wd2 X 0 0), (1, jm_i l1), (2, jm_i l2), (3, jm_i l3), (4, jm_i l4)] [0, 1, 2, 3, 4] rfl ?_
          exact bX12_isYellow_46 X fu k5 hk5 M l1 l2 l3 l4 0 hl1 hl2 hl3 hl4 (jm_inL (by decide) (by decide))
theorem bX12_isYellow_5 (X : jm_X) (fu : Nat) : ∀ (n : Nat) (M : jm_M) (l1 l2 l3 l4 : Int) (hl1 : jm_in l1) (hl2 : jm_in l2) (hl3 : jm_in l3) (hl4 : jm_in l4), jm_J wd2 (jm_qi .boolean) cX12_isYellow 6 RX12 rmX12_isYellow X M [(0, jm_vr wd2 X 0 0), (1, jm_i l1), (2, jm_i l2), (3, jm_i l3), (4, jm_i l4)] [] 5 (fX12_isYellow_5 fu n M l1 l2 l3 l4) := by
  intro n
  induction n with
  | zero => intro M l1 l2 l3 l4 hl1 hl2 hl3 hl4; exact j_none
  | succ n ih => intro M l1 l2 l3 l4 hl1 hl2 hl3 hl4; exact b0X12_isYellow_5 X fu (fX12_isYellow_5 fu n) ih M l1 l2 l3 l4 hl1 hl2 hl3 hl4
set_option maxHeartbeats 4000000 in
set_option maxRecDepth 100000 in
theorem ct_X12_isYellow (fu : Nat) (M : jm_M) (l1 l2 : Int) (hl1 : jm_in l1) (hl2 : jm_in l2) : jm_Ci wd2 yX12_isYellow cX12_isYellow 6 (some .boolean) rmX12_isYellow M (fun G ad => [.ref (ad (jm_r wd2 0 0)), jm_i l1, jm_i l2]) (fX12_isYellow fu M l1 l2) := by
  refine jm_met_i (fun X => [(0, jm_vr wd2 X 0 0), (1, jm_i l1), (2, jm_i l2)]) (by decide) (fun _ _ => (Nat.le_of_ble_eq_true rfl)) (fun _ => rfl) (fun X => ?_)
  unfold fX12_isYellow
  refine j_iconst (pc := 0) dX12_isYellow_0 ?_
  refine j_istore_n (pc := 1) [(3, jm_i 0), (0, jm_vr wd2 X 0 0), (1, jm_i l1), (2, jm_i l2)] dX12_isYellow_1 rfl (by decide) rfl ?_
  refine j_iconst (pc := 2) dX12_isYellow_2 ?_
  refine j_istore (pc := 3) [(4, jm_i 0), (3, jm_i 0), (0, jm_vr wd2 X 0 0), (1, jm_i l1), (2, jm_i l2)] dX12_isYellow_3 (by decide) rfl ?_
  refine j_sub (pc := 5) [(0, jm_vr wd2 X 0 0), (1, jm_i l1), (2, jm_i l2), (3, jm_i 0), (4, jm_i 0)] [2, 3, 4, 1, 0] rfl ?_
  exact bX12_isYellow_5 X fu  fu M l1 l2 0 0 hl1 hl2 (jm_inL (by decide) (by decide)) (jm_inL (by decide) (by decide))
abbrev rmX12_latest : Room := { frames := 0, cells := 0, slots := 0, locals := 0 }
set_option maxHeartbeats 4000000 in
set_option maxRecDepth 100000 in
theorem b0X12_latest_6 (X : jm_X) (fu : Nat) (k6 : jm_M → Int → Int → Int → Int → Int → jm_R) (hk6 : ∀ (M : jm_M) (l1 l2 l3 l4 l5 : Int) (hl1 : jm_in l1) (hl2 : jm_in l2) (hl3 : jm_in l3) (hl4 : jm_in l4) (hl5 : jm_in l5), jm_J wd2 (jm_qi .int) cX12_latest 7 RX12 rmX12_latest X M [(0, jm_vr wd2 X 0 0), (1, jm_i l1), (2, jm_i l2), (3, jm_i l3), (4, jm_i l4), (5, jm_i l5)] [] 6 (k6 M l1 l2 l3 l4 l5)) : ∀ (M : jm_M) (l1 l2 l3 l4 l5 : Int) (hl1 : jm_in l1) (hl2 : jm_in l2) (hl3 : jm_in l3) (hl4 : jm_in l4) (hl5 : jm_in l5), jm_J wd2 (jm_qi .int) cX12_latest 7 RX12 rmX12_latest X M [(0, jm_vr wd2 X 0 0), (1, jm_i l1), (2, jm_i l2), (3, jm_i l3), (4, jm_i l4), (5, jm_i l5)] [] 6 (gX12_latest_6 fu k6 M l1 l2 l3 l4 l5) := by
  intro M l1 l2 l3 l4 l5 hl1 hl2 hl3 hl4 hl5
  unfold gX12_latest_6
  refine j_iload (pc := 6) dX12_latest_6 (q := 5) rfl ?_
  refine j_aload_n (pc := 8) dX12_latest_8 rfl (q := 0) rfl ?_
  refine j_geti (pc := 9) jv2_0 jm_01 kf_RX12_30 kg2_0_17 dX12_latest_9 (fun h1 => ?_)
  refine j_icmp_ge (tgt := 76) (pc := 12) hl5 h1 dX12_latest_12 (by decide) (fun c2 => ?_) (fun c2 => ?_)
  · skip
    refine j_iload (pc := 76) dX12_latest_76 (q := 4) rfl ?_
    exact j_iret (pc := 78) hl4 rfl dX12_latest_78
  · skip
    refine j_aload_n (pc := 15) dX12_latest_15 rfl (q := 0) rfl ?_
    refine j_getr (pc := 16) jv2_0 jm_01 kf_RX12_366 0 kg2_0_66 rfl dX12_latest_16 ?_
    refine j_iconst (pc := 19) dX12_latest_19 ?_
    refine j_iload (pc := 20) dX12_latest_20 (q := 5) rfl ?_
    refine j_imul (pc := 22) dX12_latest_22 ?_
    refine j_iload_n (pc := 23) dX12_latest_23 rfl (q := 2) rfl ?_
    refine j_iadd (pc := 24) dX12_latest_24 ?_
    refine j_iald (pc := 25) jv2_56 jm_01 rfl (by decide) ka2_56 dX12_latest_25 (fun c3 h4 => ?_)
    refine j_nm (pc := 26) h4 (fun v5 h6 => ?_)
    refine j_istore (pc := 26) [(6, jm_i v5), (0, jm_vr wd2 X 0 0), (1, jm_i l1), (2, jm_i l2), (3, jm_i l3), (4, jm_i l4), (5, jm_i l5)] dX12_latest_26 (by decide) rfl ?_
    refine j_iload (pc := 28) dX12_latest_28 (q := 6) rfl ?_
    refine j_iload_n (pc := 30) dX12_latest_30 rfl (q := 2) rfl ?_
    refine j_icmp_eq (tgt := 70) (pc := 31) hl5 hl1 dX12_latest_31 (by decide) (fun c7 => ?_) (fun c7 => ?_)
    · skip
      refine j_iinc (pc := 70) [(6, jm_i v5), (0, jm_vr wd2 X 0 0), (1, jm_i l1), (2, jm_i l2), (3, jm_i l3), (4, jm_i l4)] (q := 6) dX12_latest_70 rfl (by decide) (fun _ => rfl) (fun v8 h9 => ?_)
      refine j_goto (tgt := 6) (pc := 73) dX12_latest_73 (by decide) ?_
      refine j_sub (pc := 6) [(0, jm_vr wd2 X 0 0), (1, jm_i l1), (2, jm_i l2), (3, jm_i l3), (4, jm_i l4), (5, jm_i v8)] [2, 3, 4, 5, 6, 0] rfl ?_
      exact hk6 M l1 l2 l3 l4 v8 hl1 hl2 hl3 hl4 h9
    · skip
      refine j_iload (pc := 34) dX12_latest_34 (q := 0) rfl ?_
      refine j_if_lt (tgt := 70) (pc := 36) h6 dX12_latest_36 (by decide) (fun c10 => ?_) (fun c10 => ?_)
      · skip
        refine j_iinc (pc := 70) [(6, jm_i v5), (0, jm_vr wd2 X 0 0), (1, jm_i l1), (2, jm_i l2), (3, jm_i l3), (4, jm_i l4)] (q := 6) dX12_latest_70 rfl (by decide) (fun _ => rfl) (fun v11 h12 => ?_)
        refine j_goto (tgt := 6) (pc := 73) dX12_latest_73 (by decide) ?_
        refine j_sub (pc := 6) [(0, jm_vr wd2 X 0 0), (1, jm_i l1), (2, jm_i l2), (3, jm_i l3), (4, jm_i l4), (5, jm_i v11)] [2, 3, 4, 5, 6, 0] rfl ?_
        exact hk6 M l1 l2 l3 l4 v11 hl1 hl2 hl3 hl4 h12
      · skip
        refine j_iload (pc := 39) dX12_latest_39 (q := 0) rfl ?_
        refine j_iload_n (pc := 41) dX12_latest_41 rfl (q := 4) rfl ?_
        refine j_icmp_ge (tgt := 70) (pc := 42) h6 hl3 dX12_latest_42 (by decide) (fun c13 => ?_) (fun c13 => ?_)
        · skip
          refine j_iinc (pc := 70) [(6, jm_i v5), (0, jm_vr wd2 X 0 0), (1, jm_i l1), (2, jm_i l2), (3, jm_i l3), (4, jm_i l4)] (q := 6) dX12_latest_70 rfl (by decide) (fun _ => rfl) (fun v14 h15 => ?_)
          refine j_goto (tgt := 6) (pc := 73) dX12_latest_73 (by decide) ?_
          refine j_sub (pc := 6) [(0, jm_vr wd2 X 0 0), (1, jm_i l1), (2, jm_i l2), (3, jm_i l3), (4, jm_i l4), (5, jm_i v14)] [2, 3, 4, 5, 6, 0] rfl ?_
          exact hk6 M l1 l2 l3 l4 v14 hl1 hl2 hl3 hl4 h15
        · skip
          refine j_iload (pc := 45) dX12_latest_45 (q := 5) rfl ?_
          refine j_if_lt (tgt := 66) (pc := 47) hl4 dX12_latest_47 (by decide) (fun c16 => ?_) (fun c16 => ?_)
          · skip
            refine j_iload (pc := 66) dX12_latest_66 (q := 6) rfl ?_
            refine j_istore (pc := 68) [(4, jm_i l5), (6, jm_i v5), (0, jm_vr wd2 X 0 0), (1, jm_i l1), (2, jm_i l2), (3, jm_i l3), (5, jm_i l5)] dX12_latest_68 (by decide) rfl ?_
            refine j_iinc (pc := 70) [(4, jm_i l5), (6, jm_i v5), (0, jm_vr wd2 X 0 0), (1, jm_i l1), (2, jm_i l2), (3, jm_i l3)] (q := 6) dX12_latest_70 rfl (by decide) (fun _ => rfl) (fun v17 h18 => ?_)
            refine j_goto (tgt := 6) (pc := 73) dX12_latest_73 (by decide) ?_
            refine j_sub (pc := 6) [(0, jm_vr wd2 X 0 0), (1, jm_i l1), (2, jm_i l2), (3, jm_i l3), (4, jm_i l5), (5, jm_i v17)] [3, 4, 5, 6, 1, 0] rfl ?_
            exact hk6 M l1 l2 l3 l5 v17 hl1 hl2 hl3 hl5 h18
          · skip
            refine j_iload (pc := 50) dX12_latest_50 (q := 0) rfl ?_
            refine j_aload_n (pc := 52) dX12_latest_52 rfl (q := 1) rfl ?_
            refine j_getr (pc := 53) jv2_0 jm_01 kf_RX12_366 0 kg2_0_66 rfl dX12_latest_53 ?_
            refine j_iconst (pc := 56) dX12_latest_56 ?_
            refine j_iload (pc := 57) dX12_latest_57 (q := 5) rfl ?_
            refine j_imul (pc := 59) dX12_latest_59 ?_
            refine j_iload_n (pc := 60) dX12_latest_60 rfl (q := 3) rfl ?_
            refine j_iadd (pc := 61) dX12_latest_61 ?_
            refine j_iald (pc := 62) jv2_56 jm_01 rfl (by decide) ka2_56 dX12_latest_62 (fun c19 h20 => ?_)
            refine j_icmp_le (tgt := 70) (pc := 63) h6 h20 dX12_latest_63 (by decide) (fun c21 => ?_) (fun c21 => ?_)
            · skip
              refine j_iinc (pc := 70) [(6, jm_i v5), (0, jm_vr wd2 X 0 0), (1, jm_i l1), (2, jm_i l2), (3, jm_i l3), (4, jm_i l4)] (q := 6) dX12_latest_70 rfl (by decide) (fun _ => rfl) (fun v22 h23 => ?_)
              refine j_goto (tgt := 6) (pc := 73) dX12_latest_73 (by decide) ?_
              refine j_sub (pc := 6) [(0, jm_vr wd2 X 0 0), (1, jm_i l1), (2, jm_i l2), (3, jm_i l3), (4, jm_i l4), (5, jm_i v22)] [2, 3, 4, 5, 6, 0] rfl ?_
              exact hk6 M l1 l2 l3 l4 v22 hl1 hl2 hl3 hl4 h23
            · skip
              refine j_iload (pc := 66) dX12_latest_66 (q := 6) rfl ?_
              refine j_istore (pc := 68) [(4, jm_i l5), (6, jm_i v5), (0, jm_vr wd2 X 0 0), (1, jm_i l1), (2, jm_i l2), (3, jm_i l3), (5, jm_i l5)] dX12_latest_68 (by decide) rfl ?_
              refine j_iinc (pc := 70) [(4, jm_i l5), (6, jm_i v5), (0, jm_vr wd2 X 0 0), (1, jm_i l1), (2, jm_i l2), (3, jm_i l3)] (q := 6) dX12_latest_70 rfl (by decide) (fun _ => rfl) (fun v24 h25 => ?_)
              refine j_goto (tgt := 6) (pc := 73) dX12_latest_73 (by decide) ?_
              refine j_sub (pc := 6) [(0, jm_vr wd2 X 0 0), (1, jm_i l1), (2, jm_i l2), (3, jm_i l3), (4, jm_i l5), (5, jm_i v24)] [3, 4, 5, 6, 1, 0] rfl ?_
              exact hk6 M l1 l2 l3 l5 v24 hl1 hl2 hl3 hl5 h25
theorem bX12_latest_6 (X : jm_X) (fu : Nat) : ∀ (n : Nat) (M : jm_M) (l1 l2 l3 l4 l5 : Int) (hl1 : jm_in l1) (hl2 : jm_in l2) (hl3 : jm_in l3) (hl4 : jm_in l4) (hl5 : jm_in l5), jm_J wd2 (jm_qi .int) cX12_latest 7 RX12 rmX12_latest X M [(0, jm_vr wd2 X 0 0), (1, jm_i l1), (2, jm_i l2), (3, jm_i l3), (4, jm_i l4), (5, jm_i l5)] [] 6 (fX12_latest_6 fu n M l1 l2 l3 l4 l5) := by
  intro n
  induction n with
  | zero => intro M l1 l2 l3 l4 l5 hl1 hl2 hl3 hl4 hl5; exact j_none
  | succ n ih => intro M l1 l2 l3 l4 l5 hl1 hl2 hl3 hl4 hl5; exact b0X12_latest_6 X fu (fX12_latest_6 fu n) ih M l1 l2 l3 l4 l5 hl1 hl2 hl3 hl4 hl5
set_option maxHeartbeats 4000000 in
set_option maxRecDepth 100000 in
theorem ct_X12_latest (fu : Nat) (M : jm_M) (l1 l2 l3 : Int) (hl1 : jm_in l1) (hl2 : jm_in l2) (hl3 : jm_in l3) : jm_Ci wd2 yX12_latest cX12_latest 7 (some .int) rmX12_latest M (fun G ad => [.ref (ad (jm_r wd2 0 0)), jm_i l1, jm_i l2, jm_i l3]) (fX12_latest fu M l1 l2 l3) := by
  refine jm_met_i (fun X => [(0, jm_vr wd2 X 0 0), (1, jm_i l1), (2, jm_i l2), (3, jm_i l3)]) (by decide) (fun _ _ => (Nat.le_of_ble_eq_true rfl)) (fun _ => rfl) (fun X => ?_)
  unfold fX12_latest
  refine j_iconst (pc := 0) dX12_latest_0 ?_
  refine j_istore (pc := 1) [(4, jm_i (-1)), (0, jm_vr wd2 X 0 0), (1, jm_i l1), (2, jm_i l2), (3, jm_i l3)] dX12_latest_1 (by decide) rfl ?_
  refine j_iconst (pc := 3) dX12_latest_3 ?_
  refine j_istore (pc := 4) [(5, jm_i 0), (4, jm_i (-1)), (0, jm_vr wd2 X 0 0), (1, jm_i l1), (2, jm_i l2), (3, jm_i l3)] dX12_latest_4 (by decide) rfl ?_
  refine j_sub (pc := 6) [(0, jm_vr wd2 X 0 0), (1, jm_i l1), (2, jm_i l2), (3, jm_i l3), (4, jm_i (-1)), (5, jm_i 0)] [2, 3, 4, 5, 1, 0] rfl ?_
  exact bX12_latest_6 X fu  fu M l1 l2 l3 (-1) 0 hl1 hl2 hl3 (jm_inL (by decide) (by decide)) (jm_inL (by decide) (by decide))
abbrev rmX12_held : Room := { frames := 1, cells := 0, slots := 0, locals := 26 }
set_option maxHeartbeats 4000000 in
set_option maxRecDepth 100000 in
theorem bX12_held_181 (X : jm_X) (fu : Nat) (k37 : jm_M → Int → Int → Int → Int → Int → jm_R) (hk37 : ∀ (M : jm_M) (l1 l2 l6 l7 l8 : Int) (hl1 : jm_in l1) (hl2 : jm_in l2) (hl6 : jm_in l6) (hl7 : jm_in l7) (hl8 : jm_in l8), jm_J wd2 (jm_qi .int) cX12_held 11 RX12 rmX12_held X M [(0, jm_vr wd2 X 0 0), (1, jm_i l1), (2, jm_i l2), (6, jm_i l6), (7, jm_i l7), (8, jm_i l8)] [] 37 (k37 M l1 l2 l6 l7 l8)) : ∀ (M : jm_M) (l1 l2 l6 l7 l8 s0 s1 s2 : Int) (hl1 : jm_in l1) (hl2 : jm_in l2) (hl6 : jm_in l6) (hl7 : jm_in l7) (hl8 : jm_in l8) (hs0 : jm_in s0) (hs1 : jm_in s1) (hs2 : jm_in s2), jm_J wd2 (jm_qi .int) cX12_held 11 RX12 rmX12_held X M [(0, jm_vr wd2 X 0 0), (1, jm_i l1), (2, jm_i l2), (6, jm_i l6), (7, jm_i l7), (8, jm_i l8)] [jm_i s0, jm_i s1, jm_i s2, jm_vr wd2 X 51 0] 181 (gX12_held_181 fu k37 M l1 l2 l6 l7 l8 s0 s1 s2) := by
  intro M l1 l2 l6 l7 l8 s0 s1 s2 hl1 hl2 hl6 hl7 hl8 hs0 hs1 hs2
  unfold gX12_held_181
  refine j_iadd (pc := 181) dX12_held_181 ?_
  refine j_iast (pc := 182) jv2_51 jm_01 rfl (by decide) wI2 ka2_51 (jm_w_in _) dX12_held_182 (fun c1 M2 => ?_)
  refine j_aload_n (pc := 183) dX12_held_183 rfl (q := 0) rfl ?_
  refine j_iload_n (pc := 184) dX12_held_184 rfl (q := 1) rfl ?_
  refine j_iload_n (pc := 185) dX12_held_185 rfl (q := 2) rfl ?_
  refine j_aload_n (pc := 186) dX12_held_186 rfl (q := 0) rfl ?_
  refine j_getr (pc := 187) jv2_0 jm_01 kf_RX12_366 0 kg2_0_66 rfl dX12_held_187 ?_
  refine j_iconst (pc := 190) dX12_held_190 ?_
  refine j_iload (pc := 191) dX12_held_191 (q := 5) rfl ?_
  refine j_imul (pc := 193) dX12_held_193 ?_
  refine j_iload_n (pc := 194) dX12_held_194 rfl (q := 2) rfl ?_
  refine j_iadd (pc := 195) dX12_held_195 ?_
  refine j_iald (pc := 196) jv2_56 jm_01 rfl (by decide) ka2_56 dX12_held_196 (fun c3 h4 => ?_)
  refine j_callVi3 (pc := 197) (ct_X12_latest fu M2 l1 l2 (M2 56 0 (jm_w ((jm_w (5 * l8)) + l2))) hl1 hl2 h4) kg_1588 km_X12_latest kv_X12_latest rfl rfl ⟨(Nat.le_of_ble_eq_true rfl), (Nat.le_of_ble_eq_true rfl)⟩ jv2_0 jm_01 ko2_0 rfl rfl (Nat.le_of_ble_eq_true rfl) dX12_held_197 (fun v5 M6 h7 => ?_)
  refine j_istore (pc := 200) [(8, jm_i v5), (0, jm_vr wd2 X 0 0), (1, jm_i l1), (2, jm_i l2), (6, jm_i l6), (7, jm_i l7)] dX12_held_200 (by decide) rfl ?_
  refine j_goto (tgt := 37) (pc := 202) dX12_held_202 (by decide) ?_
  refine j_sub (pc := 37) [(0, jm_vr wd2 X 0 0), (1, jm_i l1), (2, jm_i l2), (6, jm_i l6), (7, jm_i l7), (8, jm_i v5)] [1, 2, 3, 4, 5, 0] rfl ?_
  exact hk37 M6 l1 l2 l6 l7 v5 hl1 hl2 hl6 hl7 h7
set_option maxHeartbeats 4000000 in
set_option maxRecDepth 100000 in
theorem bX12_held_154 (X : jm_X) (fu : Nat) (k37 : jm_M → Int → Int → Int → Int → Int → jm_R) (hk37 : ∀ (M : jm_M) (l1 l2 l6 l7 l8 : Int) (hl1 : jm_in l1) (hl2 : jm_in l2) (hl6 : jm_in l6) (hl7 : jm_in l7) (hl8 : jm_in l8), jm_J wd2 (jm_qi .int) cX12_held 11 RX12 rmX12_held X M [(0, jm_vr wd2 X 0 0), (1, jm_i l1), (2, jm_i l2), (6, jm_i l6), (7, jm_i l7), (8, jm_i l8)] [] 37 (k37 M l1 l2 l6 l7 l8)) : ∀ (M : jm_M) (l1 l2 l6 l7 l8 : Int) (hl1 : jm_in l1) (hl2 : jm_in l2) (hl6 : jm_in l6) (hl7 : jm_in l7) (hl8 : jm_in l8), jm_J wd2 (jm_qi .int) cX12_held 11 RX12 rmX12_held X M [(0, jm_vr wd2 X 0 0), (1, jm_i l1), (2, jm_i l2), (6, jm_i l6), (7, jm_i l7), (8, jm_i l8)] [] 154 (gX12_held_154 fu k37 M l1 l2 l6 l7 l8) := by
  intro M l1 l2 l6 l7 l8 hl1 hl2 hl6 hl7 hl8
  unfold gX12_held_154
  refine j_aload_n (pc := 154) dX12_held_154 rfl (q := 0) rfl ?_
  refine j_getr (pc := 155) jv2_0 jm_01 kf_RX12_351 0 kg2_0_62 rfl dX12_held_155 ?_
  refine j_iload_n (pc := 158) dX12_held_158 rfl (q := 1) rfl ?_
  refine j_dup2 (pc := 159) dX12_held_159 rfl rfl ?_
  refine j_iald (pc := 160) jv2_52 jm_01 rfl (by decide) ka2_52 dX12_held_160 (fun c1 h2 => ?_)
  refine j_iconst (pc := 161) dX12_held_161 ?_
  refine j_iadd (pc := 162) dX12_held_162 ?_
  refine j_iast (pc := 163) jv2_52 jm_01 rfl (by decide) wI2 ka2_52 (jm_w_in _) dX12_held_163 (fun c3 M4 => ?_)
  refine j_aload_n (pc := 164) dX12_held_164 rfl (q := 0) rfl ?_
  refine j_getr (pc := 165) jv2_0 jm_01 kf_RX12_348 0 kg2_0_61 rfl dX12_held_165 ?_
  refine j_iload_n (pc := 168) dX12_held_168 rfl (q := 1) rfl ?_
  refine j_dup2 (pc := 169) dX12_held_169 rfl rfl ?_
  refine j_iald (pc := 170) jv2_51 jm_01 rfl (by decide) ka2_51 dX12_held_170 (fun c5 h6 => ?_)
  refine j_iload (pc := 171) dX12_held_171 (q := 4) rfl ?_
  refine j_if_eq (tgt := 180) (pc := 173) hl7 dX12_held_173 (by decide) (fun c7 => ?_) (fun c7 => ?_)
  · skip
    refine j_iconst (pc := 180) dX12_held_180 ?_
    refine j_sub (pc := 181) [(0, jm_vr wd2 X 0 0), (1, jm_i l1), (2, jm_i l2), (6, jm_i l6), (7, jm_i l7), (8, jm_i l8)] [0, 1, 2, 3, 4, 5] rfl ?_
    exact bX12_held_181 X fu k37 hk37 M4 l1 l2 l6 l7 l8 0 (M4 51 0 l1) l1 hl1 hl2 hl6 hl7 hl8 (jm_inL (by decide) (by decide)) h6 hl1
  · skip
    refine j_iconst (pc := 176) dX12_held_176 ?_
    refine j_goto (tgt := 181) (pc := 177) dX12_held_177 (by decide) ?_
    refine j_sub (pc := 181) [(0, jm_vr wd2 X 0 0), (1, jm_i l1), (2, jm_i l2), (6, jm_i l6), (7, jm_i l7), (8, jm_i l8)] [0, 1, 2, 3, 4, 5] rfl ?_
    exact bX12_held_181 X fu k37 hk37 M4 l1 l2 l6 l7 l8 1 (M4 51 0 l1) l1 hl1 hl2 hl6 hl7 hl8 (jm_inL (by decide) (by decide)) h6 hl1
set_option maxHeartbeats 4000000 in
set_option maxRecDepth 100000 in
theorem bX12_held_134 (X : jm_X) (fu : Nat) : ∀ (M : jm_M) (l1 l9 : Int) (hl1 : jm_in l1) (hl9 : jm_in l9), jm_J wd2 (jm_qi .int) cX12_held 11 RX12 rmX12_held X M [(0, jm_vr wd2 X 0 0), (1, jm_i l1), (9, jm_i l9)] [] 134 (gX12_held_134 fu M l1 l9) := by
  intro M l1 l9 hl1 hl9
  unfold gX12_held_134
  refine j_aload_n (pc := 134) dX12_held_134 rfl (q := 0) rfl ?_
  refine j_getr (pc := 135) jv2_0 jm_01 kf_RX12_354 0 kg2_0_63 rfl dX12_held_135 ?_
  refine j_iload_n (pc := 138) dX12_held_138 rfl (q := 1) rfl ?_
  refine j_dup2 (pc := 139) dX12_held_139 rfl rfl ?_
  refine j_iald (pc := 140) jv2_53 jm_01 rfl (by decide) ka2_53 dX12_held_140 (fun c1 h2 => ?_)
  refine j_iconst (pc := 141) dX12_held_141 ?_
  refine j_iadd (pc := 142) dX12_held_142 ?_
  refine j_iast (pc := 143) jv2_53 jm_01 rfl (by decide) wI2 ka2_53 (jm_w_in _) dX12_held_143 (fun c3 M4 => ?_)
  refine j_iload (pc := 144) dX12_held_144 (q := 2) rfl ?_
  refine j_aload_n (pc := 146) dX12_held_146 rfl (q := 0) rfl ?_
  refine j_getr (pc := 147) jv2_0 jm_01 kf_RX12_83 0 kg2_0_7 rfl dX12_held_147 ?_
  refine j_iconst (pc := 150) dX12_held_150 ?_
  refine j_iald (pc := 151) jv2_5 jm_01 rfl (by decide) ka2_5 dX12_held_151 (fun c5 h6 => ?_)
  refine j_iadd (pc := 152) dX12_held_152 ?_
  exact j_iret (pc := 153) (jm_w_in _) rfl dX12_held_153
set_option maxHeartbeats 4000000 in
set_option maxRecDepth 100000 in
theorem bX12_held_103 (X : jm_X) (fu : Nat) (k37 : jm_M → Int → Int → Int → Int → Int → jm_R) (hk37 : ∀ (M : jm_M) (l1 l2 l6 l7 l8 : Int) (hl1 : jm_in l1) (hl2 : jm_in l2) (hl6 : jm_in l6) (hl7 : jm_in l7) (hl8 : jm_in l8), jm_J wd2 (jm_qi .int) cX12_held 11 RX12 rmX12_held X M [(0, jm_vr wd2 X 0 0), (1, jm_i l1), (2, jm_i l2), (6, jm_i l6), (7, jm_i l7), (8, jm_i l8)] [] 37 (k37 M l1 l2 l6 l7 l8)) : ∀ (M : jm_M) (l1 l2 l6 l7 l8 l9 s0 : Int) (hl1 : jm_in l1) (hl2 : jm_in l2) (hl6 : jm_in l6) (hl7 : jm_in l7) (hl8 : jm_in l8) (hl9 : jm_in l9) (hs0 : jm_in s0), jm_J wd2 (jm_qi .int) cX12_held 11 RX12 rmX12_held X M [(0, jm_vr wd2 X 0 0), (1, jm_i l1), (2, jm_i l2), (6, jm_i l6), (7, jm_i l7), (8, jm_i l8), (9, jm_i l9)] [jm_i s0] 103 (gX12_held_103 fu k37 M l1 l2 l6 l7 l8 l9 s0) := by
  intro M l1 l2 l6 l7 l8 l9 s0 hl1 hl2 hl6 hl7 hl8 hl9 hs0
  unfold gX12_held_103
  refine j_istore (pc := 103) [(10, jm_i s0), (0, jm_vr wd2 X 0 0), (1, jm_i l1), (2, jm_i l2), (6, jm_i l6), (7, jm_i l7), (8, jm_i l8), (9, jm_i l9)] dX12_held_103 (by decide) rfl ?_
  refine j_iload (pc := 105) dX12_held_105 (q := 0) rfl ?_
  refine j_if_lt (tgt := 134) (pc := 107) hs0 dX12_held_107 (by decide) (fun c1 => ?_) (fun c1 => ?_)
  · skip
    refine j_sub (pc := 134) [(0, jm_vr wd2 X 0 0), (1, jm_i l1), (9, jm_i l9)] [1, 2, 7] rfl ?_
    exact bX12_held_134 X fu  M l1 l9 hl1 hl9
  · skip
    refine j_iload (pc := 110) dX12_held_110 (q := 4) rfl ?_
    refine j_iload (pc := 112) dX12_held_112 (q := 0) rfl ?_
    refine j_iadd (pc := 114) dX12_held_114 ?_
    refine j_iload (pc := 115) dX12_held_115 (q := 7) rfl ?_
    refine j_icmp_gt (tgt := 134) (pc := 117) (jm_w_in _) hl9 dX12_held_117 (by decide) (fun c2 => ?_) (fun c2 => ?_)
    · skip
      refine j_sub (pc := 134) [(0, jm_vr wd2 X 0 0), (1, jm_i l1), (9, jm_i l9)] [1, 2, 7] rfl ?_
      exact bX12_held_134 X fu  M l1 l9 hl1 hl9
    · skip
      refine j_iload (pc := 120) dX12_held_120 (q := 5) rfl ?_
      refine j_if_eq (tgt := 154) (pc := 122) hl7 dX12_held_122 (by decide) (fun c3 => ?_) (fun c3 => ?_)
      · skip
        refine j_sub (pc := 154) [(0, jm_vr wd2 X 0 0), (1, jm_i l1), (2, jm_i l2), (6, jm_i l6), (7, jm_i l7), (8, jm_i l8)] [1, 2, 3, 4, 5, 6] rfl ?_
        exact bX12_held_154 X fu k37 hk37 M l1 l2 l6 l7 l8 hl1 hl2 hl6 hl7 hl8
      · skip
        refine j_aload_n (pc := 125) dX12_held_125 rfl (q := 1) rfl ?_
        refine j_getr (pc := 126) jv2_0 jm_01 kf_RX12_339 0 kg2_0_58 rfl dX12_held_126 ?_
        refine j_iload_n (pc := 129) dX12_held_129 rfl (q := 2) rfl ?_
        refine j_iald (pc := 130) jv2_48 jm_01 rfl (by decide) ka2_48 dX12_held_130 (fun c4 h5 => ?_)
        refine j_if_ne (tgt := 154) (pc := 131) h5 dX12_held_131 (by decide) (fun c6 => ?_) (fun c6 => ?_)
        · skip
          refine j_sub (pc := 134) [(0, jm_vr wd2 X 0 0), (1, jm_i l1), (9, jm_i l9)] [1, 2, 7] rfl ?_
          exact bX12_held_134 X fu  M l1 l9 hl1 hl9
        · skip
          refine j_sub (pc := 154) [(0, jm_vr wd2 X 0 0), (1, jm_i l1), (2, jm_i l2), (6, jm_i l6), (7, jm_i l7), (8, jm_i l8)] [1, 2, 3, 4, 5, 6] rfl ?_
          exact bX12_held_154 X fu k37 hk37 M l1 l2 l6 l7 l8 hl1 hl2 hl6 hl7 hl8
set_option maxHeartbeats 4000000 in
set_option maxRecDepth 100000 in
theorem b0X12_held_37 (X : jm_X) (fu : Nat) (k37 : jm_M → Int → Int → Int → Int → Int → jm_R) (hk37 : ∀ (M : jm_M) (l1 l2 l6 l7 l8 : Int) (hl1 : jm_in l1) (hl2 : jm_in l2) (hl6 : jm_in l6) (hl7 : jm_in l7) (hl8 : jm_in l8), jm_J wd2 (jm_qi .int) cX12_held 11 RX12 rmX12_held X M [(0, jm_vr wd2 X 0 0), (1, jm_i l1), (2, jm_i l2), (6, jm_i l6), (7, jm_i l7), (8, jm_i l8)] [] 37 (k37 M l1 l2 l6 l7 l8)) : ∀ (M : jm_M) (l1 l2 l6 l7 l8 : Int) (hl1 : jm_in l1) (hl2 : jm_in l2) (hl6 : jm_in l6) (hl7 : jm_in l7) (hl8 : jm_in l8), jm_J wd2 (jm_qi .int) cX12_held 11 RX12 rmX12_held X M [(0, jm_vr wd2 X 0 0), (1, jm_i l1), (2, jm_i l2), (6, jm_i l6), (7, jm_i l7), (8, jm_i l8)] [] 37 (gX12_held_37 fu k37 M l1 l2 l6 l7 l8) := by
  intro M l1 l2 l6 l7 l8 hl1 hl2 hl6 hl7 hl8
  unfold gX12_held_37
  refine j_iload (pc := 37) dX12_held_37 (q := 5) rfl ?_
  refine j_if_lt (tgt := 205) (pc := 39) hl8 dX12_held_39 (by decide) (fun c1 => ?_) (fun c1 => ?_)
  · skip
    refine j_iload (pc := 205) dX12_held_205 (q := 3) rfl ?_
    exact j_iret (pc := 207) hl6 rfl dX12_held_207
  · skip
    refine j_aload_n (pc := 42) dX12_held_42 rfl (q := 0) rfl ?_
    refine j_getr (pc := 43) jv2_0 jm_01 kf_RX12_405 0 kg2_0_67 rfl dX12_held_43 ?_
    refine j_iconst (pc := 46) dX12_held_46 ?_
    refine j_iload (pc := 47) dX12_held_47 (q := 5) rfl ?_
    refine j_imul (pc := 49) dX12_held_49 ?_
    refine j_iload_n (pc := 50) dX12_held_50 rfl (q := 2) rfl ?_
    refine j_iadd (pc := 51) dX12_held_51 ?_
    refine j_iald (pc := 52) jv2_57 jm_01 rfl (by decide) ka2_57 dX12_held_52 (fun c2 h3 => ?_)
    refine j_nm (pc := 53) h3 (fun v4 h5 => ?_)
    refine j_istore (pc := 53) [(9, jm_i v4), (0, jm_vr wd2 X 0 0), (1, jm_i l1), (2, jm_i l2), (6, jm_i l6), (7, jm_i l7), (8, jm_i l8)] dX12_held_53 (by decide) rfl ?_
    refine j_iload (pc := 55) dX12_held_55 (q := 4) rfl ?_
    refine j_iload (pc := 57) dX12_held_57 (q := 0) rfl ?_
    refine j_aload_n (pc := 59) dX12_held_59 rfl (q := 1) rfl ?_
    refine j_getr (pc := 60) jv2_0 jm_01 kf_RX12_83 0 kg2_0_7 rfl dX12_held_60 ?_
    refine j_iconst (pc := 63) dX12_held_63 ?_
    refine j_iald (pc := 64) jv2_5 jm_01 rfl (by decide) ka2_5 dX12_held_64 (fun c6 h7 => ?_)
    refine j_iadd (pc := 65) dX12_held_65 ?_
    refine j_icmp_lt (tgt := 72) (pc := 66) hl6 (jm_w_in _) dX12_held_66 (by decide) (fun c8 => ?_) (fun c8 => ?_)
    · skip
      refine j_aload_n (pc := 72) dX12_held_72 rfl (q := 1) rfl ?_
      refine j_getr (pc := 73) jv2_0 jm_01 kf_RX12_324 0 kg2_0_52 rfl dX12_held_73 ?_
      refine j_iload_n (pc := 76) dX12_held_76 rfl (q := 2) rfl ?_
      refine j_iald (pc := 77) jv2_42 jm_01 rfl (by decide) ka2_42 dX12_held_77 (fun c9 h10 => ?_)
      refine j_aload_n (pc := 78) dX12_held_78 rfl (q := 1) rfl ?_
      refine j_getr (pc := 79) jv2_0 jm_01 kf_RX12_324 0 kg2_0_52 rfl dX12_held_79 ?_
      refine j_iload (pc := 82) dX12_held_82 (q := 6) rfl ?_
      refine j_iald (pc := 84) jv2_42 jm_01 rfl (by decide) ka2_42 dX12_held_84 (fun c11 h12 => ?_)
      refine j_isub (pc := 85) dX12_held_85 ?_
      refine j_aload_n (pc := 86) dX12_held_86 rfl (q := 1) rfl ?_
      refine j_geti (pc := 87) jv2_0 jm_01 kf_RX12_7 kg2_0_1 dX12_held_87 (fun h13 => ?_)
      refine j_icmp_lt (tgt := 97) (pc := 90) (jm_w_in _) h13 dX12_held_90 (by decide) (fun c14 => ?_) (fun c14 => ?_)
      · skip
        refine j_aload_n (pc := 97) dX12_held_97 rfl (q := 1) rfl ?_
        refine j_getr (pc := 98) jv2_0 jm_01 kf_RX12_17 0 kg2_0_4 rfl dX12_held_98 ?_
        refine j_iload_n (pc := 101) dX12_held_101 rfl (q := 3) rfl ?_
        refine j_iald (pc := 102) jv2_2 jm_01 rfl (by decide) ka2_2 dX12_held_102 (fun c15 h16 => ?_)
        refine j_sub (pc := 103) [(0, jm_vr wd2 X 0 0), (1, jm_i l1), (2, jm_i l2), (6, jm_i l6), (7, jm_i l7), (8, jm_i l8), (9, jm_i v4)] [1, 2, 3, 4, 5, 6, 0] rfl ?_
        exact bX12_held_103 X fu k37 hk37 M l1 l2 l6 l7 l8 v4 (M 2 0 l2) hl1 hl2 hl6 hl7 hl8 h5 h16
      · skip
        refine j_iconst (pc := 93) dX12_held_93 ?_
        refine j_goto (tgt := 103) (pc := 94) dX12_held_94 (by decide) ?_
        refine j_sub (pc := 103) [(0, jm_vr wd2 X 0 0), (1, jm_i l1), (2, jm_i l2), (6, jm_i l6), (7, jm_i l7), (8, jm_i l8), (9, jm_i v4)] [1, 2, 3, 4, 5, 6, 0] rfl ?_
        exact bX12_held_103 X fu k37 hk37 M l1 l2 l6 l7 l8 v4 0 hl1 hl2 hl6 hl7 hl8 h5 (jm_inL (by decide) (by decide))
    · skip
      refine j_iload (pc := 69) dX12_held_69 (q := 4) rfl ?_
      exact j_iret (pc := 71) hl6 rfl dX12_held_71
theorem bX12_held_37 (X : jm_X) (fu : Nat) : ∀ (n : Nat) (M : jm_M) (l1 l2 l6 l7 l8 : Int) (hl1 : jm_in l1) (hl2 : jm_in l2) (hl6 : jm_in l6) (hl7 : jm_in l7) (hl8 : jm_in l8), jm_J wd2 (jm_qi .int) cX12_held 11 RX12 rmX12_held X M [(0, jm_vr wd2 X 0 0), (1, jm_i l1), (2, jm_i l2), (6, jm_i l6), (7, jm_i l7), (8, jm_i l8)] [] 37 (fX12_held_37 fu n M l1 l2 l6 l7 l8) := by
  intro n
  induction n with
  | zero => intro M l1 l2 l6 l7 l8 hl1 hl2 hl6 hl7 hl8; exact j_none
  | succ n ih => intro M l1 l2 l6 l7 l8 hl1 hl2 hl6 hl7 hl8; exact b0X12_held_37 X fu (fX12_held_37 fu n) ih M l1 l2 l6 l7 l8 hl1 hl2 hl6 hl7 hl8
set_option maxHeartbeats 4000000 in
set_option maxRecDepth 100000 in
theorem bX12_held_23 (X : jm_X) (fu : Nat) : ∀ (M : jm_M) (l1 l2 l6 s0 : Int) (hl1 : jm_in l1) (hl2 : jm_in l2) (hl6 : jm_in l6) (hs0 : jm_in s0), jm_J wd2 (jm_qi .int) cX12_held 11 RX12 rmX12_held X M [(0, jm_vr wd2 X 0 0), (1, jm_i l1), (2, jm_i l2), (6, jm_i l6)] [jm_i s0] 23 (gX12_held_23 fu M l1 l2 l6 s0) := by
  intro M l1 l2 l6 s0 hl1 hl2 hl6 hs0
  unfold gX12_held_23
  refine j_istore (pc := 23) [(7, jm_i s0), (0, jm_vr wd2 X 0 0), (1, jm_i l1), (2, jm_i l2), (6, jm_i l6)] dX12_held_23 (by decide) rfl ?_
  refine j_aload_n (pc := 25) dX12_held_25 rfl (q := 1) rfl ?_
  refine j_iload_n (pc := 26) dX12_held_26 rfl (q := 2) rfl ?_
  refine j_iload_n (pc := 27) dX12_held_27 rfl (q := 3) rfl ?_
  refine j_aload_n (pc := 28) dX12_held_28 rfl (q := 1) rfl ?_
  refine j_geti (pc := 29) jv2_0 jm_01 kf_RX12_312 kg2_0_70 dX12_held_29 (fun h1 => ?_)
  refine j_callVi3 (pc := 32) (ct_X12_latest fu M l1 l2 (M 0 0 70) hl1 hl2 h1) kg_1588 km_X12_latest kv_X12_latest rfl rfl ⟨(Nat.le_of_ble_eq_true rfl), (Nat.le_of_ble_eq_true rfl)⟩ jv2_0 jm_01 ko2_0 rfl rfl (Nat.le_of_ble_eq_true rfl) dX12_held_32 (fun v2 M3 h4 => ?_)
  refine j_istore (pc := 35) [(8, jm_i v2), (7, jm_i s0), (0, jm_vr wd2 X 0 0), (1, jm_i l1), (2, jm_i l2), (6, jm_i l6)] dX12_held_35 (by decide) rfl ?_
  refine j_sub (pc := 37) [(0, jm_vr wd2 X 0 0), (1, jm_i l1), (2, jm_i l2), (6, jm_i l6), (7, jm_i s0), (8, jm_i v2)] [2, 3, 4, 5, 1, 0] rfl ?_
  exact bX12_held_37 X fu  fu M3 l1 l2 l6 s0 v2 hl1 hl2 hl6 hs0 h4
set_option maxHeartbeats 4000000 in
set_option maxRecDepth 100000 in
theorem ct_X12_held (fu : Nat) (M : jm_M) (l1 l2 l3 l4 l5 : Int) (hl1 : jm_in l1) (hl2 : jm_in l2) (hl3 : jm_in l3) (hl4 : jm_in l4) (hl5 : jm_in l5) : jm_Ci wd2 yX12_held cX12_held 11 (some .int) rmX12_held M (fun G ad => [.ref (ad (jm_r wd2 0 0)), jm_i l1, jm_i l2, jm_i l3, jm_i l4, jm_i l5]) (fX12_held fu M l1 l2 l3 l4 l5) := by
  refine jm_met_i (fun X => [(0, jm_vr wd2 X 0 0), (1, jm_i l1), (2, jm_i l2), (3, jm_i l3), (4, jm_i l4), (5, jm_i l5)]) (by decide) (fun _ _ => (Nat.le_of_ble_eq_true rfl)) (fun _ => rfl) (fun X => ?_)
  unfold fX12_held
  refine j_iload (pc := 0) dX12_held_0 (q := 4) rfl ?_
  refine j_istore (pc := 2) [(6, jm_i l4), (0, jm_vr wd2 X 0 0), (1, jm_i l1), (2, jm_i l2), (3, jm_i l3), (4, jm_i l4), (5, jm_i l5)] dX12_held_2 (by decide) rfl ?_
  refine j_iload (pc := 4) dX12_held_4 (q := 6) rfl ?_
  refine j_if_ne (tgt := 18) (pc := 6) hl5 dX12_held_6 (by decide) (fun c1 => ?_) (fun c1 => ?_)
  · skip
    refine j_aload_n (pc := 9) dX12_held_9 rfl (q := 1) rfl ?_
    refine j_iload_n (pc := 10) dX12_held_10 rfl (q := 3) rfl ?_
    refine j_iload_n (pc := 11) dX12_held_11 rfl (q := 4) rfl ?_
    refine j_callVi2 (pc := 12) (ct_X12_isYellow fu M l2 l3 hl2 hl3) kg_1584 km_X12_isYellow kv_X12_isYellow rfl rfl ⟨(Nat.le_of_ble_eq_true rfl), (Nat.le_of_ble_eq_true rfl)⟩ jv2_0 jm_01 ko2_0 rfl rfl (Nat.le_of_ble_eq_true rfl) dX12_held_12 (fun v2 M3 h4 => ?_)
    refine j_if_eq (tgt := 22) (pc := 15) h4 dX12_held_15 (by decide) (fun c5 => ?_) (fun c5 => ?_)
    · skip
      refine j_iconst (pc := 22) dX12_held_22 ?_
      refine j_sub (pc := 23) [(0, jm_vr wd2 X 0 0), (1, jm_i l1), (2, jm_i l2), (6, jm_i l4)] [1, 2, 3, 0] rfl ?_
      exact bX12_held_23 X fu  M3 l1 l2 l4 0 hl1 hl2 hl4 (jm_inL (by decide) (by decide))
    · skip
      refine j_iconst (pc := 18) dX12_held_18 ?_
      refine j_goto (tgt := 23) (pc := 19) dX12_held_19 (by decide) ?_
      refine j_sub (pc := 23) [(0, jm_vr wd2 X 0 0), (1, jm_i l1), (2, jm_i l2), (6, jm_i l4)] [1, 2, 3, 0] rfl ?_
      exact bX12_held_23 X fu  M3 l1 l2 l4 1 hl1 hl2 hl4 (jm_inL (by decide) (by decide))
  · skip
    refine j_iconst (pc := 18) dX12_held_18 ?_
    refine j_goto (tgt := 23) (pc := 19) dX12_held_19 (by decide) ?_
    refine j_sub (pc := 23) [(0, jm_vr wd2 X 0 0), (1, jm_i l1), (2, jm_i l2), (6, jm_i l4)] [1, 2, 3, 0] rfl ?_
    exact bX12_held_23 X fu  M l1 l2 l4 1 hl1 hl2 hl4 (jm_inL (by decide) (by decide))
abbrev rmX12_isOver : Room := { frames := 0, cells := 0, slots := 0, locals := 0 }
set_option maxHeartbeats 4000000 in
set_option maxRecDepth 100000 in
theorem b0X12_isOver_5 (X : jm_X) (fu : Nat) (k5 : jm_M → Int → Int → Int → Int → jm_R) (hk5 : ∀ (M : jm_M) (l1 l2 l3 l4 : Int) (hl1 : jm_in l1) (hl2 : jm_in l2) (hl3 : jm_in l3) (hl4 : jm_in l4), jm_J wd2 (jm_qi .boolean) cX12_isOver 6 RX12 rmX12_isOver X M [(0, jm_vr wd2 X 0 0), (1, jm_i l1), (2, jm_i l2), (3, jm_i l3), (4, jm_i l4)] [] 5 (k5 M l1 l2 l3 l4)) : ∀ (M : jm_M) (l1 l2 l3 l4 : Int) (hl1 : jm_in l1) (hl2 : jm_in l2) (hl3 : jm_in l3) (hl4 : jm_in l4), jm_J wd2 (jm_qi .boolean) cX12_isOver 6 RX12 rmX12_isOver X M [(0, jm_vr wd2 X 0 0), (1, jm_i l1), (2, jm_i l2), (3, jm_i l3), (4, jm_i l4)] [] 5 (gX12_isOver_5 fu k5 M l1 l2 l3 l4) := by
  intro M l1 l2 l3 l4 hl1 hl2 hl3 hl4
  unfold gX12_isOver_5
  refine j_iload (pc := 5) dX12_isOver_5 (q := 4) rfl ?_
  refine j_aload_n (pc := 7) dX12_isOver_7 rfl (q := 0) rfl ?_
  refine j_geti (pc := 8) jv2_0 jm_01 kf_RX12_30 kg2_0_17 dX12_isOver_8 (fun h1 => ?_)
  refine j_icmp_ge (tgt := 71) (pc := 11) hl4 h1 dX12_isOver_11 (by decide) (fun c2 => ?_) (fun c2 => ?_)
  · skip
    refine j_iload_n (pc := 71) dX12_isOver_71 rfl (q := 3) rfl ?_
    exact j_zret (pc := 72) hl3 dX12_isOver_72
  · skip
    refine j_aload_n (pc := 14) dX12_isOver_14 rfl (q := 0) rfl ?_
    refine j_getr (pc := 15) jv2_0 jm_01 kf_RX12_363 0 kg2_0_65 rfl dX12_isOver_15 ?_
    refine j_bipush (pc := 18) 60 dX12_isOver_18 (by decide) ?_
    refine j_iload (pc := 20) dX12_isOver_20 (q := 4) rfl ?_
    refine j_imul (pc := 22) dX12_isOver_22 ?_
    refine j_aload_n (pc := 23) dX12_isOver_23 rfl (q := 0) rfl ?_
    refine j_geti (pc := 24) jv2_0 jm_01 kf_RX12_7 kg2_0_1 dX12_isOver_24 (fun h3 => ?_)
    refine j_aload_n (pc := 27) dX12_isOver_27 rfl (q := 0) rfl ?_
    refine j_geti (pc := 28) jv2_0 jm_01 kf_RX12_10 kg2_0_2 dX12_isOver_28 (fun h4 => ?_)
    refine j_imul (pc := 31) dX12_isOver_31 ?_
    refine j_iadd (pc := 32) dX12_isOver_32 ?_
    refine j_iconst (pc := 33) dX12_isOver_33 ?_
    refine j_isub (pc := 34) dX12_isOver_34 ?_
    refine j_iald (pc := 35) jv2_55 jm_01 rfl (by decide) ka2_55 dX12_isOver_35 (fun c5 h6 => ?_)
    refine j_nm (pc := 36) h6 (fun v7 h8 => ?_)
    refine j_istore (pc := 36) [(5, jm_i v7), (0, jm_vr wd2 X 0 0), (1, jm_i l1), (2, jm_i l2), (3, jm_i l3), (4, jm_i l4)] dX12_isOver_36 (by decide) rfl ?_
    refine j_iload_n (pc := 38) dX12_isOver_38 rfl (q := 4) rfl ?_
    refine j_if_ne (tgt := 59) (pc := 39) hl3 dX12_isOver_39 (by decide) (fun c9 => ?_) (fun c9 => ?_)
    · skip
      refine j_iload (pc := 42) dX12_isOver_42 (q := 5) rfl ?_
      refine j_iload_n (pc := 44) dX12_isOver_44 rfl (q := 2) rfl ?_
      refine j_icmp_eq (tgt := 63) (pc := 45) hl4 hl1 dX12_isOver_45 (by decide) (fun c10 => ?_) (fun c10 => ?_)
      · skip
        refine j_iconst (pc := 63) dX12_isOver_63 ?_
        refine j_istore_n (pc := 64) [(3, jm_i 0), (5, jm_i v7), (0, jm_vr wd2 X 0 0), (1, jm_i l1), (2, jm_i l2), (4, jm_i l4)] dX12_isOver_64 rfl (by decide) rfl ?_
        refine j_iinc (pc := 65) [(3, jm_i 0), (5, jm_i v7), (0, jm_vr wd2 X 0 0), (1, jm_i l1), (2, jm_i l2)] (q := 5) dX12_isOver_65 rfl (by decide) (fun _ => rfl) (fun v11 h12 => ?_)
        refine j_goto (tgt := 5) (pc := 68) dX12_isOver_68 (by decide) ?_
        refine j_sub (pc := 5) [(0, jm_vr wd2 X 0 0), (1, jm_i l1), (2, jm_i l2), (3, jm_i 0), (4, jm_i v11)] [3, 4, 5, 1, 0] rfl ?_
        exact hk5 M l1 l2 0 v11 hl1 hl2 (jm_inL (by decide) (by decide)) h12
      · skip
        refine j_iload (pc := 48) dX12_isOver_48 (q := 0) rfl ?_
        refine j_if_lt (tgt := 63) (pc := 50) h8 dX12_isOver_50 (by decide) (fun c13 => ?_) (fun c13 => ?_)
        · skip
          refine j_iconst (pc := 63) dX12_isOver_63 ?_
          refine j_istore_n (pc := 64) [(3, jm_i 0), (5, jm_i v7), (0, jm_vr wd2 X 0 0), (1, jm_i l1), (2, jm_i l2), (4, jm_i l4)] dX12_isOver_64 rfl (by decide) rfl ?_
          refine j_iinc (pc := 65) [(3, jm_i 0), (5, jm_i v7), (0, jm_vr wd2 X 0 0), (1, jm_i l1), (2, jm_i l2)] (q := 5) dX12_isOver_65 rfl (by decide) (fun _ => rfl) (fun v14 h15 => ?_)
          refine j_goto (tgt := 5) (pc := 68) dX12_isOver_68 (by decide) ?_
          refine j_sub (pc := 5) [(0, jm_vr wd2 X 0 0), (1, jm_i l1), (2, jm_i l2), (3, jm_i 0), (4, jm_i v14)] [3, 4, 5, 1, 0] rfl ?_
          exact hk5 M l1 l2 0 v14 hl1 hl2 (jm_inL (by decide) (by decide)) h15
        · skip
          refine j_iload (pc := 53) dX12_isOver_53 (q := 0) rfl ?_
          refine j_iload_n (pc := 55) dX12_isOver_55 rfl (q := 3) rfl ?_
          refine j_icmp_gt (tgt := 63) (pc := 56) h8 hl2 dX12_isOver_56 (by decide) (fun c16 => ?_) (fun c16 => ?_)
          · skip
            refine j_iconst (pc := 63) dX12_isOver_63 ?_
            refine j_istore_n (pc := 64) [(3, jm_i 0), (5, jm_i v7), (0, jm_vr wd2 X 0 0), (1, jm_i l1), (2, jm_i l2), (4, jm_i l4)] dX12_isOver_64 rfl (by decide) rfl ?_
            refine j_iinc (pc := 65) [(3, jm_i 0), (5, jm_i v7), (0, jm_vr wd2 X 0 0), (1, jm_i l1), (2, jm_i l2)] (q := 5) dX12_isOver_65 rfl (by decide) (fun _ => rfl) (fun v17 h18 => ?_)
            refine j_goto (tgt := 5) (pc := 68) dX12_isOver_68 (by decide) ?_
            refine j_sub (pc := 5) [(0, jm_vr wd2 X 0 0), (1, jm_i l1), (2, jm_i l2), (3, jm_i 0), (4, jm_i v17)] [3, 4, 5, 1, 0] rfl ?_
            exact hk5 M l1 l2 0 v17 hl1 hl2 (jm_inL (by decide) (by decide)) h18
          · skip
            refine j_iconst (pc := 59) dX12_isOver_59 ?_
            refine j_goto (tgt := 64) (pc := 60) dX12_isOver_60 (by decide) ?_
            refine j_istore_n (pc := 64) [(3, jm_i 1), (5, jm_i v7), (0, jm_vr wd2 X 0 0), (1, jm_i l1), (2, jm_i l2), (4, jm_i l4)] dX12_isOver_64 rfl (by decide) rfl ?_
            refine j_iinc (pc := 65) [(3, jm_i 1), (5, jm_i v7), (0, jm_vr wd2 X 0 0), (1, jm_i l1), (2, jm_i l2)] (q := 5) dX12_isOver_65 rfl (by decide) (fun _ => rfl) (fun v19 h20 => ?_)
            refine j_goto (tgt := 5) (pc := 68) dX12_isOver_68 (by decide) ?_
            refine j_sub (pc := 5) [(0, jm_vr wd2 X 0 0), (1, jm_i l1), (2, jm_i l2), (3, jm_i 1), (4, jm_i v19)] [3, 4, 5, 1, 0] rfl ?_
            exact hk5 M l1 l2 1 v19 hl1 hl2 (jm_inL (by decide) (by decide)) h20
    · skip
      refine j_iconst (pc := 59) dX12_isOver_59 ?_
      refine j_goto (tgt := 64) (pc := 60) dX12_isOver_60 (by decide) ?_
      refine j_istore_n (pc := 64) [(3, jm_i 1), (5, jm_i v7), (0, jm_vr wd2 X 0 0), (1, jm_i l1), (2, jm_i l2), (4, jm_i l4)] dX12_isOver_64 rfl (by decide) rfl ?_
      refine j_iinc (pc := 65) [(3, jm_i 1), (5, jm_i v7), (0, jm_vr wd2 X 0 0), (1, jm_i l1), (2, jm_i l2)] (q := 5) dX12_isOver_65 rfl (by decide) (fun _ => rfl) (fun v21 h22 => ?_)
      refine j_goto (tgt := 5) (pc := 68) dX12_isOver_68 (by decide) ?_
      refine j_sub (pc := 5) [(0, jm_vr wd2 X 0 0), (1, jm_i l1), (2, jm_i l2), (3, jm_i 1), (4, jm_i v21)] [3, 4, 5, 1, 0] rfl ?_
      exact hk5 M l1 l2 1 v21 hl1 hl2 (jm_inL (by decide) (by decide)) h22
theorem bX12_isOver_5 (X : jm_X) (fu : Nat) : ∀ (n : Nat) (M : jm_M) (l1 l2 l3 l4 : Int) (hl1 : jm_in l1) (hl2 : jm_in l2) (hl3 : jm_in l3) (hl4 : jm_in l4), jm_J wd2 (jm_qi .boolean) cX12_isOver 6 RX12 rmX12_isOver X M [(0, jm_vr wd2 X 0 0), (1, jm_i l1), (2, jm_i l2), (3, jm_i l3), (4, jm_i l4)] [] 5 (fX12_isOver_5 fu n M l1 l2 l3 l4) := by
  intro n
  induction n with
  | zero => intro M l1 l2 l3 l4 hl1 hl2 hl3 hl4; exact j_none
  | succ n ih => intro M l1 l2 l3 l4 hl1 hl2 hl3 hl4; exact b0X12_isOver_5 X fu (fX12_isOver_5 fu n) ih M l1 l2 l3 l4 hl1 hl2 hl3 hl4
set_option maxHeartbeats 4000000 in
set_option maxRecDepth 100000 in
theorem ct_X12_isOver (fu : Nat) (M : jm_M) (l1 l2 : Int) (hl1 : jm_in l1) (hl2 : jm_in l2) : jm_Ci wd2 yX12_isOver cX12_isOver 6 (some .boolean) rmX12_isOver M (fun G ad => [.ref (ad (jm_r wd2 0 0)), jm_i l1, jm_i l2]) (fX12_isOver fu M l1 l2) := by
  refine jm_met_i (fun X => [(0, jm_vr wd2 X 0 0), (1, jm_i l1), (2, jm_i l2)]) (by decide) (fun _ _ => (Nat.le_of_ble_eq_true rfl)) (fun _ => rfl) (fun X => ?_)
  unfold fX12_isOver
  refine j_iconst (pc := 0) dX12_isOver_0 ?_
  refine j_istore_n (pc := 1) [(3, jm_i 0), (0, jm_vr wd2 X 0 0), (1, jm_i l1), (2, jm_i l2)] dX12_isOver_1 rfl (by decide) rfl ?_
  refine j_iconst (pc := 2) dX12_isOver_2 ?_
  refine j_istore (pc := 3) [(4, jm_i 0), (3, jm_i 0), (0, jm_vr wd2 X 0 0), (1, jm_i l1), (2, jm_i l2)] dX12_isOver_3 (by decide) rfl ?_
  refine j_sub (pc := 5) [(0, jm_vr wd2 X 0 0), (1, jm_i l1), (2, jm_i l2), (3, jm_i 0), (4, jm_i 0)] [2, 3, 4, 1, 0] rfl ?_
  exact bX12_isOver_5 X fu  fu M l1 l2 0 0 hl1 hl2 (jm_inL (by decide) (by decide)) (jm_inL (by decide) (by decide))
abbrev rmX12_truth : Room := { frames := 0, cells := 0, slots := 0, locals := 0 }
set_option maxHeartbeats 4000000 in
set_option maxRecDepth 100000 in
theorem ct_X12_truth (M : jm_M) (l0 : Int) (hl0 : jm_in l0) : jm_Ci wd2 yX12_truth cX12_truth 1 (some .int) rmX12_truth M (fun G ad => [jm_i l0]) (fX12_truth M l0) := by
  refine jm_met_i (fun X => [(0, jm_i l0)]) (by decide) (fun _ _ => (Nat.le_of_ble_eq_true rfl)) (fun _ => rfl) (fun X => ?_)
  unfold fX12_truth
  refine j_iload_n (pc := 0) dX12_truth_0 rfl (q := 0) rfl ?_
  refine j_if_eq (tgt := 8) (pc := 1) hl0 dX12_truth_1 (by decide) (fun c1 => ?_) (fun c1 => ?_)
  · skip
    refine j_iconst (pc := 8) dX12_truth_8 ?_
    exact j_iret (pc := 9) (jm_inL (by decide) (by decide)) rfl dX12_truth_9
  · skip
    refine j_iconst (pc := 4) dX12_truth_4 ?_
    refine j_goto (tgt := 9) (pc := 5) dX12_truth_5 (by decide) ?_
    exact j_iret (pc := 9) (jm_inL (by decide) (by decide)) rfl dX12_truth_9
abbrev rmX12_speaks : Room := { frames := 1, cells := 0, slots := 0, locals := 25 }
set_option maxHeartbeats 4000000 in
set_option maxRecDepth 100000 in
theorem bX12_speaks_146 (X : jm_X) (fu : Nat) : ∀ (M : jm_M) (l1 l3 l4 l7 s0 s1 : Int) (hl1 : jm_in l1) (hl3 : jm_in l3) (hl4 : jm_in l4) (hl7 : jm_in l7) (hs0 : jm_in s0) (hs1 : jm_in s1), jm_J wd2 jm_qv cX12_speaks 9 RX12 rmX12_speaks X M [(0, jm_vr wd2 X 0 0), (1, jm_i l1), (3, jm_i l3), (4, jm_i l4), (7, jm_i l7)] [jm_i s0, jm_i s1, jm_vr wd2 X 38 0] 146 (gX12_speaks_146 fu M l1 l3 l4 l7 s0 s1) := by
  intro M l1 l3 l4 l7 s0 s1 hl1 hl3 hl4 hl7 hs0 hs1
  unfold gX12_speaks_146
  refine j_iast (pc := 146) jv2_38 jm_01 rfl (by decide) wI2 ka2_38 hs0 dX12_speaks_146 (fun c1 M2 => ?_)
  refine j_aload_n (pc := 147) dX12_speaks_147 rfl (q := 0) rfl ?_
  refine j_getr (pc := 148) jv2_0 jm_01 kf_RX12_299 0 kg2_0_48 rfl dX12_speaks_148 ?_
  refine j_iconst (pc := 151) dX12_speaks_151 ?_
  refine j_aload_n (pc := 152) dX12_speaks_152 rfl (q := 0) rfl ?_
  refine j_getr (pc := 153) jv2_0 jm_01 kf_RX12_330 0 kg2_0_54 rfl dX12_speaks_153 ?_
  refine j_iload_n (pc := 156) dX12_speaks_156 rfl (q := 1) rfl ?_
  refine j_iald (pc := 157) jv2_44 jm_01 rfl (by decide) ka2_44 dX12_speaks_157 (fun c3 h4 => ?_)
  refine j_iast (pc := 158) jv2_38 jm_01 rfl (by decide) wI2 ka2_38 h4 dX12_speaks_158 (fun c5 M6 => ?_)
  refine j_aload_n (pc := 159) dX12_speaks_159 rfl (q := 0) rfl ?_
  refine j_getr (pc := 160) jv2_0 jm_01 kf_RX12_299 0 kg2_0_48 rfl dX12_speaks_160 ?_
  refine j_iconst (pc := 163) dX12_speaks_163 ?_
  refine j_aload_n (pc := 164) dX12_speaks_164 rfl (q := 0) rfl ?_
  refine j_getr (pc := 165) jv2_0 jm_01 kf_RX12_121 0 kg2_0_20 rfl dX12_speaks_165 ?_
  refine j_iload_n (pc := 168) dX12_speaks_168 rfl (q := 1) rfl ?_
  refine j_iald (pc := 169) jv2_15 jm_01 rfl (by decide) ka2_15 dX12_speaks_169 (fun c7 h8 => ?_)
  refine j_aload_n (pc := 170) dX12_speaks_170 rfl (q := 0) rfl ?_
  refine j_geti (pc := 171) jv2_0 jm_01 kf_RX12_7 kg2_0_1 dX12_speaks_171 (fun h9 => ?_)
  refine j_aload_n (pc := 174) dX12_speaks_174 rfl (q := 0) rfl ?_
  refine j_geti (pc := 175) jv2_0 jm_01 kf_RX12_10 kg2_0_2 dX12_speaks_175 (fun h10 => ?_)
  refine j_imul (pc := 178) dX12_speaks_178 ?_
  refine j_iload (pc := 179) dX12_speaks_179 (q := 3) rfl ?_
  refine j_isub (pc := 181) dX12_speaks_181 ?_
  refine j_iconst (pc := 182) dX12_speaks_182 ?_
  refine j_isub (pc := 183) dX12_speaks_183 ?_
  refine j_imul (pc := 184) dX12_speaks_184 ?_
  refine j_iast (pc := 185) jv2_38 jm_01 rfl (by decide) wI2 ka2_38 (jm_w_in _) dX12_speaks_185 (fun c11 M12 => ?_)
  refine j_aload_n (pc := 186) dX12_speaks_186 rfl (q := 0) rfl ?_
  refine j_getr (pc := 187) jv2_0 jm_01 kf_RX12_299 0 kg2_0_48 rfl dX12_speaks_187 ?_
  refine j_bipush (pc := 190) 6 dX12_speaks_190 (by decide) ?_
  refine j_aload_n (pc := 192) dX12_speaks_192 rfl (q := 0) rfl ?_
  refine j_getr (pc := 193) jv2_0 jm_01 kf_RX12_360 0 kg2_0_56 rfl dX12_speaks_193 ?_
  refine j_iload (pc := 196) dX12_speaks_196 (q := 4) rfl ?_
  refine j_iald (pc := 198) jv2_46 jm_01 rfl (by decide) ka2_46 dX12_speaks_198 (fun c13 h14 => ?_)
  refine j_iast (pc := 199) jv2_38 jm_01 rfl (by decide) wI2 ka2_38 h14 dX12_speaks_199 (fun c15 M16 => ?_)
  refine j_aload_n (pc := 200) dX12_speaks_200 rfl (q := 0) rfl ?_
  refine j_getr (pc := 201) jv2_0 jm_01 kf_RX12_299 0 kg2_0_48 rfl dX12_speaks_201 ?_
  refine j_bipush (pc := 204) 7 dX12_speaks_204 (by decide) ?_
  refine j_aload_n (pc := 206) dX12_speaks_206 rfl (q := 0) rfl ?_
  refine j_getr (pc := 207) jv2_0 jm_01 kf_RX12_148 0 kg2_0_25 rfl dX12_speaks_207 ?_
  refine j_iload (pc := 210) dX12_speaks_210 (q := 4) rfl ?_
  refine j_iald (pc := 212) jv2_20 jm_01 rfl (by decide) ka2_20 dX12_speaks_212 (fun c17 h18 => ?_)
  refine j_iast (pc := 213) jv2_38 jm_01 rfl (by decide) wI2 ka2_38 h18 dX12_speaks_213 (fun c19 M20 => ?_)
  refine j_aload_n (pc := 214) dX12_speaks_214 rfl (q := 0) rfl ?_
  refine j_getr (pc := 215) jv2_0 jm_01 kf_RX12_299 0 kg2_0_48 rfl dX12_speaks_215 ?_
  refine j_bipush (pc := 218) 8 dX12_speaks_218 (by decide) ?_
  refine j_aload_n (pc := 220) dX12_speaks_220 rfl (q := 0) rfl ?_
  refine j_iconst (pc := 221) dX12_speaks_221 ?_
  refine j_iload_n (pc := 222) dX12_speaks_222 rfl (q := 2) rfl ?_
  refine j_callVi2 (pc := 223) (ct_X12_wet fu M20 0 l3 (jm_inL (by decide) (by decide)) hl3) kg_1574 km_X12_wet kv_X12_wet rfl rfl ⟨(Nat.le_of_ble_eq_true rfl), (Nat.le_of_ble_eq_true rfl)⟩ jv2_0 jm_01 ko2_0 rfl rfl (Nat.le_of_ble_eq_true rfl) dX12_speaks_223 (fun v21 M22 h23 => ?_)
  refine j_iast (pc := 226) jv2_38 jm_01 rfl (by decide) wI2 ka2_38 h23 dX12_speaks_226 (fun c24 M25 => ?_)
  refine j_aload_n (pc := 227) dX12_speaks_227 rfl (q := 0) rfl ?_
  refine j_getr (pc := 228) jv2_0 jm_01 kf_RX12_299 0 kg2_0_48 rfl dX12_speaks_228 ?_
  refine j_bipush (pc := 231) 9 dX12_speaks_231 (by decide) ?_
  refine j_aload_n (pc := 233) dX12_speaks_233 rfl (q := 0) rfl ?_
  refine j_iload_n (pc := 234) dX12_speaks_234 rfl (q := 2) rfl ?_
  refine j_callVi1 (pc := 235) (ct_X12_isSlow fu M25 l3 hl3) kg_1562 km_X12_isSlow kv_X12_isSlow rfl rfl ⟨(Nat.le_of_ble_eq_true rfl), (Nat.le_of_ble_eq_true rfl)⟩ jv2_0 jm_01 ko2_0 rfl rfl (Nat.le_of_ble_eq_true rfl) dX12_speaks_235 (fun v26 M27 h28 => ?_)
  refine j_callSi1 (pc := 238) (ct_X12_truth M27 v26 h28) kg_1608 km_X12_truth kg_1609 rfl rfl ⟨(Nat.le_of_ble_eq_true rfl), (Nat.le_of_ble_eq_true rfl)⟩ rfl rfl (Nat.le_of_ble_eq_true rfl) dX12_speaks_238 (fun v29 M30 h31 => ?_)
  refine j_iast (pc := 241) jv2_38 jm_01 rfl (by decide) wI2 ka2_38 h31 dX12_speaks_241 (fun c32 M33 => ?_)
  refine j_aload_n (pc := 242) dX12_speaks_242 rfl (q := 0) rfl ?_
  refine j_getr (pc := 243) jv2_0 jm_01 kf_RX12_299 0 kg2_0_48 rfl dX12_speaks_243 ?_
  refine j_bipush (pc := 246) 10 dX12_speaks_246 (by decide) ?_
  refine j_aload_n (pc := 248) dX12_speaks_248 rfl (q := 0) rfl ?_
  refine j_iconst (pc := 249) dX12_speaks_249 ?_
  refine j_iload_n (pc := 250) dX12_speaks_250 rfl (q := 2) rfl ?_
  refine j_callVi2 (pc := 251) (ct_X12_isYellow fu M33 (-1) l3 (jm_inL (by decide) (by decide)) hl3) kg_1584 km_X12_isYellow kv_X12_isYellow rfl rfl ⟨(Nat.le_of_ble_eq_true rfl), (Nat.le_of_ble_eq_true rfl)⟩ jv2_0 jm_01 ko2_0 rfl rfl (Nat.le_of_ble_eq_true rfl) dX12_speaks_251 (fun v34 M35 h36 => ?_)
  refine j_callSi1 (pc := 254) (ct_X12_truth M35 v34 h36) kg_1608 km_X12_truth kg_1609 rfl rfl ⟨(Nat.le_of_ble_eq_true rfl), (Nat.le_of_ble_eq_true rfl)⟩ rfl rfl (Nat.le_of_ble_eq_true rfl) dX12_speaks_254 (fun v37 M38 h39 => ?_)
  refine j_iast (pc := 257) jv2_38 jm_01 rfl (by decide) wI2 ka2_38 h39 dX12_speaks_257 (fun c40 M41 => ?_)
  refine j_aload_n (pc := 258) dX12_speaks_258 rfl (q := 0) rfl ?_
  refine j_getr (pc := 259) jv2_0 jm_01 kf_RX12_299 0 kg2_0_48 rfl dX12_speaks_259 ?_
  refine j_bipush (pc := 262) 11 dX12_speaks_262 (by decide) ?_
  refine j_aload_n (pc := 264) dX12_speaks_264 rfl (q := 0) rfl ?_
  refine j_getr (pc := 265) jv2_0 jm_01 kf_RX12_342 0 kg2_0_59 rfl dX12_speaks_265 ?_
  refine j_iload_n (pc := 268) dX12_speaks_268 rfl (q := 1) rfl ?_
  refine j_iald (pc := 269) jv2_49 jm_01 rfl (by decide) ka2_49 dX12_speaks_269 (fun c42 h43 => ?_)
  refine j_iast (pc := 270) jv2_38 jm_01 rfl (by decide) wI2 ka2_38 h43 dX12_speaks_270 (fun c44 M45 => ?_)
  refine j_aload_n (pc := 271) dX12_speaks_271 rfl (q := 0) rfl ?_
  refine j_getr (pc := 272) jv2_0 jm_01 kf_RX12_299 0 kg2_0_48 rfl dX12_speaks_272 ?_
  refine j_bipush (pc := 275) 12 dX12_speaks_275 (by decide) ?_
  refine j_aload_n (pc := 277) dX12_speaks_277 rfl (q := 0) rfl ?_
  refine j_getr (pc := 278) jv2_0 jm_01 kf_RX12_315 0 kg2_0_68 rfl dX12_speaks_278 ?_
  refine j_aload_n (pc := 281) dX12_speaks_281 rfl (q := 0) rfl ?_
  refine j_getr (pc := 282) jv2_0 jm_01 kf_RX12_124 0 kg2_0_21 rfl dX12_speaks_282 ?_
  refine j_iload_n (pc := 285) dX12_speaks_285 rfl (q := 1) rfl ?_
  refine j_iald (pc := 286) jv2_16 jm_01 rfl (by decide) ka2_16 dX12_speaks_286 (fun c46 h47 => ?_)
  refine j_iald (pc := 287) jv2_58 jm_01 rfl (by decide) ka2_58 dX12_speaks_287 (fun c48 h49 => ?_)
  refine j_iload_n (pc := 288) dX12_speaks_288 rfl (q := 2) rfl ?_
  refine j_aload_n (pc := 289) dX12_speaks_289 rfl (q := 0) rfl ?_
  refine j_getr (pc := 290) jv2_0 jm_01 kf_RX12_83 0 kg2_0_7 rfl dX12_speaks_290 ?_
  refine j_iconst (pc := 293) dX12_speaks_293 ?_
  refine j_iald (pc := 294) jv2_5 jm_01 rfl (by decide) ka2_5 dX12_speaks_294 (fun c50 h51 => ?_)
  refine j_iadd (pc := 295) dX12_speaks_295 ?_
  refine j_icmp_gt (tgt := 303) (pc := 296) h49 (jm_w_in _) dX12_speaks_296 (by decide) (fun c52 => ?_) (fun c52 => ?_)
  · skip
    refine j_iconst (pc := 303) dX12_speaks_303 ?_
    refine j_callSi1 (pc := 304) (ct_X12_truth M45 0 (jm_inL (by decide) (by decide))) kg_1608 km_X12_truth kg_1609 rfl rfl ⟨(Nat.le_of_ble_eq_true rfl), (Nat.le_of_ble_eq_true rfl)⟩ rfl rfl (Nat.le_of_ble_eq_true rfl) dX12_speaks_304 (fun v53 M54 h55 => ?_)
    refine j_iast (pc := 307) jv2_38 jm_01 rfl (by decide) wI2 ka2_38 h55 dX12_speaks_307 (fun c56 M57 => ?_)
    exact j_vret (pc := 308) dX12_speaks_308
  · skip
    refine j_iconst (pc := 299) dX12_speaks_299 ?_
    refine j_goto (tgt := 304) (pc := 300) dX12_speaks_300 (by decide) ?_
    refine j_callSi1 (pc := 304) (ct_X12_truth M45 1 (jm_inL (by decide) (by decide))) kg_1608 km_X12_truth kg_1609 rfl rfl ⟨(Nat.le_of_ble_eq_true rfl), (Nat.le_of_ble_eq_true rfl)⟩ rfl rfl (Nat.le_of_ble_eq_true rfl) dX12_speaks_304 (fun v58 M59 h60 => ?_)
    refine j_iast (pc := 307) jv2_38 jm_01 rfl (by decide) wI2 ka2_38 h60 dX12_speaks_307 (fun c61 M62 => ?_)
    exact j_vret (pc := 308) dX12_speaks_308
set_option maxHeartbeats 4000000 in
set_option maxRecDepth 100000 in
theorem b0X12_speaks_21 (X : jm_X) (fu : Nat) (k21 : jm_M → Int → Int → Int → Int → Int → Int → Int → jm_R) (hk21 : ∀ (M : jm_M) (l1 l2 l3 l4 l5 l6 l7 : Int) (hl1 : jm_in l1) (hl2 : jm_in l2) (hl3 : jm_in l3) (hl4 : jm_in l4) (hl5 : jm_in l5) (hl6 : jm_in l6) (hl7 : jm_in l7), jm_J wd2 jm_qv cX12_speaks 9 RX12 rmX12_speaks X M [(0, jm_vr wd2 X 0 0), (1, jm_i l1), (2, jm_i l2), (3, jm_i l3), (4, jm_i l4), (5, jm_i l5), (6, jm_i l6), (7, jm_i l7)] [] 21 (k21 M l1 l2 l3 l4 l5 l6 l7)) : ∀ (M : jm_M) (l1 l2 l3 l4 l5 l6 l7 : Int) (hl1 : jm_in l1) (hl2 : jm_in l2) (hl3 : jm_in l3) (hl4 : jm_in l4) (hl5 : jm_in l5) (hl6 : jm_in l6) (hl7 : jm_in l7), jm_J wd2 jm_qv cX12_speaks 9 RX12 rmX12_speaks X M [(0, jm_vr wd2 X 0 0), (1, jm_i l1), (2, jm_i l2), (3, jm_i l3), (4, jm_i l4), (5, jm_i l5), (6, jm_i l6), (7, jm_i l7)] [] 21 (gX12_speaks_21 fu k21 M l1 l2 l3 l4 l5 l6 l7) := by
  intro M l1 l2 l3 l4 l5 l6 l7 hl1 hl2 hl3 hl4 hl5 hl6 hl7
  unfold gX12_speaks_21
  refine j_iload (pc := 21) dX12_speaks_21 (q := 7) rfl ?_
  refine j_aload_n (pc := 23) dX12_speaks_23 rfl (q := 0) rfl ?_
  refine j_geti (pc := 24) jv2_0 jm_01 kf_RX12_30 kg2_0_17 dX12_speaks_24 (fun h1 => ?_)
  refine j_icmp_ge (tgt := 80) (pc := 27) hl7 h1 dX12_speaks_27 (by decide) (fun c2 => ?_) (fun c2 => ?_)
  · skip
    refine j_iconst (pc := 80) dX12_speaks_80 ?_
    refine j_iload_n (pc := 81) dX12_speaks_81 rfl (q := 1) rfl ?_
    refine j_imul (pc := 82) dX12_speaks_82 ?_
    refine j_aload_n (pc := 83) dX12_speaks_83 rfl (q := 0) rfl ?_
    refine j_getr (pc := 84) jv2_0 jm_01 kf_RX12_333 0 kg2_0_55 rfl dX12_speaks_84 ?_
    refine j_iload_n (pc := 87) dX12_speaks_87 rfl (q := 1) rfl ?_
    refine j_iald (pc := 88) jv2_45 jm_01 rfl (by decide) ka2_45 dX12_speaks_88 (fun c3 h4 => ?_)
    refine j_iadd (pc := 89) dX12_speaks_89 ?_
    refine j_nm (pc := 90) (jm_w_in _) (fun v5 h6 => ?_)
    refine j_istore (pc := 90) [(7, jm_i v5), (0, jm_vr wd2 X 0 0), (1, jm_i l1), (2, jm_i l2), (3, jm_i l3), (4, jm_i l4), (5, jm_i l5), (6, jm_i l6)] dX12_speaks_90 (by decide) rfl ?_
    refine j_aload_n (pc := 92) dX12_speaks_92 rfl (q := 1) rfl ?_
    refine j_getr (pc := 93) jv2_0 jm_01 kf_RX12_299 0 kg2_0_48 rfl dX12_speaks_93 ?_
    refine j_iconst (pc := 96) dX12_speaks_96 ?_
    refine j_iload_n (pc := 97) dX12_speaks_97 rfl (q := 3) rfl ?_
    refine j_iconst (pc := 98) dX12_speaks_98 ?_
    refine j_iadd (pc := 99) dX12_speaks_99 ?_
    refine j_iast (pc := 100) jv2_38 jm_01 rfl (by decide) wI2 ka2_38 (jm_w_in _) dX12_speaks_100 (fun c7 M8 => ?_)
    refine j_aload_n (pc := 101) dX12_speaks_101 rfl (q := 1) rfl ?_
    refine j_getr (pc := 102) jv2_0 jm_01 kf_RX12_299 0 kg2_0_48 rfl dX12_speaks_102 ?_
    refine j_iconst (pc := 105) dX12_speaks_105 ?_
    refine j_aload_n (pc := 106) dX12_speaks_106 rfl (q := 1) rfl ?_
    refine j_geti (pc := 107) jv2_0 jm_01 kf_RX12_10 kg2_0_2 dX12_speaks_107 (fun h9 => ?_)
    refine j_iload_n (pc := 110) dX12_speaks_110 rfl (q := 3) rfl ?_
    refine j_isub (pc := 111) dX12_speaks_111 ?_
    refine j_iconst (pc := 112) dX12_speaks_112 ?_
    refine j_isub (pc := 113) dX12_speaks_113 ?_
    refine j_iast (pc := 114) jv2_38 jm_01 rfl (by decide) wI2 ka2_38 (jm_w_in _) dX12_speaks_114 (fun c10 M11 => ?_)
    refine j_aload_n (pc := 115) dX12_speaks_115 rfl (q := 1) rfl ?_
    refine j_getr (pc := 116) jv2_0 jm_01 kf_RX12_299 0 kg2_0_48 rfl dX12_speaks_116 ?_
    refine j_iconst (pc := 119) dX12_speaks_119 ?_
    refine j_iload (pc := 120) dX12_speaks_120 (q := 6) rfl ?_
    refine j_iast (pc := 122) jv2_38 jm_01 rfl (by decide) wI2 ka2_38 hl5 dX12_speaks_122 (fun c12 M13 => ?_)
    refine j_aload_n (pc := 123) dX12_speaks_123 rfl (q := 1) rfl ?_
    refine j_getr (pc := 124) jv2_0 jm_01 kf_RX12_299 0 kg2_0_48 rfl dX12_speaks_124 ?_
    refine j_iconst (pc := 127) dX12_speaks_127 ?_
    refine j_iload (pc := 128) dX12_speaks_128 (q := 7) rfl ?_
    refine j_if_ge (tgt := 139) (pc := 130) hl6 dX12_speaks_130 (by decide) (fun c14 => ?_) (fun c14 => ?_)
    · skip
      refine j_iload_n (pc := 139) dX12_speaks_139 rfl (q := 4) rfl ?_
      refine j_iload (pc := 140) dX12_speaks_140 (q := 7) rfl ?_
      refine j_isub (pc := 142) dX12_speaks_142 ?_
      refine j_bipush (pc := 143) 100 dX12_speaks_143 (by decide) ?_
      refine j_idiv (pc := 145) (jm_w_in _) (jm_inL (by decide) (by decide)) dX12_speaks_145 (by decide) ?_
      refine j_sub (pc := 146) [(0, jm_vr wd2 X 0 0), (1, jm_i l1), (3, jm_i l3), (4, jm_i l4), (7, jm_i v5)] [1, 2, 4, 5, 0] rfl ?_
      exact bX12_speaks_146 X fu  M13 l1 l3 l4 v5 (jm_div (jm_w (l3 - l6)) 100) 3 hl1 hl3 hl4 h6 (jm_div_in _ _) (jm_inL (by decide) (by decide))
    · skip
      refine j_sipush (pc := 133) 999 dX12_speaks_133 (by decide) ?_
      refine j_goto (tgt := 146) (pc := 136) dX12_speaks_136 (by decide) ?_
      refine j_sub (pc := 146) [(0, jm_vr wd2 X 0 0), (1, jm_i l1), (3, jm_i l3), (4, jm_i l4), (7, jm_i v5)] [1, 2, 4, 5, 0] rfl ?_
      exact bX12_speaks_146 X fu  M13 l1 l3 l4 v5 999 3 hl1 hl3 hl4 h6 (jm_inL (by decide) (by decide)) (jm_inL (by decide) (by decide))
  · skip
    refine j_aload_n (pc := 30) dX12_speaks_30 rfl (q := 0) rfl ?_
    refine j_getr (pc := 31) jv2_0 jm_01 kf_RX12_363 0 kg2_0_65 rfl dX12_speaks_31 ?_
    refine j_bipush (pc := 34) 60 dX12_speaks_34 (by decide) ?_
    refine j_iload (pc := 36) dX12_speaks_36 (q := 7) rfl ?_
    refine j_imul (pc := 38) dX12_speaks_38 ?_
    refine j_iload (pc := 39) dX12_speaks_39 (q := 4) rfl ?_
    refine j_iadd (pc := 41) dX12_speaks_41 ?_
    refine j_iald (pc := 42) jv2_55 jm_01 rfl (by decide) ka2_55 dX12_speaks_42 (fun c15 h16 => ?_)
    refine j_nm (pc := 43) h16 (fun v17 h18 => ?_)
    refine j_istore (pc := 43) [(8, jm_i v17), (0, jm_vr wd2 X 0 0), (1, jm_i l1), (2, jm_i l2), (3, jm_i l3), (4, jm_i l4), (5, jm_i l5), (6, jm_i l6), (7, jm_i l7)] dX12_speaks_43 (by decide) rfl ?_
    refine j_iload (pc := 45) dX12_speaks_45 (q := 8) rfl ?_
    refine j_iload_n (pc := 47) dX12_speaks_47 rfl (q := 2) rfl ?_
    refine j_icmp_eq (tgt := 74) (pc := 48) hl7 hl1 dX12_speaks_48 (by decide) (fun c19 => ?_) (fun c19 => ?_)
    · skip
      refine j_iinc (pc := 74) [(8, jm_i v17), (0, jm_vr wd2 X 0 0), (1, jm_i l1), (2, jm_i l2), (3, jm_i l3), (4, jm_i l4), (5, jm_i l5), (6, jm_i l6)] (q := 8) dX12_speaks_74 rfl (by decide) (fun _ => rfl) (fun v20 h21 => ?_)
      refine j_goto (tgt := 21) (pc := 77) dX12_speaks_77 (by decide) ?_
      refine j_sub (pc := 21) [(0, jm_vr wd2 X 0 0), (1, jm_i l1), (2, jm_i l2), (3, jm_i l3), (4, jm_i l4), (5, jm_i l5), (6, jm_i l6), (7, jm_i v20)] [2, 3, 4, 5, 6, 7, 8, 0] rfl ?_
      exact hk21 M l1 l2 l3 l4 l5 l6 v20 hl1 hl2 hl3 hl4 hl5 hl6 h21
    · skip
      refine j_iload (pc := 51) dX12_speaks_51 (q := 0) rfl ?_
      refine j_if_lt (tgt := 74) (pc := 53) h18 dX12_speaks_53 (by decide) (fun c22 => ?_) (fun c22 => ?_)
      · skip
        refine j_iinc (pc := 74) [(8, jm_i v17), (0, jm_vr wd2 X 0 0), (1, jm_i l1), (2, jm_i l2), (3, jm_i l3), (4, jm_i l4), (5, jm_i l5), (6, jm_i l6)] (q := 8) dX12_speaks_74 rfl (by decide) (fun _ => rfl) (fun v23 h24 => ?_)
        refine j_goto (tgt := 21) (pc := 77) dX12_speaks_77 (by decide) ?_
        refine j_sub (pc := 21) [(0, jm_vr wd2 X 0 0), (1, jm_i l1), (2, jm_i l2), (3, jm_i l3), (4, jm_i l4), (5, jm_i l5), (6, jm_i l6), (7, jm_i v23)] [2, 3, 4, 5, 6, 7, 8, 0] rfl ?_
        exact hk21 M l1 l2 l3 l4 l5 l6 v23 hl1 hl2 hl3 hl4 hl5 hl6 h24
      · skip
        refine j_iload (pc := 56) dX12_speaks_56 (q := 0) rfl ?_
        refine j_iload_n (pc := 58) dX12_speaks_58 rfl (q := 4) rfl ?_
        refine j_icmp_gt (tgt := 74) (pc := 59) h18 hl3 dX12_speaks_59 (by decide) (fun c25 => ?_) (fun c25 => ?_)
        · skip
          refine j_iinc (pc := 74) [(8, jm_i v17), (0, jm_vr wd2 X 0 0), (1, jm_i l1), (2, jm_i l2), (3, jm_i l3), (4, jm_i l4), (5, jm_i l5), (6, jm_i l6)] (q := 8) dX12_speaks_74 rfl (by decide) (fun _ => rfl) (fun v26 h27 => ?_)
          refine j_goto (tgt := 21) (pc := 77) dX12_speaks_77 (by decide) ?_
          refine j_sub (pc := 21) [(0, jm_vr wd2 X 0 0), (1, jm_i l1), (2, jm_i l2), (3, jm_i l3), (4, jm_i l4), (5, jm_i l5), (6, jm_i l6), (7, jm_i v26)] [2, 3, 4, 5, 6, 7, 8, 0] rfl ?_
          exact hk21 M l1 l2 l3 l4 l5 l6 v26 hl1 hl2 hl3 hl4 hl5 hl6 h27
        · skip
          refine j_iinc (pc := 62) [(8, jm_i v17), (0, jm_vr wd2 X 0 0), (1, jm_i l1), (2, jm_i l2), (3, jm_i l3), (4, jm_i l4), (6, jm_i l6), (7, jm_i l7)] (q := 6) dX12_speaks_62 rfl (by decide) (fun _ => rfl) (fun v28 h29 => ?_)
          refine j_iload (pc := 65) dX12_speaks_65 (q := 7) rfl ?_
          refine j_iload (pc := 67) dX12_speaks_67 (q := 1) rfl ?_
          refine j_mmax (pc := 69) hl6 h18 kg_1579 kg_61 kg_5 kg_62 ⟨(Nat.le_of_ble_eq_true rfl), (Nat.le_of_ble_eq_true rfl)⟩ (Nat.le_of_ble_eq_true rfl) dX12_speaks_69 ?_
          refine j_nm (pc := 72) (jm_max_in hl6 h18) (fun v30 h31 => ?_)
          refine j_istore (pc := 72) [(6, jm_i v30), (5, jm_i v28), (8, jm_i v17), (0, jm_vr wd2 X 0 0), (1, jm_i l1), (2, jm_i l2), (3, jm_i l3), (4, jm_i l4), (7, jm_i l7)] dX12_speaks_72 (by decide) rfl ?_
          refine j_iinc (pc := 74) [(6, jm_i v30), (5, jm_i v28), (8, jm_i v17), (0, jm_vr wd2 X 0 0), (1, jm_i l1), (2, jm_i l2), (3, jm_i l3), (4, jm_i l4)] (q := 8) dX12_speaks_74 rfl (by decide) (fun _ => rfl) (fun v32 h33 => ?_)
          refine j_goto (tgt := 21) (pc := 77) dX12_speaks_77 (by decide) ?_
          refine j_sub (pc := 21) [(0, jm_vr wd2 X 0 0), (1, jm_i l1), (2, jm_i l2), (3, jm_i l3), (4, jm_i l4), (5, jm_i v28), (6, jm_i v30), (7, jm_i v32)] [4, 5, 6, 7, 8, 2, 1, 0] rfl ?_
          exact hk21 M l1 l2 l3 l4 v28 v30 v32 hl1 hl2 hl3 hl4 h29 h31 h33
theorem bX12_speaks_21 (X : jm_X) (fu : Nat) : ∀ (n : Nat) (M : jm_M) (l1 l2 l3 l4 l5 l6 l7 : Int) (hl1 : jm_in l1) (hl2 : jm_in l2) (hl3 : jm_in l3) (hl4 : jm_in l4) (hl5 : jm_in l5) (hl6 : jm_in l6) (hl7 : jm_in l7), jm_J wd2 jm_qv cX12_speaks 9 RX12 rmX12_speaks X M [(0, jm_vr wd2 X 0 0), (1, jm_i l1), (2, jm_i l2), (3, jm_i l3), (4, jm_i l4), (5, jm_i l5), (6, jm_i l6), (7, jm_i l7)] [] 21 (fX12_speaks_21 fu n M l1 l2 l3 l4 l5 l6 l7) := by
  intro n
  induction n with
  | zero => intro M l1 l2 l3 l4 l5 l6 l7 hl1 hl2 hl3 hl4 hl5 hl6 hl7; exact j_none
  | succ n ih => intro M l1 l2 l3 l4 l5 l6 l7 hl1 hl2 hl3 hl4 hl5 hl6 hl7; exact b0X12_speaks_21 X fu (fX12_speaks_21 fu n) ih M l1 l2 l3 l4 l5 l6 l7 hl1 hl2 hl3 hl4 hl5 hl6 hl7
set_option maxHeartbeats 4000000 in
set_option maxRecDepth 100000 in
theorem ct_X12_speaks (fu : Nat) (M : jm_M) (l1 l2 l3 : Int) (hl1 : jm_in l1) (hl2 : jm_in l2) (hl3 : jm_in l3) : jm_Cv wd2 yX12_speaks cX12_speaks 9 none rmX12_speaks M (fun G ad => [.ref (ad (jm_r wd2 0 0)), jm_i l1, jm_i l2, jm_i l3]) (fX12_speaks fu M l1 l2 l3) := by
  refine jm_met_v (fun X => [(0, jm_vr wd2 X 0 0), (1, jm_i l1), (2, jm_i l2), (3, jm_i l3)]) (by decide) (fun _ _ => (Nat.le_of_ble_eq_true rfl)) (fun _ => rfl) (fun X => ?_)
  unfold fX12_speaks
  refine j_aload_n (pc := 0) dX12_speaks_0 rfl (q := 0) rfl ?_
  refine j_geti (pc := 1) jv2_0 jm_01 kf_RX12_7 kg2_0_1 dX12_speaks_1 (fun h1 => ?_)
  refine j_iload_n (pc := 4) dX12_speaks_4 rfl (q := 2) rfl ?_
  refine j_iconst (pc := 5) dX12_speaks_5 ?_
  refine j_iadd (pc := 6) dX12_speaks_6 ?_
  refine j_imul (pc := 7) dX12_speaks_7 ?_
  refine j_iconst (pc := 8) dX12_speaks_8 ?_
  refine j_isub (pc := 9) dX12_speaks_9 ?_
  refine j_nm (pc := 10) (jm_w_in _) (fun v2 h3 => ?_)
  refine j_istore (pc := 10) [(4, jm_i v2), (0, jm_vr wd2 X 0 0), (1, jm_i l1), (2, jm_i l2), (3, jm_i l3)] dX12_speaks_10 (by decide) rfl ?_
  refine j_iconst (pc := 12) dX12_speaks_12 ?_
  refine j_istore (pc := 13) [(5, jm_i 1), (4, jm_i v2), (0, jm_vr wd2 X 0 0), (1, jm_i l1), (2, jm_i l2), (3, jm_i l3)] dX12_speaks_13 (by decide) rfl ?_
  refine j_iconst (pc := 15) dX12_speaks_15 ?_
  refine j_istore (pc := 16) [(6, jm_i (-1)), (5, jm_i 1), (4, jm_i v2), (0, jm_vr wd2 X 0 0), (1, jm_i l1), (2, jm_i l2), (3, jm_i l3)] dX12_speaks_16 (by decide) rfl ?_
  refine j_iconst (pc := 18) dX12_speaks_18 ?_
  refine j_istore (pc := 19) [(7, jm_i 0), (6, jm_i (-1)), (5, jm_i 1), (4, jm_i v2), (0, jm_vr wd2 X 0 0), (1, jm_i l1), (2, jm_i l2), (3, jm_i l3)] dX12_speaks_19 (by decide) rfl ?_
  refine j_sub (pc := 21) [(0, jm_vr wd2 X 0 0), (1, jm_i l1), (2, jm_i l2), (3, jm_i l3), (4, jm_i v2), (5, jm_i 1), (6, jm_i (-1)), (7, jm_i 0)] [4, 5, 6, 7, 3, 2, 1, 0] rfl ?_
  exact bX12_speaks_21 X fu  fu M l1 l2 l3 v2 1 (-1) 0 hl1 hl2 hl3 h3 (jm_inL (by decide) (by decide)) (jm_inL (by decide) (by decide)) (jm_inL (by decide) (by decide))
