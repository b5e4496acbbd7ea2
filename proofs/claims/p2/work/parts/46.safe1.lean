set_option maxHeartbeats 4000000 in
set_option maxRecDepth 100000 in
theorem s_gX12_tries_40 (fu : Nat) (hfu : 4000 ≤ fu) (M0 : jm_M) (w0 : WF M0) : ∀ (l1 l2 l4 l5 l6 l7 : Int) (M : jm_M) (iM : bI bx2 M) (kM : Kp TT2 M0 M) (hl1 : 0 ≤ l1 ∧ l1 ≤ 5) (hl2 : 0 ≤ l2 ∧ l2 ≤ 99) (hl4 : jm_in l4) (hl5 : jm_in l5) (hl6 : jm_in l6) (hl7 : jm_in l7), wp (gX12_tries_40 fu  M l1 l2 l4 l5 l6 l7) (fun r M1 => bI bx2 M1 ∧ Kp TT2 M0 M1 ∧ (0 ≤ r ∧ r ≤ 0)) := by
  intro l1 l2 l4 l5 l6 l7 M iM kM hl1 hl2 hl4 hl5 hl6 hl7
  unfold gX12_tries_40
  refine wp_bk (s_fX12_judges fu hfu M iM l2 ⟨by omega, by omega⟩ (WF.kp kM w0 wf_TT2) ) (fun v1 M2 iM2 jM2 hv1 => ?_)
  have kM2 := kM.tr jM2 tt_TT2_TA2
  refine wp_bp (s_fX12_placeOf fu hfu M2 iM2 l1 0 ⟨by omega, by omega⟩ ⟨by omega, by omega⟩ ) (fun v3 hv3 => ?_)
  have q_1 : (M2 0 0 88) = (M 0 0 88) := jM2 0 0 88 (by unfold TA2; omega)
  have b_3 : 0 ≤ (M 0 0 88) ∧ (M 0 0 88) ≤ 1 := iM 0 0 88
  refine wp_ite (fun c_2 => ?_) (fun c_2 => ?_)
  · skip
    have b_4 : -2147483648 ≤ l4 ∧ l4 ≤ 2147483647 := hl4
    have b_5 : -2147483648 ≤ l5 ∧ l5 ≤ 2147483647 := hl5
    have b_6 : -2147483648 ≤ l6 ∧ l6 ≤ 2147483647 := hl6
    have b_7 : -2147483648 ≤ l7 ∧ l7 ≤ 2147483647 := hl7
    exact s_gX12_tries_82 fu hfu M0 w0    l1 l4 l5 l6 l7 v3 M2 iM2 kM2 ⟨by omega, by omega⟩ hl4 hl5 hl6 hl7 ⟨by omega, by omega⟩  
  · skip
    refine wp_T ⟨by omega, by omega⟩ ?_
    have q_8 : (M2 0 0 89) = (M 0 0 89) := jM2 0 0 89 (by unfold TA2; omega)
    have q_9 : (M2 0 0 90) = (M 0 0 90) := jM2 0 0 90 (by unfold TA2; omega)
    refine wp_bp (s_fX12_isAhead M2 iM2 v3 (M2 68 0 l1) (M2 0 0 89) (M2 0 0 90) (jm_inL (by omega) (by omega)) (iM2 68 0 l1) (bx2_in (iM2 0 0 89)) (bx2_in (iM2 0 0 90)) ) (fun v12 hv12 => ?_)
    refine wp_ite (fun c_10 => ?_) (fun c_10 => ?_)
    · skip
      exact wp_ret ⟨iM2, kM2, by omega⟩
    · skip
      have b_11 : -2147483648 ≤ l4 ∧ l4 ≤ 2147483647 := hl4
      have b_12 : -2147483648 ≤ l5 ∧ l5 ≤ 2147483647 := hl5
      have b_13 : -2147483648 ≤ l6 ∧ l6 ≤ 2147483647 := hl6
      have b_14 : -2147483648 ≤ l7 ∧ l7 ≤ 2147483647 := hl7
      exact s_gX12_tries_82 fu hfu M0 w0    l1 l4 l5 l6 l7 v3 M2 iM2 kM2 ⟨by omega, by omega⟩ hl4 hl5 hl6 hl7 ⟨by omega, by omega⟩  
set_option maxHeartbeats 4000000 in
set_option maxRecDepth 100000 in
theorem s_gX12_tries_23 (fu : Nat) (hfu : 4000 ≤ fu) (M0 : jm_M) (w0 : WF M0) : ∀ (l1 l2 l3 l4 l5 l6 l7 : Int) (M : jm_M) (iM : bI bx2 M) (kM : Kp TT2 M0 M) (hl1 : 0 ≤ l1 ∧ l1 ≤ 5) (hl2 : 0 ≤ l2 ∧ l2 ≤ 99) (hl3 : 0 ≤ l3 ∧ l3 ≤ 2) (hl4 : jm_in l4) (hl5 : jm_in l5) (hl6 : jm_in l6) (hl7 : jm_in l7) (y0 : (M 26 0 l1) ≤ 4), wp (gX12_tries_23 fu  M l1 l2 l3 l4 l5 l6 l7) (fun r M1 => bI bx2 M1 ∧ Kp TT2 M0 M1 ∧ (0 ≤ r ∧ r ≤ 0)) := by
  intro l1 l2 l3 l4 l5 l6 l7 M iM kM hl1 hl2 hl3 hl4 hl5 hl6 hl7 y0
  unfold gX12_tries_23
  refine wp_ite (fun c_1 => ?_) (fun c_1 => ?_)
  · skip
    have b_2 : -2147483648 ≤ l4 ∧ l4 ≤ 2147483647 := hl4
    have b_3 : -2147483648 ≤ l5 ∧ l5 ≤ 2147483647 := hl5
    have b_4 : -2147483648 ≤ l6 ∧ l6 ≤ 2147483647 := hl6
    have b_5 : -2147483648 ≤ l7 ∧ l7 ≤ 2147483647 := hl7
    exact s_gX12_tries_40 fu hfu M0 w0    l1 l2 l4 l5 l6 l7 M iM kM ⟨by omega, by omega⟩ ⟨by omega, by omega⟩ hl4 hl5 hl6 hl7  
  · skip
    have b_6 : 0 ≤ (M 26 0 l1) ∧ (M 26 0 l1) ≤ 5 := iM 26 0 l1
    refine wp_bk (s_fX12_puts M iM l1 l5 l7 200 ⟨by omega, by omega⟩ hl5 hl7 (jm_inL (by decide) (by decide)) (by omega)) (fun v2 M3 iM3 jM3 hv2 => ?_)
    have kM3 := kM.tr jM3 tt_TT2_TU2
    have b_7 : -2147483648 ≤ l4 ∧ l4 ≤ 2147483647 := hl4
    have b_8 : -2147483648 ≤ l5 ∧ l5 ≤ 2147483647 := hl5
    have b_9 : -2147483648 ≤ l6 ∧ l6 ≤ 2147483647 := hl6
    have b_10 : -2147483648 ≤ l7 ∧ l7 ≤ 2147483647 := hl7
    exact s_gX12_tries_40 fu hfu M0 w0    l1 l2 l4 l5 l6 l7 M3 iM3 kM3 ⟨by omega, by omega⟩ ⟨by omega, by omega⟩ hl4 hl5 hl6 hl7  
set_option maxHeartbeats 4000000 in
set_option maxRecDepth 100000 in
theorem s_fX12_tries (fu : Nat) (hfu : 4000 ≤ fu) (M : jm_M) (iM : bI bx2 M) (l1 l2 l3 l4 l5 l6 l7 : Int) (hl1 : 0 ≤ l1 ∧ l1 ≤ 5) (hl2 : 0 ≤ l2 ∧ l2 ≤ 99) (hl3 : 0 ≤ l3 ∧ l3 ≤ 2) (hl4 : jm_in l4) (hl5 : jm_in l5) (hl6 : jm_in l6) (hl7 : jm_in l7) (wM : WF M) : wp (fX12_tries fu M l1 l2 l3 l4 l5 l6 l7) (fun r M1 => bI bx2 M1 ∧ Kp TT2 M M1 ∧ (0 ≤ r ∧ r ≤ 0)) := by
  have kM : Kp TT2 M M := Kp.rf
  unfold fX12_tries
  refine wp_T ⟨by omega, by omega⟩ ?_
  refine wp_sk iM (show 0 ≤ 0 ∧ 0 ≤ 5 by omega) kM (by unfold TT2; omega) (fun M2 u_1 iM2 kM2 => ?_)
  refine wp_ite (fun c_2 => ?_) (fun c_2 => ?_)
  · skip
    have b_3 : -2147483648 ≤ l4 ∧ l4 ≤ 2147483647 := hl4
    have b_4 : -2147483648 ≤ l5 ∧ l5 ≤ 2147483647 := hl5
    have b_5 : -2147483648 ≤ l6 ∧ l6 ≤ 2147483647 := hl6
    have b_6 : -2147483648 ≤ l7 ∧ l7 ≤ 2147483647 := hl7
    have q_7 : (M2 26 0 l1) = 0 := by rw [u_1]; exact jm_ueq
    exact s_gX12_tries_23 fu hfu M wM    l1 l2 l3 l4 l5 l6 l7 M2 iM2 kM2 ⟨by omega, by omega⟩ ⟨by omega, by omega⟩ ⟨by omega, by omega⟩ hl4 hl5 hl6 hl7 (by omega) 
  · skip
    have q_8 : (M2 26 0 l1) = 0 := by rw [u_1]; exact jm_ueq
    refine wp_bk (s_fX12_puts M2 iM2 l1 l4 l6 200 ⟨by omega, by omega⟩ hl4 hl6 (jm_inL (by decide) (by decide)) (by omega)) (fun v4 M5 iM5 jM5 hv4 => ?_)
    have kM5 := kM2.tr jM5 tt_TT2_TU2
    have b_9 : -2147483648 ≤ l4 ∧ l4 ≤ 2147483647 := hl4
    have b_10 : -2147483648 ≤ l5 ∧ l5 ≤ 2147483647 := hl5
    have b_11 : -2147483648 ≤ l6 ∧ l6 ≤ 2147483647 := hl6
    have b_12 : -2147483648 ≤ l7 ∧ l7 ≤ 2147483647 := hl7
    have b_13 : 0 ≤ (M5 26 0 l1) ∧ (M5 26 0 l1) ≤ 5 := iM5 26 0 l1
    exact s_gX12_tries_23 fu hfu M wM    l1 l2 l3 l4 l5 l6 l7 M5 iM5 kM5 ⟨by omega, by omega⟩ ⟨by omega, by omega⟩ ⟨by omega, by omega⟩ hl4 hl5 hl6 hl7 (by omega) 
set_option maxHeartbeats 4000000 in
set_option maxRecDepth 100000 in
theorem s_fX12_waited (fu : Nat) (hfu : 4000 ≤ fu) (M : jm_M) (iM : bI bx2 M) (l1 : Int) (hl1 : jm_in l1) (wM : WF M) : wp (fX12_waited fu M l1) (fun r M1 => bI bx2 M1 ∧ Kp TA2 M M1 ∧ (jm_in r)) := by
  have kM : Kp TA2 M M := Kp.rf
  unfold fX12_waited
  refine wp_sk iM (jm_inL (by decide) (by decide)) kM (by unfold TA2; omega) (fun M1 u_1 iM1 kM1 => ?_)
  refine wp_bp (s_fX12_isCar M1 iM1 l1 hl1 ) (fun v2 hv2 => ?_)
  have b_2 : -2147483648 ≤ l1 ∧ l1 ≤ 2147483647 := hl1
  have q_3 : (M1 0 0 17) = (M 0 0 17) := by rw [u_1]; exact jm_une_k (by decide)
  have b_4 : 0 ≤ (M 0 0 17) ∧ (M 0 0 17) ≤ 6 := iM 0 0 17
  refine wp_ite (fun c_5 => ?_) (fun c_5 => ?_)
  · skip
    exact wp_ret ⟨iM1, kM1, (jm_inL (by decide) (by decide))⟩
  · skip
    refine wp_bk (s_fX12_runs fu hfu M1 iM1   (WF.kp kM1 wM wf_TA2) ) (fun v6 M7 iM7 jM7 hv6 => ?_)
    have kM7 := kM1.tr jM7 (fun _ _ _ h => h)
    refine wp_T ⟨by omega, by omega⟩ ?_
    have b_6 : (-2147483648) ≤ (M7 54 0 l1) ∧ (M7 54 0 l1) ≤ 2147483647 := iM7 54 0 l1
    exact wp_ret ⟨iM7, kM7, (iM7 54 0 l1)⟩
set_option maxHeartbeats 4000000 in
set_option maxRecDepth 100000 in
theorem s_gX12_wall_97 (fu : Nat) (hfu : 4000 ≤ fu) (M0 : jm_M) (w0 : WF M0) (k57 : jm_M → Int → Int → Int → Int → Int → Int → jm_R) (N57 : Int) (hk57 : ∀ (l1 l2 l3 l4 l5 l6 : Int) (M : jm_M) (iM : bI bx2 M) (kM : Kp TA2 M0 M) (hl1 : 0 ≤ l1 ∧ l1 ≤ 5) (hl2 : 0 ≤ l2 ∧ l2 ≤ 2147483647) (hl3 : (-1) ≤ l3 ∧ l3 ≤ 59) (hl4 : jm_in l4) (hl5 : jm_in l5) (hl6 : 0 ≤ l6 ∧ l6 ≤ 6), 7 - l6 < N57 → wp (k57 M l1 l2 l3 l4 l5 l6) (fun r M1 => bI bx2 M1 ∧ Kp TA2 M0 M1 ∧ (jm_in r))) : ∀ (l1 l2 l3 l4 l5 l6 l7 s0 : Int) (M : jm_M) (iM : bI bx2 M) (kM : Kp TA2 M0 M) (hl1 : 0 ≤ l1 ∧ l1 ≤ 5) (hl2 : 0 ≤ l2 ∧ l2 ≤ 2147483647) (hl3 : (-1) ≤ l3 ∧ l3 ≤ 59) (hl4 : jm_in l4) (hl5 : jm_in l5) (hl6 : 0 ≤ l6 ∧ l6 ≤ 5) (hl7 : (-1) ≤ l7 ∧ l7 ≤ 59) (hs0 : jm_in s0), 7 - l6 < N57 + 1 → wp (gX12_wall_97 fu k57 M l1 l2 l3 l4 l5 l6 l7 s0) (fun r M1 => bI bx2 M1 ∧ Kp TA2 M0 M1 ∧ (jm_in r)) := by
  intro l1 l2 l3 l4 l5 l6 l7 s0 M iM kM hl1 hl2 hl3 hl4 hl5 hl6 hl7 hs0 m57
  unfold gX12_wall_97
  refine wp_ite (fun c_1 => ?_) (fun c_1 => ?_)
  · skip
    have b_2 : -2147483648 ≤ l5 ∧ l5 ≤ 2147483647 := hl5
    have w_3 : -2147483648 ≤ (jm_w (l5 + 1)) ∧ (jm_w (l5 + 1)) ≤ 2147483647 := jm_w_in _
    refine wp_e (by exact (jm_w_in _)) (fun v2 e_4 hv2 => ?_)
    have w_5 : (jm_w (l6 + 1)) = (l6 + 1) := jm_wid (by omega) (by omega)
    refine wp_e (by exact (jm_w_in _)) (fun v4 e_6 hv4 => ?_)
    have b_7 : -2147483648 ≤ v4 ∧ v4 ≤ 2147483647 := hv4
    have b_8 : -2147483648 ≤ l4 ∧ l4 ≤ 2147483647 := hl4
    have b_9 : -2147483648 ≤ v2 ∧ v2 ≤ 2147483647 := hv2
    exact hk57 l1 l2 l3 l4 v2 v4 M iM kM ⟨by omega, by omega⟩ ⟨by omega, by omega⟩ ⟨by omega, by omega⟩ hl4 hv2 ⟨by omega, by omega⟩  (by omega)
  · skip
    refine wp_ite (fun c_10 => ?_) (fun c_10 => ?_)
    · skip
      have b_12 : -2147483648 ≤ s0 ∧ s0 ≤ 2147483647 := hs0
      have b_13 : -2147483648 ≤ l4 ∧ l4 ≤ 2147483647 := hl4
      refine wp_ite (fun c_11 => ?_) (fun c_11 => ?_)
      · skip
        have b_14 : -2147483648 ≤ l5 ∧ l5 ≤ 2147483647 := hl5
        have w_15 : -2147483648 ≤ (jm_w (l5 + 1)) ∧ (jm_w (l5 + 1)) ≤ 2147483647 := jm_w_in _
        refine wp_e (by exact (jm_w_in _)) (fun v8 e_16 hv8 => ?_)
        have w_17 : (jm_w (l6 + 1)) = (l6 + 1) := jm_wid (by omega) (by omega)
        refine wp_e (by exact (jm_w_in _)) (fun v10 e_18 hv10 => ?_)
        have b_19 : -2147483648 ≤ v10 ∧ v10 ≤ 2147483647 := hv10
        have b_20 : -2147483648 ≤ v8 ∧ v8 ≤ 2147483647 := hv8
        exact hk57 l1 l2 l3 l4 v8 v10 M iM kM ⟨by omega, by omega⟩ ⟨by omega, by omega⟩ ⟨by omega, by omega⟩ hl4 hv8 ⟨by omega, by omega⟩  (by omega)
      · skip
        refine wp_ite (fun c_21 => ?_) (fun c_21 => ?_)
        · skip
          refine wp_ite (fun c_22 => ?_) (fun c_22 => ?_)
          · skip
            have b_23 : -2147483648 ≤ l5 ∧ l5 ≤ 2147483647 := hl5
            have w_24 : (jm_w (l5 + 0)) = (l5 + 0) := jm_wid (by omega) (by omega)
            refine wp_e (by exact (jm_w_in _)) (fun v14 e_25 hv14 => ?_)
            have w_26 : (jm_w (l6 + 1)) = (l6 + 1) := jm_wid (by omega) (by omega)
            refine wp_e (by exact (jm_w_in _)) (fun v16 e_27 hv16 => ?_)
            have b_28 : -2147483648 ≤ v16 ∧ v16 ≤ 2147483647 := hv16
            have b_29 : -2147483648 ≤ v14 ∧ v14 ≤ 2147483647 := hv14
            exact hk57 l1 l2 l3 l4 v14 v16 M iM kM ⟨by omega, by omega⟩ ⟨by omega, by omega⟩ ⟨by omega, by omega⟩ hl4 hv14 ⟨by omega, by omega⟩  (by omega)
          · skip
            have b_30 : -2147483648 ≤ l5 ∧ l5 ≤ 2147483647 := hl5
            have w_31 : -2147483648 ≤ (jm_w (l5 + 1)) ∧ (jm_w (l5 + 1)) ≤ 2147483647 := jm_w_in _
            refine wp_e (by exact (jm_w_in _)) (fun v18 e_32 hv18 => ?_)
            have w_33 : (jm_w (l6 + 1)) = (l6 + 1) := jm_wid (by omega) (by omega)
            refine wp_e (by exact (jm_w_in _)) (fun v20 e_34 hv20 => ?_)
            have b_35 : -2147483648 ≤ v20 ∧ v20 ≤ 2147483647 := hv20
            have b_36 : -2147483648 ≤ v18 ∧ v18 ≤ 2147483647 := hv18
            exact hk57 l1 l2 l3 l4 v18 v20 M iM kM ⟨by omega, by omega⟩ ⟨by omega, by omega⟩ ⟨by omega, by omega⟩ hl4 hv18 ⟨by omega, by omega⟩  (by omega)
        · skip
          have b_37 : -2147483648 ≤ l5 ∧ l5 ≤ 2147483647 := hl5
          have w_38 : (jm_w (l5 + 0)) = (l5 + 0) := jm_wid (by omega) (by omega)
          refine wp_e (by exact (jm_w_in _)) (fun v22 e_39 hv22 => ?_)
          have w_40 : (jm_w (l6 + 1)) = (l6 + 1) := jm_wid (by omega) (by omega)
          refine wp_e (by exact (jm_w_in _)) (fun v24 e_41 hv24 => ?_)
          have b_42 : -2147483648 ≤ v24 ∧ v24 ≤ 2147483647 := hv24
          have b_43 : -2147483648 ≤ v22 ∧ v22 ≤ 2147483647 := hv22
          exact hk57 l1 l2 l3 l4 v22 v24 M iM kM ⟨by omega, by omega⟩ ⟨by omega, by omega⟩ ⟨by omega, by omega⟩ hl4 hv22 ⟨by omega, by omega⟩  (by omega)
    · skip
      have b_44 : -2147483648 ≤ l5 ∧ l5 ≤ 2147483647 := hl5
      have w_45 : (jm_w (l5 + 0)) = (l5 + 0) := jm_wid (by omega) (by omega)
      refine wp_e (by exact (jm_w_in _)) (fun v26 e_46 hv26 => ?_)
      have w_47 : (jm_w (l6 + 1)) = (l6 + 1) := jm_wid (by omega) (by omega)
      refine wp_e (by exact (jm_w_in _)) (fun v28 e_48 hv28 => ?_)
      have b_49 : -2147483648 ≤ v28 ∧ v28 ≤ 2147483647 := hv28
      have b_50 : -2147483648 ≤ l4 ∧ l4 ≤ 2147483647 := hl4
      have b_51 : -2147483648 ≤ v26 ∧ v26 ≤ 2147483647 := hv26
      exact hk57 l1 l2 l3 l4 v26 v28 M iM kM ⟨by omega, by omega⟩ ⟨by omega, by omega⟩ ⟨by omega, by omega⟩ hl4 hv26 ⟨by omega, by omega⟩  (by omega)
set_option maxHeartbeats 4000000 in
set_option maxRecDepth 100000 in
theorem s_gX12_wall_57 (fu : Nat) (hfu : 4000 ≤ fu) (M0 : jm_M) (w0 : WF M0) (k57 : jm_M → Int → Int → Int → Int → Int → Int → jm_R) (N57 : Int) (hk57 : ∀ (l1 l2 l3 l4 l5 l6 : Int) (M : jm_M) (iM : bI bx2 M) (kM : Kp TA2 M0 M) (hl1 : 0 ≤ l1 ∧ l1 ≤ 5) (hl2 : 0 ≤ l2 ∧ l2 ≤ 2147483647) (hl3 : (-1) ≤ l3 ∧ l3 ≤ 59) (hl4 : jm_in l4) (hl5 : jm_in l5) (hl6 : 0 ≤ l6 ∧ l6 ≤ 6), 7 - l6 < N57 → wp (k57 M l1 l2 l3 l4 l5 l6) (fun r M1 => bI bx2 M1 ∧ Kp TA2 M0 M1 ∧ (jm_in r))) : ∀ (l1 l2 l3 l4 l5 l6 : Int) (M : jm_M) (iM : bI bx2 M) (kM : Kp TA2 M0 M) (hl1 : 0 ≤ l1 ∧ l1 ≤ 5) (hl2 : 0 ≤ l2 ∧ l2 ≤ 2147483647) (hl3 : (-1) ≤ l3 ∧ l3 ≤ 59) (hl4 : jm_in l4) (hl5 : jm_in l5) (hl6 : 0 ≤ l6 ∧ l6 ≤ 6), 7 - l6 < N57 + 1 → wp (gX12_wall_57 fu k57 M l1 l2 l3 l4 l5 l6) (fun r M1 => bI bx2 M1 ∧ Kp TA2 M0 M1 ∧ (jm_in r)) := by
  intro l1 l2 l3 l4 l5 l6 M iM kM hl1 hl2 hl3 hl4 hl5 hl6 m57
  unfold gX12_wall_57
  have b_2 : 0 ≤ (M 0 0 17) ∧ (M 0 0 17) ≤ 6 := iM 0 0 17
  refine wp_ite (fun c_1 => ?_) (fun c_1 => ?_)
  · skip
    have b_3 : -2147483648 ≤ l5 ∧ l5 ≤ 2147483647 := hl5
    exact wp_ret ⟨iM, kM, hl5⟩
  · skip
    refine wp_bp (s_fX12_toldLine fu hfu M iM l6 l2 ⟨by omega, by omega⟩ ⟨by omega, by omega⟩ ) (fun v3 hv3 => ?_)
    refine wp_ite (fun c_4 => ?_) (fun c_4 => ?_)
    · skip
      have w_5 : (jm_w (60 * l6)) = (60 * l6) := jm_wid (by omega) (by omega)
      have w_6 : (jm_w ((jm_w (60 * l6)) + v3)) = ((jm_w (60 * l6)) + v3) := jm_wid (by omega) (by omega)
      refine wp_T ⟨by omega, by omega⟩ ?_
      have b_7 : -2147483648 ≤ l4 ∧ l4 ≤ 2147483647 := hl4
      have b_8 : -2147483648 ≤ l5 ∧ l5 ≤ 2147483647 := hl5
      have b_9 : (-2147483648) ≤ (M 55 0 (jm_w ((jm_w (60 * l6)) + v3))) ∧ (M 55 0 (jm_w ((jm_w (60 * l6)) + v3))) ≤ 2147483647 := iM 55 0 (jm_w ((jm_w (60 * l6)) + v3))
      exact s_gX12_wall_97 fu hfu M0 w0 k57 N57 hk57 l1 l2 l3 l4 l5 l6 v3 (M 55 0 (jm_w ((jm_w (60 * l6)) + v3))) M iM kM ⟨by omega, by omega⟩ ⟨by omega, by omega⟩ ⟨by omega, by omega⟩ hl4 hl5 ⟨by omega, by omega⟩ ⟨by omega, by omega⟩ (iM 55 0 (jm_w ((jm_w (60 * l6)) + v3)))  (by omega)
    · skip
      have b_10 : -2147483648 ≤ l4 ∧ l4 ≤ 2147483647 := hl4
      have b_11 : -2147483648 ≤ l5 ∧ l5 ≤ 2147483647 := hl5
      exact s_gX12_wall_97 fu hfu M0 w0 k57 N57 hk57 l1 l2 l3 l4 l5 l6 v3 0 M iM kM ⟨by omega, by omega⟩ ⟨by omega, by omega⟩ ⟨by omega, by omega⟩ hl4 hl5 ⟨by omega, by omega⟩ ⟨by omega, by omega⟩ (jm_inL (by decide) (by decide))  (by omega)
set_option maxHeartbeats 4000000 in
set_option maxRecDepth 100000 in
theorem s_fX12_wall_57 (fu : Nat) (hfu : 4000 ≤ fu) (M0 : jm_M) (w0 : WF M0) : ∀ (n : Nat) (l1 l2 l3 l4 l5 l6 : Int) (M : jm_M) (iM : bI bx2 M) (kM : Kp TA2 M0 M) (hl1 : 0 ≤ l1 ∧ l1 ≤ 5) (hl2 : 0 ≤ l2 ∧ l2 ≤ 2147483647) (hl3 : (-1) ≤ l3 ∧ l3 ≤ 59) (hl4 : jm_in l4) (hl5 : jm_in l5) (hl6 : 0 ≤ l6 ∧ l6 ≤ 6), 7 - l6 < (n : Int) → wp (fX12_wall_57 fu  n M l1 l2 l3 l4 l5 l6) (fun r M1 => bI bx2 M1 ∧ Kp TA2 M0 M1 ∧ (jm_in r)) := by
  intro n
  induction n with
  | zero => intro l1 l2 l3 l4 l5 l6 M iM kM hl1 hl2 hl3 hl4 hl5 hl6 hm; exfalso; omega
  | succ n ih =>
    intro l1 l2 l3 l4 l5 l6 M iM kM hl1 hl2 hl3 hl4 hl5 hl6 hm
    exact s_gX12_wall_57 fu hfu M0 w0 (fX12_wall_57 fu  n) (n : Int) ih l1 l2 l3 l4 l5 l6 M iM kM hl1 hl2 hl3 hl4 hl5 hl6 (by omega)
set_option maxHeartbeats 4000000 in
set_option maxRecDepth 100000 in
theorem s_fX12_wall (fu : Nat) (hfu : 4000 ≤ fu) (M : jm_M) (iM : bI bx2 M) (l1 l2 : Int) (hl1 : jm_in l1) (hl2 : jm_in l2) (wM : WF M) : wp (fX12_wall fu M l1 l2) (fun r M1 => bI bx2 M1 ∧ Kp TA2 M M1 ∧ (jm_in r)) := by
  have kM : Kp TA2 M M := Kp.rf
  unfold fX12_wall
  refine wp_sk iM (jm_inL (by decide) (by decide)) kM (by unfold TA2; omega) (fun M1 u_1 iM1 kM1 => ?_)
  refine wp_bp (s_fX12_isCar M1 iM1 l1 hl1 ) (fun v2 hv2 => ?_)
  have b_2 : -2147483648 ≤ l1 ∧ l1 ≤ 2147483647 := hl1
  have q_3 : (M1 0 0 17) = (M 0 0 17) := by rw [u_1]; exact jm_une_k (by decide)
  have b_4 : 0 ≤ (M 0 0 17) ∧ (M 0 0 17) ≤ 6 := iM 0 0 17
  refine wp_ite (fun c_5 => ?_) (fun c_5 => ?_)
  · skip
    exact wp_ret ⟨iM1, kM1, (jm_inL (by decide) (by decide))⟩
  · skip
    have b_7 : -2147483648 ≤ l2 ∧ l2 ≤ 2147483647 := hl2
    refine wp_ite (fun c_6 => ?_) (fun c_6 => ?_)
    · skip
      refine wp_bk (s_fX12_runs fu hfu M1 iM1   (WF.kp kM1 wM wf_TA2) ) (fun v7 M8 iM8 jM8 hv7 => ?_)
      have kM8 := kM1.tr jM8 (fun _ _ _ h => h)
      refine wp_bp (s_fX12_toldLine fu hfu M8 iM8 l1 l2 ⟨by omega, by omega⟩ ⟨by omega, by omega⟩ ) (fun v9 hv9 => ?_)
      refine wp_ite (fun c_8 => ?_) (fun c_8 => ?_)
      · skip
        have w_9 : (jm_w (60 * l1)) = (60 * l1) := jm_wid (by omega) (by omega)
        have w_10 : (jm_w ((jm_w (60 * l1)) + v9)) = ((jm_w (60 * l1)) + v9) := jm_wid (by omega) (by omega)
        refine wp_T ⟨by omega, by omega⟩ ?_
        have b_11 : (-2147483648) ≤ (M8 55 0 (jm_w ((jm_w (60 * l1)) + v9))) ∧ (M8 55 0 (jm_w ((jm_w (60 * l1)) + v9))) ≤ 2147483647 := iM8 55 0 (jm_w ((jm_w (60 * l1)) + v9))
        refine wp_e (by exact (iM8 55 0 (jm_w ((jm_w (60 * l1)) + v9)))) (fun v15 e_12 hv15 => ?_)
        have b_13 : -2147483648 ≤ v15 ∧ v15 ≤ 2147483647 := hv15
        exact s_fX12_wall_57 fu hfu M wM    fu l1 l2 v9 v15 0 0 M8 iM8 kM8 ⟨by omega, by omega⟩ ⟨by omega, by omega⟩ ⟨by omega, by omega⟩ hv15 (jm_inL (by decide) (by decide)) ⟨by omega, by omega⟩   (by omega)
      · skip
        exact s_fX12_wall_57 fu hfu M wM    fu l1 l2 v9 0 0 0 M8 iM8 kM8 ⟨by omega, by omega⟩ ⟨by omega, by omega⟩ ⟨by omega, by omega⟩ (jm_inL (by decide) (by decide)) (jm_inL (by decide) (by decide)) ⟨by omega, by omega⟩   (by omega)
    · skip
      exact wp_ret ⟨iM1, kM1, (jm_inL (by decide) (by decide))⟩
set_option maxHeartbeats 4000000 in
set_option maxRecDepth 100000 in
theorem s_fX12_why (fu : Nat) (hfu : 4000 ≤ fu) (M : jm_M) (iM : bI bx2 M) (l1 l2 : Int) (hl1 : jm_in l1) (hl2 : jm_in l2) (wM : WF M) : wp (fX12_why fu M l1 l2) (fun r M1 => bI bx2 M1 ∧ Kp TA2 M M1 ∧ (jm_in r)) := by
  have kM : Kp TA2 M M := Kp.rf
  unfold fX12_why
  refine wp_sk iM (jm_inL (by decide) (by decide)) kM (by unfold TA2; omega) (fun M1 u_1 iM1 kM1 => ?_)
  refine wp_bp (s_fX12_isCar M1 iM1 l1 hl1 ) (fun v2 hv2 => ?_)
  have b_2 : -2147483648 ≤ l1 ∧ l1 ≤ 2147483647 := hl1
  have q_3 : (M1 0 0 17) = (M 0 0 17) := by rw [u_1]; exact jm_une_k (by decide)
  have b_4 : 0 ≤ (M 0 0 17) ∧ (M 0 0 17) ≤ 6 := iM 0 0 17
  refine wp_ite (fun c_5 => ?_) (fun c_5 => ?_)
  · skip
    exact wp_ret ⟨iM1, kM1, (jm_inL (by decide) (by decide))⟩
  · skip
    refine wp_bp (s_fX12_isLap M1 iM1 l2 hl2 ) (fun v6 hv6 => ?_)
    have b_6 : -2147483648 ≤ l2 ∧ l2 ≤ 2147483647 := hl2
    have q_7 : (M1 0 0 2) = (M 0 0 2) := by rw [u_1]; exact jm_une_k (by decide)
    have b_8 : 1 ≤ (M 0 0 2) ∧ (M 0 0 2) ≤ 12 := iM 0 0 2
    refine wp_ite (fun c_9 => ?_) (fun c_9 => ?_)
    · skip
      exact wp_ret ⟨iM1, kM1, (jm_inL (by decide) (by decide))⟩
    · skip
      refine wp_bk (s_fX12_runs fu hfu M1 iM1   (WF.kp kM1 wM wf_TA2) ) (fun v10 M11 iM11 jM11 hv10 => ?_)
      have kM11 := kM1.tr jM11 (fun _ _ _ h => h)
      have w_10 : (jm_w (12 * l1)) = (12 * l1) := jm_wid (by omega) (by omega)
      have w_11 : (jm_w ((jm_w (12 * l1)) + l2)) = ((jm_w (12 * l1)) + l2) := jm_wid (by omega) (by omega)
      refine wp_T ⟨by omega, by omega⟩ ?_
      have b_12 : (-2147483648) ≤ (M11 59 0 (jm_w ((jm_w (12 * l1)) + l2))) ∧ (M11 59 0 (jm_w ((jm_w (12 * l1)) + l2))) ≤ 2147483647 := iM11 59 0 (jm_w ((jm_w (12 * l1)) + l2))
      exact wp_ret ⟨iM11, kM11, (iM11 59 0 (jm_w ((jm_w (12 * l1)) + l2)))⟩
set_option maxHeartbeats 4000000 in
set_option maxRecDepth 100000 in
theorem s_fX12_within (fu : Nat) (hfu : 4000 ≤ fu) (M : jm_M) (iM : bI bx2 M) (l1 l2 : Int) (hl1 : jm_in l1) (hl2 : jm_in l2) (wM : WF M) : wp (fX12_within fu M l1 l2) (fun r M1 => bI bx2 M1 ∧ Kp TA2 M M1 ∧ ((-1) ≤ r ∧ r ≤ 5)) := by
  have kM : Kp TA2 M M := Kp.rf
  unfold fX12_within
  refine wp_sk iM (jm_inL (by decide) (by decide)) kM (by unfold TA2; omega) (fun M1 u_1 iM1 kM1 => ?_)
  refine wp_bp (s_fX12_isCar M1 iM1 l1 hl1 ) (fun v2 hv2 => ?_)
  have b_2 : -2147483648 ≤ l1 ∧ l1 ≤ 2147483647 := hl1
  have q_3 : (M1 0 0 17) = (M 0 0 17) := by rw [u_1]; exact jm_une_k (by decide)
  have b_4 : 0 ≤ (M 0 0 17) ∧ (M 0 0 17) ≤ 6 := iM 0 0 17
  refine wp_ite (fun c_5 => ?_) (fun c_5 => ?_)
  · skip
    exact wp_ret ⟨iM1, kM1, by omega⟩
  · skip
    refine wp_bp (s_fX12_isDay M1 iM1 l2 hl2 ) (fun v6 hv6 => ?_)
    have b_6 : -2147483648 ≤ l2 ∧ l2 ≤ 2147483647 := hl2
    refine wp_ite (fun c_7 => ?_) (fun c_7 => ?_)
    · skip
      exact wp_ret ⟨iM1, kM1, by omega⟩
    · skip
      refine wp_bk (s_fX12_judges fu hfu M1 iM1 l2 ⟨by omega, by omega⟩ (WF.kp kM1 wM wf_TA2) ) (fun v10 M11 iM11 jM11 hv10 => ?_)
      have kM11 := kM1.tr jM11 (fun _ _ _ h => h)
      refine wp_bp (s_fX12_placeOf fu hfu M11 iM11 l1 1 ⟨by omega, by omega⟩ ⟨by omega, by omega⟩ ) (fun v12 hv12 => ?_)
      exact wp_ret ⟨iM11, kM11, by omega⟩
