set_option maxHeartbeats 4000000 in
set_option maxRecDepth 100000 in
theorem s_gX12_knownOf_38 (fu : Nat) (hfu : 4000 ≤ fu) (M : jm_M) (iM : bI bx2 M) (k38 : jm_M → Int → Int → Int → Int → jm_R) (N38 : Int) (hk38 : ∀ (l1 l2 l3 l5 : Int) (hl1 : 0 ≤ l1 ∧ l1 ≤ 5) (hl2 : 0 ≤ l2 ∧ l2 ≤ 59) (hl3 : 0 ≤ l3 ∧ l3 ≤ 1) (hl5 : 0 ≤ l5 ∧ l5 ≤ 60) (y0 : l5 ≤ ((M 0 0 1) * (M 0 0 2))), 61 - l5 < N38 → wp (k38 M l1 l2 l3 l5) (fun r M1 => M1 = M ∧ (jm_in r))) : ∀ (l1 l2 l3 l5 : Int) (hl1 : 0 ≤ l1 ∧ l1 ≤ 5) (hl2 : 0 ≤ l2 ∧ l2 ≤ 59) (hl3 : 0 ≤ l3 ∧ l3 ≤ 1) (hl5 : 0 ≤ l5 ∧ l5 ≤ 60) (y0 : l5 ≤ ((M 0 0 1) * (M 0 0 2))), 61 - l5 < N38 + 1 → wp (gX12_knownOf_38 fu k38 M l1 l2 l3 l5) (fun r M1 => M1 = M ∧ (jm_in r)) := by
  intro l1 l2 l3 l5 hl1 hl2 hl3 hl5 y0 m38
  unfold gX12_knownOf_38
  have b_2 : 2 ≤ (M 0 0 1) ∧ (M 0 0 1) ≤ 5 := iM 0 0 1
  have b_3 : 1 ≤ (M 0 0 2) ∧ (M 0 0 2) ≤ 12 := iM 0 0 2
  have p_4 : 0 ≤ ((M 0 0 1) * (M 0 0 2)) ∧ ((M 0 0 1) * (M 0 0 2)) ≤ 60 := jm_mulb (A := 5) (B := 12) (by omega) (by omega) (by omega) (by omega) (by decide)
  have p_5 : 2 ≤ ((M 0 0 1) * (M 0 0 2)) := jm_mull (A := 2) (B := 1) (by omega) (by omega) (by omega) (by omega) (by decide)
  have w_6 : (jm_w ((M 0 0 1) * (M 0 0 2))) = ((M 0 0 1) * (M 0 0 2)) := jm_wid (by omega) (by omega)
  refine wp_ite (fun c_1 => ?_) (fun c_1 => ?_)
  · skip
    exact s_gX12_knownOf_73 fu hfu M iM    l1 l2 l3 l5  ⟨by omega, by omega⟩ ⟨by omega, by omega⟩ ⟨by omega, by omega⟩ ⟨by omega, by omega⟩ (by omega) 
  · skip
    refine wp_T (by omega) ?_
    have f_7 : 0 ≤ (jm_mod l5 (M 0 0 1)) ∧ (jm_mod l5 (M 0 0 1)) < (M 0 0 1) := jm_mod_f (by omega) (by omega)
    refine wp_T ⟨by omega, by omega⟩ ?_
    have b_9 : 0 ≤ (M 3 0 (jm_mod l5 (M 0 0 1))) ∧ (M 3 0 (jm_mod l5 (M 0 0 1))) ≤ 1 := iM 3 0 (jm_mod l5 (M 0 0 1))
    refine wp_ite (fun c_8 => ?_) (fun c_8 => ?_)
    · skip
      exact s_gX12_knownOf_73 fu hfu M iM    l1 l2 l3 l5  ⟨by omega, by omega⟩ ⟨by omega, by omega⟩ ⟨by omega, by omega⟩ ⟨by omega, by omega⟩ (by omega) 
    · skip
      have w_10 : (jm_w (l5 + 1)) = (l5 + 1) := jm_wid (by omega) (by omega)
      refine wp_e (by exact (jm_w_in _)) (fun v9 e_11 hv9 => ?_)
      have b_12 : -2147483648 ≤ v9 ∧ v9 ≤ 2147483647 := hv9
      exact hk38 l1 l2 l3 v9  ⟨by omega, by omega⟩ ⟨by omega, by omega⟩ ⟨by omega, by omega⟩ ⟨by omega, by omega⟩ (by omega) (by omega)
set_option maxHeartbeats 4000000 in
set_option maxRecDepth 100000 in
theorem s_fX12_knownOf_38 (fu : Nat) (hfu : 4000 ≤ fu) (M : jm_M) (iM : bI bx2 M) : ∀ (n : Nat) (l1 l2 l3 l5 : Int) (hl1 : 0 ≤ l1 ∧ l1 ≤ 5) (hl2 : 0 ≤ l2 ∧ l2 ≤ 59) (hl3 : 0 ≤ l3 ∧ l3 ≤ 1) (hl5 : 0 ≤ l5 ∧ l5 ≤ 60) (y0 : l5 ≤ ((M 0 0 1) * (M 0 0 2))), 61 - l5 < (n : Int) → wp (fX12_knownOf_38 fu  n M l1 l2 l3 l5) (fun r M1 => M1 = M ∧ (jm_in r)) := by
  intro n
  induction n with
  | zero => intro l1 l2 l3 l5 hl1 hl2 hl3 hl5 y0 hm; exfalso; omega
  | succ n ih =>
    intro l1 l2 l3 l5 hl1 hl2 hl3 hl5 y0 hm
    exact s_gX12_knownOf_38 fu hfu M iM (fX12_knownOf_38 fu  n) (n : Int) ih l1 l2 l3 l5 hl1 hl2 hl3 hl5 y0 (by omega)
set_option maxHeartbeats 4000000 in
set_option maxRecDepth 100000 in
theorem s_fX12_knownOf (fu : Nat) (hfu : 4000 ≤ fu) (M : jm_M) (iM : bI bx2 M) (l1 l2 l3 : Int) (hl1 : 0 ≤ l1 ∧ l1 ≤ 5) (hl2 : 0 ≤ l2 ∧ l2 ≤ 59) (hl3 : 0 ≤ l3 ∧ l3 ≤ 1) (x0 : l2 < ((M 0 0 1) * (M 0 0 2))) : wp (fX12_knownOf fu M l1 l2 l3) (fun r M1 => M1 = M ∧ (jm_in r)) := by
  unfold fX12_knownOf
  have w_1 : (jm_w (60 * l1)) = (60 * l1) := jm_wid (by omega) (by omega)
  have w_2 : (jm_w ((jm_w (60 * l1)) + l2)) = ((jm_w (60 * l1)) + l2) := jm_wid (by omega) (by omega)
  refine wp_T ⟨by omega, by omega⟩ ?_
  have b_3 : (-2147483648) ≤ (M 55 0 (jm_w ((jm_w (60 * l1)) + l2))) ∧ (M 55 0 (jm_w ((jm_w (60 * l1)) + l2))) ≤ 2147483647 := iM 55 0 (jm_w ((jm_w (60 * l1)) + l2))
  refine wp_e (by exact (iM 55 0 (jm_w ((jm_w (60 * l1)) + l2)))) (fun v3 e_4 hv3 => ?_)
  have b_6 : -2147483648 ≤ v3 ∧ v3 ≤ 2147483647 := hv3
  refine wp_ite (fun c_5 => ?_) (fun c_5 => ?_)
  · skip
    exact wp_ret ⟨rfl, hv3⟩
  · skip
    have b_7 : 2 ≤ (M 0 0 1) ∧ (M 0 0 1) ≤ 5 := iM 0 0 1
    refine wp_T (by omega) ?_
    have f_8 : 0 ≤ (jm_mod l2 (M 0 0 1)) ∧ (jm_mod l2 (M 0 0 1)) < (M 0 0 1) := jm_mod_f (by omega) (by omega)
    refine wp_T ⟨by omega, by omega⟩ ?_
    have b_10 : 0 ≤ (M 3 0 (jm_mod l2 (M 0 0 1))) ∧ (M 3 0 (jm_mod l2 (M 0 0 1))) ≤ 1 := iM 3 0 (jm_mod l2 (M 0 0 1))
    refine wp_ite (fun c_9 => ?_) (fun c_9 => ?_)
    · skip
      exact wp_ret ⟨rfl, hv3⟩
    · skip
      have b_11 : 1 ≤ (M 0 0 2) ∧ (M 0 0 2) ≤ 12 := iM 0 0 2
      have p_12 : 0 ≤ ((M 0 0 1) * (M 0 0 2)) ∧ ((M 0 0 1) * (M 0 0 2)) ≤ 60 := jm_mulb (A := 5) (B := 12) (by omega) (by omega) (by omega) (by omega) (by decide)
      have p_13 : 2 ≤ ((M 0 0 1) * (M 0 0 2)) := jm_mull (A := 2) (B := 1) (by omega) (by omega) (by omega) (by omega) (by decide)
      exact s_fX12_knownOf_38 fu hfu M iM    fu l1 l2 l3 l2  ⟨by omega, by omega⟩ ⟨by omega, by omega⟩ ⟨by omega, by omega⟩ ⟨by omega, by omega⟩ (by omega)  (by omega)
set_option maxHeartbeats 4000000 in
set_option maxRecDepth 100000 in
theorem s_fX12_ahead (fu : Nat) (hfu : 4000 ≤ fu) (M : jm_M) (iM : bI bx2 M) (l1 l2 l3 l4 : Int) (hl1 : jm_in l1) (hl2 : jm_in l2) (hl3 : jm_in l3) (hl4 : jm_in l4) (wM : WF M) : wp (fX12_ahead fu M l1 l2 l3 l4) (fun r M1 => bI bx2 M1 ∧ Kp TA2 M M1 ∧ ((-1) ≤ r ∧ r ≤ 1)) := by
  have kM : Kp TA2 M M := Kp.rf
  unfold fX12_ahead
  refine wp_sk iM (jm_inL (by decide) (by decide)) kM (by unfold TA2; omega) (fun M1 u_1 iM1 kM1 => ?_)
  refine wp_bp (s_fX12_isCar M1 iM1 l1 hl1 ) (fun v2 hv2 => ?_)
  have b_2 : -2147483648 ≤ l1 ∧ l1 ≤ 2147483647 := hl1
  have q_3 : (M1 0 0 17) = (M 0 0 17) := by rw [u_1]; exact jm_une_k (by decide)
  have b_4 : 0 ≤ (M 0 0 17) ∧ (M 0 0 17) ≤ 6 := iM 0 0 17
  refine wp_ite (fun c_5 => ?_) (fun c_5 => ?_)
  · skip
    exact wp_ret ⟨iM1, kM1, by omega⟩
  · skip
    refine wp_bp (s_fX12_isCar M1 iM1 l2 hl2 ) (fun v6 hv6 => ?_)
    have b_6 : -2147483648 ≤ l2 ∧ l2 ≤ 2147483647 := hl2
    refine wp_ite (fun c_7 => ?_) (fun c_7 => ?_)
    · skip
      exact wp_ret ⟨iM1, kM1, by omega⟩
    · skip
      refine wp_ite (fun c_8 => ?_) (fun c_8 => ?_)
      · skip
        exact wp_ret ⟨iM1, kM1, by omega⟩
      · skip
        refine wp_bp (s_fX12_isLap M1 iM1 l3 hl3 ) (fun v11 hv11 => ?_)
        have b_9 : -2147483648 ≤ l3 ∧ l3 ≤ 2147483647 := hl3
        have q_10 : (M1 0 0 2) = (M 0 0 2) := by rw [u_1]; exact jm_une_k (by decide)
        have b_11 : 1 ≤ (M 0 0 2) ∧ (M 0 0 2) ≤ 12 := iM 0 0 2
        refine wp_ite (fun c_12 => ?_) (fun c_12 => ?_)
        · skip
          exact wp_ret ⟨iM1, kM1, by omega⟩
        · skip
          refine wp_bp (s_fX12_isSector M1 iM1 l4 hl4 ) (fun v15 hv15 => ?_)
          have b_13 : -2147483648 ≤ l4 ∧ l4 ≤ 2147483647 := hl4
          have q_14 : (M1 0 0 1) = (M 0 0 1) := by rw [u_1]; exact jm_une_k (by decide)
          have b_15 : 2 ≤ (M 0 0 1) ∧ (M 0 0 1) ≤ 5 := iM 0 0 1
          refine wp_ite (fun c_16 => ?_) (fun c_16 => ?_)
          · skip
            exact wp_ret ⟨iM1, kM1, by omega⟩
          · skip
            refine wp_bk (s_fX12_runs fu hfu M1 iM1   (WF.kp kM1 wM wf_TA2) ) (fun v19 M20 iM20 jM20 hv19 => ?_)
            have kM20 := kM1.tr jM20 (fun _ _ _ h => h)
            have q_17 : (M20 0 0 1) = (M1 0 0 1) := jM20 0 0 1 (by unfold TA2; omega)
            have r_18 : ((M20 0 0 1) * l3) = ((M 0 0 1) * l3) := by rw [show (M20 0 0 1) = (M 0 0 1) by omega]
            have r_19 : (jm_w ((M20 0 0 1) * l3)) = (jm_w ((M 0 0 1) * l3)) := congrArg jm_w (by omega)
            have r_20 : (jm_w ((jm_w ((M20 0 0 1) * l3)) + l4)) = (jm_w ((jm_w ((M 0 0 1) * l3)) + l4)) := congrArg jm_w (by omega)
            have p_21 : 0 ≤ ((M 0 0 1) * l3) ∧ ((M 0 0 1) * l3) ≤ 55 := jm_mulb (A := 5) (B := 11) (by omega) (by omega) (by omega) (by omega) (by decide)
            have w_22 : (jm_w ((M 0 0 1) * l3)) = ((M 0 0 1) * l3) := jm_wid (by omega) (by omega)
            have w_23 : (jm_w ((jm_w ((M 0 0 1) * l3)) + l4)) = ((jm_w ((M 0 0 1) * l3)) + l4) := jm_wid (by omega) (by omega)
            have q_24 : (M20 0 0 2) = (M1 0 0 2) := jM20 0 0 2 (by unfold TA2; omega)
            have r_25 : ((M20 0 0 1) * (M20 0 0 2)) = ((M 0 0 1) * (M 0 0 2)) := by rw [show (M20 0 0 1) = (M 0 0 1) by omega, show (M20 0 0 2) = (M 0 0 2) by omega]
            have p_26 : 0 ≤ ((M 0 0 1) * (M 0 0 2)) ∧ ((M 0 0 1) * (M 0 0 2)) ≤ 60 := jm_mulb (A := 5) (B := 12) (by omega) (by omega) (by omega) (by omega) (by decide)
            have p_27 : 2 ≤ ((M 0 0 1) * (M 0 0 2)) := jm_mull (A := 2) (B := 1) (by omega) (by omega) (by omega) (by omega) (by decide)
            have ms_28 := jm_mulstep (s := (M 0 0 1)) (a := l3) (b := (M 0 0 2)) (by omega) (by omega)
            refine wp_bp (s_fX12_knownOf fu hfu M20 iM20 l1 (jm_w ((jm_w ((M20 0 0 1) * l3)) + l4)) 1 ⟨by omega, by omega⟩ ⟨by omega, by omega⟩ ⟨by omega, by omega⟩ (by omega)) (fun v22 hv22 => ?_)
            have ms_29 := jm_mulstep (s := (M 0 0 1)) (a := l3) (b := (M 0 0 2)) (by omega) (by omega)
            refine wp_bp (s_fX12_knownOf fu hfu M20 iM20 l2 (jm_w ((jm_w ((M20 0 0 1) * l3)) + l4)) 0 ⟨by omega, by omega⟩ ⟨by omega, by omega⟩ ⟨by omega, by omega⟩ (by omega)) (fun v26 hv26 => ?_)
            have b_31 : -2147483648 ≤ v22 ∧ v22 ≤ 2147483647 := hv22
            refine wp_ite (fun c_30 => ?_) (fun c_30 => ?_)
            · skip
              exact wp_ret ⟨iM20, kM20, by omega⟩
            · skip
              have b_33 : -2147483648 ≤ v26 ∧ v26 ≤ 2147483647 := hv26
              refine wp_ite (fun c_32 => ?_) (fun c_32 => ?_)
              · skip
                refine wp_ite (fun c_34 => ?_) (fun c_34 => ?_)
                · skip
                  refine wp_bp (s_fX12_truth M20 iM20 0 (jm_inL (by decide) (by decide)) ) (fun v32 hv32 => ?_)
                  exact wp_ret ⟨iM20, kM20, by omega⟩
                · skip
                  refine wp_bp (s_fX12_truth M20 iM20 1 (jm_inL (by decide) (by decide)) ) (fun v35 hv35 => ?_)
                  exact wp_ret ⟨iM20, kM20, by omega⟩
              · skip
                exact wp_ret ⟨iM20, kM20, by omega⟩
set_option maxHeartbeats 4000000 in
set_option maxRecDepth 100000 in
theorem s_fX12_at (fu : Nat) (hfu : 4000 ≤ fu) (M : jm_M) (iM : bI bx2 M) (l1 l2 l3 : Int) (hl1 : jm_in l1) (hl2 : jm_in l2) (hl3 : jm_in l3) (wM : WF M) : wp (fX12_at fu M l1 l2 l3) (fun r M1 => bI bx2 M1 ∧ Kp TA2 M M1 ∧ (jm_in r)) := by
  have kM : Kp TA2 M M := Kp.rf
  unfold fX12_at
  refine wp_sk iM (jm_inL (by decide) (by decide)) kM (by unfold TA2; omega) (fun M1 u_1 iM1 kM1 => ?_)
  refine wp_bp (s_fX12_isCar M1 iM1 l1 hl1 ) (fun v2 hv2 => ?_)
  have b_2 : -2147483648 ≤ l1 ∧ l1 ≤ 2147483647 := hl1
  have q_3 : (M1 0 0 17) = (M 0 0 17) := by rw [u_1]; exact jm_une_k (by decide)
  have b_4 : 0 ≤ (M 0 0 17) ∧ (M 0 0 17) ≤ 6 := iM 0 0 17
  refine wp_ite (fun c_5 => ?_) (fun c_5 => ?_)
  · skip
    exact wp_ret ⟨iM1, kM1, (jm_inL (by decide) (by decide))⟩
  · skip
    refine wp_bp (s_fX12_isLap M1 iM1 l2 hl2 ) (fun v6 hv6 => ?_)
    have b_6 : -2147483648 ≤ l2 ∧ l2 ≤ 2147483647 := hl2
    have q_7 : (M1 0 0 2) = (M 0 0 2) := by rw [u_1]; exact jm_une_k (by decide)
    have b_8 : 1 ≤ (M 0 0 2) ∧ (M 0 0 2) ≤ 12 := iM 0 0 2
    refine wp_ite (fun c_9 => ?_) (fun c_9 => ?_)
    · skip
      exact wp_ret ⟨iM1, kM1, (jm_inL (by decide) (by decide))⟩
    · skip
      refine wp_bp (s_fX12_isSector M1 iM1 l3 hl3 ) (fun v10 hv10 => ?_)
      have b_10 : -2147483648 ≤ l3 ∧ l3 ≤ 2147483647 := hl3
      have q_11 : (M1 0 0 1) = (M 0 0 1) := by rw [u_1]; exact jm_une_k (by decide)
      have b_12 : 2 ≤ (M 0 0 1) ∧ (M 0 0 1) ≤ 5 := iM 0 0 1
      refine wp_ite (fun c_13 => ?_) (fun c_13 => ?_)
      · skip
        exact wp_ret ⟨iM1, kM1, (jm_inL (by decide) (by decide))⟩
      · skip
        refine wp_bk (s_fX12_runs fu hfu M1 iM1   (WF.kp kM1 wM wf_TA2) ) (fun v14 M15 iM15 jM15 hv14 => ?_)
        have kM15 := kM1.tr jM15 (fun _ _ _ h => h)
        have q_14 : (M15 0 0 1) = (M1 0 0 1) := jM15 0 0 1 (by unfold TA2; omega)
        have r_15 : ((M15 0 0 1) * l2) = ((M 0 0 1) * l2) := by rw [show (M15 0 0 1) = (M 0 0 1) by omega]
        have r_16 : (jm_w ((M15 0 0 1) * l2)) = (jm_w ((M 0 0 1) * l2)) := congrArg jm_w (by omega)
        have r_17 : (jm_w ((jm_w (60 * l1)) + (jm_w ((M15 0 0 1) * l2)))) = (jm_w ((jm_w (60 * l1)) + (jm_w ((M 0 0 1) * l2)))) := congrArg jm_w (by omega)
        have r_18 : (jm_w ((jm_w ((jm_w (60 * l1)) + (jm_w ((M15 0 0 1) * l2)))) + l3)) = (jm_w ((jm_w ((jm_w (60 * l1)) + (jm_w ((M 0 0 1) * l2)))) + l3)) := congrArg jm_w (by omega)
        have w_19 : (jm_w (60 * l1)) = (60 * l1) := jm_wid (by omega) (by omega)
        have p_20 : 0 ≤ ((M 0 0 1) * l2) ∧ ((M 0 0 1) * l2) ≤ 55 := jm_mulb (A := 5) (B := 11) (by omega) (by omega) (by omega) (by omega) (by decide)
        have w_21 : (jm_w ((M 0 0 1) * l2)) = ((M 0 0 1) * l2) := jm_wid (by omega) (by omega)
        have w_22 : (jm_w ((jm_w (60 * l1)) + (jm_w ((M 0 0 1) * l2)))) = ((jm_w (60 * l1)) + (jm_w ((M 0 0 1) * l2))) := jm_wid (by omega) (by omega)
        have w_23 : (jm_w ((jm_w ((jm_w (60 * l1)) + (jm_w ((M 0 0 1) * l2)))) + l3)) = ((jm_w ((jm_w (60 * l1)) + (jm_w ((M 0 0 1) * l2)))) + l3) := jm_wid (by omega) (by omega)
        refine wp_T ⟨by omega, by omega⟩ ?_
        have r_24 : (M15 55 0 (jm_w ((jm_w ((jm_w (60 * l1)) + (jm_w ((M15 0 0 1) * l2)))) + l3))) = (M15 55 0 (jm_w ((jm_w ((jm_w (60 * l1)) + (jm_w ((M 0 0 1) * l2)))) + l3))) := by rw [show (jm_w ((jm_w ((jm_w (60 * l1)) + (jm_w ((M15 0 0 1) * l2)))) + l3)) = (jm_w ((jm_w ((jm_w (60 * l1)) + (jm_w ((M 0 0 1) * l2)))) + l3)) by omega]
        have b_25 : (-2147483648) ≤ (M15 55 0 (jm_w ((jm_w ((jm_w (60 * l1)) + (jm_w ((M 0 0 1) * l2)))) + l3))) ∧ (M15 55 0 (jm_w ((jm_w ((jm_w (60 * l1)) + (jm_w ((M 0 0 1) * l2)))) + l3))) ≤ 2147483647 := iM15 55 0 (jm_w ((jm_w ((jm_w (60 * l1)) + (jm_w ((M 0 0 1) * l2)))) + l3))
        exact wp_ret ⟨iM15, kM15, (bx2_in (iM15 55 0 (jm_w ((jm_w ((jm_w (60 * l1)) + (jm_w ((M15 0 0 1) * l2)))) + l3))))⟩
set_option maxHeartbeats 4000000 in
set_option maxRecDepth 100000 in
theorem s_fX12_isDay (M : jm_M) (iM : bI bx2 M) (l0 : Int) (hl0 : jm_in l0) : wp (fX12_isDay M l0) (fun r M1 => M1 = M ∧ ((r = 1 ∧ 0 ≤ l0 ∧ l0 ≤ 99) ∨ (r = 0 ∧ ¬ (0 ≤ l0 ∧ l0 ≤ 99)))) := by
  unfold fX12_isDay
  refine wp_bp (s_fX12_in M iM l0 0 99 hl0 ⟨by omega, by omega⟩ ⟨by omega, by omega⟩ ) (fun v1 hv1 => ?_)
  have b_1 : -2147483648 ≤ l0 ∧ l0 ≤ 2147483647 := hl0
  refine wp_T (by omega) ?_
  exact wp_ret ⟨rfl, by omega⟩
set_option maxHeartbeats 4000000 in
set_option maxRecDepth 100000 in
theorem s_fX12_isAsked (M : jm_M) (iM : bI bx2 M) (l1 l2 l3 : Int) (hl1 : jm_in l1) (hl2 : jm_in l2) (hl3 : jm_in l3) : wp (fX12_isAsked M l1 l2 l3) (fun r M1 => M1 = M ∧ ((r = 1 ∧ 0 ≤ l1 ∧ l1 < (M 0 0 17) ∧ 0 ≤ l2 ∧ l2 ≤ 2 ∧ 0 ≤ l3 ∧ l3 ≤ 99) ∨ (r = 0 ∧ ¬ (0 ≤ l1 ∧ l1 < (M 0 0 17) ∧ 0 ≤ l2 ∧ l2 ≤ 2 ∧ 0 ≤ l3 ∧ l3 ≤ 99)))) := by
  unfold fX12_isAsked
  refine wp_bp (s_fX12_isCar M iM l1 hl1 ) (fun v1 hv1 => ?_)
  have b_1 : -2147483648 ≤ l1 ∧ l1 ≤ 2147483647 := hl1
  have b_2 : 0 ≤ (M 0 0 17) ∧ (M 0 0 17) ≤ 6 := iM 0 0 17
  refine wp_ite (fun c_3 => ?_) (fun c_3 => ?_)
  · skip
    exact wp_ret ⟨rfl, by omega⟩
  · skip
    refine wp_bp (s_fX12_in M iM l2 0 2 hl2 ⟨by omega, by omega⟩ ⟨by omega, by omega⟩ ) (fun v5 hv5 => ?_)
    have b_4 : -2147483648 ≤ l2 ∧ l2 ≤ 2147483647 := hl2
    refine wp_ite (fun c_5 => ?_) (fun c_5 => ?_)
    · skip
      exact wp_ret ⟨rfl, by omega⟩
    · skip
      refine wp_bp (s_fX12_isDay M iM l3 hl3 ) (fun v9 hv9 => ?_)
      have b_6 : -2147483648 ≤ l3 ∧ l3 ≤ 2147483647 := hl3
      refine wp_ite (fun c_7 => ?_) (fun c_7 => ?_)
      · skip
        exact wp_ret ⟨rfl, by omega⟩
      · skip
        exact wp_ret ⟨rfl, by omega⟩
set_option maxHeartbeats 4000000 in
set_option maxRecDepth 100000 in
theorem s_gX12_clears_4 (fu : Nat) (hfu : 4000 ≤ fu) (M0 : jm_M) (k4 : jm_M → Int → Int → jm_R) (N4 : Int) (hk4 : ∀ (l1 l2 : Int) (M : jm_M) (iM : bI bx2 M) (kM : Kp (TK2 l1) M0 M) (hl1 : 0 ≤ l1 ∧ l1 ≤ 5) (hl2 : 0 ≤ l2 ∧ l2 ≤ 30) (z0 : M 26 0 l1 = M0 26 0 l1), 31 - l2 < N4 → wp (k4 M l1 l2) (fun r M1 => bI bx2 M1 ∧ Kp (TK2 l1) M0 M1 ∧ (0 ≤ r ∧ r ≤ 0 ∧ (M1 73 0 l1 = M0 26 0 l1)))) : ∀ (l1 l2 : Int) (M : jm_M) (iM : bI bx2 M) (kM : Kp (TK2 l1) M0 M) (hl1 : 0 ≤ l1 ∧ l1 ≤ 5) (hl2 : 0 ≤ l2 ∧ l2 ≤ 30) (z0 : M 26 0 l1 = M0 26 0 l1), 31 - l2 < N4 + 1 → wp (gX12_clears_4 fu k4 M l1 l2) (fun r M1 => bI bx2 M1 ∧ Kp (TK2 l1) M0 M1 ∧ (0 ≤ r ∧ r ≤ 0 ∧ (M1 73 0 l1 = M0 26 0 l1))) := by
  intro l1 l2 M iM kM hl1 hl2 z0 m4
  unfold gX12_clears_4
  have w_2 : (jm_w (5 * l1)) = (5 * l1) := jm_wid (by omega) (by omega)
  have w_3 : (jm_w ((jm_w (5 * l1)) + 5)) = ((jm_w (5 * l1)) + 5) := jm_wid (by omega) (by omega)
  refine wp_ite (fun c_1 => ?_) (fun c_1 => ?_)
  · skip
    refine wp_T ⟨by omega, by omega⟩ ?_
    refine wp_T ⟨by omega, by omega⟩ ?_
    have b_4 : 0 ≤ (M 26 0 l1) ∧ (M 26 0 l1) ≤ 5 := iM 26 0 l1
    refine wp_sk iM (show 0 ≤ (M 26 0 l1) ∧ (M 26 0 l1) ≤ 5 by omega) kM (by unfold TK2; omega) (fun M5 u_5 iM5 kM5 => ?_)
    refine wp_T ⟨by omega, by omega⟩ ?_
    refine wp_sk iM5 (show 0 ≤ 0 ∧ 0 ≤ 5 by omega) kM5 (by unfold TK2; omega) (fun M7 u_6 iM7 kM7 => ?_)
    refine wp_T ⟨by omega, by omega⟩ ?_
    refine wp_T (by omega) ?_
    refine wp_sk iM7 (show 0 ≤ 1 ∧ 1 ≤ 1 by omega) kM7 (by unfold TK2; omega) (fun M9 u_7 iM9 kM9 => ?_)
    have q_8 : (M9 73 0 l1) = (M7 73 0 l1) := by rw [u_7]; exact jm_une_f (by decide)
    have q_9 : (M7 73 0 l1) = (M5 73 0 l1) := by rw [u_6]; exact jm_une_f (by decide)
    have q_10 : (M5 73 0 l1) = (M 26 0 l1) := by rw [u_5]; exact jm_ueq
    have q_11 : (M9 26 0 l1) = (M7 26 0 l1) := by rw [u_7]; exact jm_une_f (by decide)
    have q_12 : (M7 26 0 l1) = 0 := by rw [u_6]; exact jm_ueq
    exact wp_ret ⟨iM9, kM9, by omega, by omega, by omega⟩
  · skip
    refine wp_T ⟨by omega, by omega⟩ ?_
    refine wp_T ⟨by omega, by omega⟩ ?_
    refine wp_sk iM (iM 27 0 l2) kM (by unfold TK2; omega) (fun M14 u_13 iM14 kM14 => ?_)
    refine wp_T ⟨by omega, by omega⟩ ?_
    refine wp_T ⟨by omega, by omega⟩ ?_
    have q_14 : (M14 28 0 l2) = (M 28 0 l2) := by rw [u_13]; exact jm_une_f (by decide)
    refine wp_sk iM14 (bx2_in (iM14 28 0 l2)) kM14 (by unfold TK2; omega) (fun M18 u_15 iM18 kM18 => ?_)
    refine wp_T ⟨by omega, by omega⟩ ?_
    refine wp_T ⟨by omega, by omega⟩ ?_
    have q_16 : (M18 29 0 l2) = (M14 29 0 l2) := by rw [u_15]; exact jm_une_f (by decide)
    have q_17 : (M14 29 0 l2) = (M 29 0 l2) := by rw [u_13]; exact jm_une_f (by decide)
    refine wp_sk iM18 (bx2_in (iM18 29 0 l2)) kM18 (by unfold TK2; omega) (fun M22 u_18 iM22 kM22 => ?_)
    have w_19 : (jm_w (l2 + 1)) = (l2 + 1) := jm_wid (by omega) (by omega)
    refine wp_e (by exact (jm_w_in _)) (fun v23 e_20 hv23 => ?_)
    have b_21 : -2147483648 ≤ v23 ∧ v23 ≤ 2147483647 := hv23
    have q_22 : (M22 73 0 l1) = (M18 73 0 l1) := by rw [u_18]; exact jm_une_f (by decide)
    have q_23 : (M18 73 0 l1) = (M14 73 0 l1) := by rw [u_15]; exact jm_une_f (by decide)
    have q_24 : (M14 73 0 l1) = (M 73 0 l1) := by rw [u_13]; exact jm_une_f (by decide)
    have b_25 : 0 ≤ (M 73 0 l1) ∧ (M 73 0 l1) ≤ 5 := iM 73 0 l1
    have q_26 : (M22 26 0 l1) = (M18 26 0 l1) := by rw [u_18]; exact jm_une_f (by decide)
    have q_27 : (M18 26 0 l1) = (M14 26 0 l1) := by rw [u_15]; exact jm_une_f (by decide)
    have q_28 : (M14 26 0 l1) = (M 26 0 l1) := by rw [u_13]; exact jm_une_f (by decide)
    have b_29 : 0 ≤ (M 26 0 l1) ∧ (M 26 0 l1) ≤ 5 := iM 26 0 l1
    exact hk4 l1 v23 M22 iM22 kM22 ⟨by omega, by omega⟩ ⟨by omega, by omega⟩ (by omega) (by omega)
set_option maxHeartbeats 4000000 in
set_option maxRecDepth 100000 in
theorem s_fX12_clears_4 (fu : Nat) (hfu : 4000 ≤ fu) (M0 : jm_M) : ∀ (n : Nat) (l1 l2 : Int) (M : jm_M) (iM : bI bx2 M) (kM : Kp (TK2 l1) M0 M) (hl1 : 0 ≤ l1 ∧ l1 ≤ 5) (hl2 : 0 ≤ l2 ∧ l2 ≤ 30) (z0 : M 26 0 l1 = M0 26 0 l1), 31 - l2 < (n : Int) → wp (fX12_clears_4 fu  n M l1 l2) (fun r M1 => bI bx2 M1 ∧ Kp (TK2 l1) M0 M1 ∧ (0 ≤ r ∧ r ≤ 0 ∧ (M1 73 0 l1 = M0 26 0 l1))) := by
  intro n
  induction n with
  | zero => intro l1 l2 M iM kM hl1 hl2 z0 hm; exfalso; omega
  | succ n ih =>
    intro l1 l2 M iM kM hl1 hl2 z0 hm
    exact s_gX12_clears_4 fu hfu M0 (fX12_clears_4 fu  n) (n : Int) ih l1 l2 M iM kM hl1 hl2 z0 (by omega)
set_option maxHeartbeats 4000000 in
set_option maxRecDepth 100000 in
theorem s_fX12_clears (fu : Nat) (hfu : 4000 ≤ fu) (M : jm_M) (iM : bI bx2 M) (l1 : Int) (hl1 : 0 ≤ l1 ∧ l1 ≤ 5) : wp (fX12_clears fu M l1) (fun r M1 => bI bx2 M1 ∧ Kp (TK2 l1) M M1 ∧ (0 ≤ r ∧ r ≤ 0 ∧ (M1 73 0 l1 = M 26 0 l1))) := by
  have kM : Kp (TK2 l1) M M := Kp.rf
  unfold fX12_clears
  have w_1 : (jm_w (5 * l1)) = (5 * l1) := jm_wid (by omega) (by omega)
  refine wp_e (by exact (jm_w_in _)) (fun v1 e_2 hv1 => ?_)
  have b_3 : -2147483648 ≤ v1 ∧ v1 ≤ 2147483647 := hv1
  have b_4 : 0 ≤ (M 73 0 l1) ∧ (M 73 0 l1) ≤ 5 := iM 73 0 l1
  have b_5 : 0 ≤ (M 26 0 l1) ∧ (M 26 0 l1) ≤ 5 := iM 26 0 l1
  exact s_fX12_clears_4 fu hfu M    fu l1 v1 M iM kM ⟨by omega, by omega⟩ ⟨by omega, by omega⟩ (by omega)  (by omega)
set_option maxHeartbeats 4000000 in
set_option maxRecDepth 100000 in
theorem s_gX12_putsBack_4 (fu : Nat) (hfu : 4000 ≤ fu) (M0 : jm_M) (k4 : jm_M → Int → Int → jm_R) (N4 : Int) (hk4 : ∀ (l1 l2 : Int) (M : jm_M) (iM : bI bx2 M) (kM : Kp (TK2 l1) M0 M) (hl1 : 0 ≤ l1 ∧ l1 ≤ 5) (hl2 : 0 ≤ l2 ∧ l2 ≤ 30) (z0 : M 73 0 l1 = M0 73 0 l1), 31 - l2 < N4 → wp (k4 M l1 l2) (fun r M1 => bI bx2 M1 ∧ Kp (TK2 l1) M0 M1 ∧ (0 ≤ r ∧ r ≤ 0 ∧ (M1 26 0 l1 = M0 73 0 l1)))) : ∀ (l1 l2 : Int) (M : jm_M) (iM : bI bx2 M) (kM : Kp (TK2 l1) M0 M) (hl1 : 0 ≤ l1 ∧ l1 ≤ 5) (hl2 : 0 ≤ l2 ∧ l2 ≤ 30) (z0 : M 73 0 l1 = M0 73 0 l1), 31 - l2 < N4 + 1 → wp (gX12_putsBack_4 fu k4 M l1 l2) (fun r M1 => bI bx2 M1 ∧ Kp (TK2 l1) M0 M1 ∧ (0 ≤ r ∧ r ≤ 0 ∧ (M1 26 0 l1 = M0 73 0 l1))) := by
  intro l1 l2 M iM kM hl1 hl2 z0 m4
  unfold gX12_putsBack_4
  have w_2 : (jm_w (5 * l1)) = (5 * l1) := jm_wid (by omega) (by omega)
  have w_3 : (jm_w ((jm_w (5 * l1)) + 5)) = ((jm_w (5 * l1)) + 5) := jm_wid (by omega) (by omega)
  refine wp_ite (fun c_1 => ?_) (fun c_1 => ?_)
  · skip
    refine wp_T ⟨by omega, by omega⟩ ?_
    refine wp_T ⟨by omega, by omega⟩ ?_
    have b_4 : 0 ≤ (M 73 0 l1) ∧ (M 73 0 l1) ≤ 5 := iM 73 0 l1
    refine wp_sk iM (show 0 ≤ (M 73 0 l1) ∧ (M 73 0 l1) ≤ 5 by omega) kM (by unfold TK2; omega) (fun M5 u_5 iM5 kM5 => ?_)
    refine wp_T ⟨by omega, by omega⟩ ?_
    refine wp_T (by omega) ?_
    refine wp_sk iM5 (show 0 ≤ 0 ∧ 0 ≤ 1 by omega) kM5 (by unfold TK2; omega) (fun M7 u_6 iM7 kM7 => ?_)
    have q_7 : (M7 26 0 l1) = (M5 26 0 l1) := by rw [u_6]; exact jm_une_f (by decide)
    have q_8 : (M5 26 0 l1) = (M 73 0 l1) := by rw [u_5]; exact jm_ueq
    have q_9 : (M7 73 0 l1) = (M5 73 0 l1) := by rw [u_6]; exact jm_une_f (by decide)
    have q_10 : (M5 73 0 l1) = (M 73 0 l1) := by rw [u_5]; exact jm_une_f (by decide)
    exact wp_ret ⟨iM7, kM7, by omega, by omega, by omega⟩
  · skip
    refine wp_T ⟨by omega, by omega⟩ ?_
    refine wp_T ⟨by omega, by omega⟩ ?_
    refine wp_sk iM (iM 70 0 l2) kM (by unfold TK2; omega) (fun M12 u_11 iM12 kM12 => ?_)
    refine wp_T ⟨by omega, by omega⟩ ?_
    refine wp_T ⟨by omega, by omega⟩ ?_
    have q_12 : (M12 71 0 l2) = (M 71 0 l2) := by rw [u_11]; exact jm_une_f (by decide)
    refine wp_sk iM12 (bx2_in (iM12 71 0 l2)) kM12 (by unfold TK2; omega) (fun M16 u_13 iM16 kM16 => ?_)
    refine wp_T ⟨by omega, by omega⟩ ?_
    refine wp_T ⟨by omega, by omega⟩ ?_
    have q_14 : (M16 72 0 l2) = (M12 72 0 l2) := by rw [u_13]; exact jm_une_f (by decide)
    have q_15 : (M12 72 0 l2) = (M 72 0 l2) := by rw [u_11]; exact jm_une_f (by decide)
    refine wp_sk iM16 (bx2_in (iM16 72 0 l2)) kM16 (by unfold TK2; omega) (fun M20 u_16 iM20 kM20 => ?_)
    have w_17 : (jm_w (l2 + 1)) = (l2 + 1) := jm_wid (by omega) (by omega)
    refine wp_e (by exact (jm_w_in _)) (fun v21 e_18 hv21 => ?_)
    have b_19 : -2147483648 ≤ v21 ∧ v21 ≤ 2147483647 := hv21
    have q_20 : (M20 26 0 l1) = (M16 26 0 l1) := by rw [u_16]; exact jm_une_f (by decide)
    have q_21 : (M16 26 0 l1) = (M12 26 0 l1) := by rw [u_13]; exact jm_une_f (by decide)
    have q_22 : (M12 26 0 l1) = (M 26 0 l1) := by rw [u_11]; exact jm_une_f (by decide)
    have b_23 : 0 ≤ (M 26 0 l1) ∧ (M 26 0 l1) ≤ 5 := iM 26 0 l1
    have q_24 : (M20 73 0 l1) = (M16 73 0 l1) := by rw [u_16]; exact jm_une_f (by decide)
    have q_25 : (M16 73 0 l1) = (M12 73 0 l1) := by rw [u_13]; exact jm_une_f (by decide)
    have q_26 : (M12 73 0 l1) = (M 73 0 l1) := by rw [u_11]; exact jm_une_f (by decide)
    have b_27 : 0 ≤ (M 73 0 l1) ∧ (M 73 0 l1) ≤ 5 := iM 73 0 l1
    exact hk4 l1 v21 M20 iM20 kM20 ⟨by omega, by omega⟩ ⟨by omega, by omega⟩ (by omega) (by omega)
set_option maxHeartbeats 4000000 in
set_option maxRecDepth 100000 in
theorem s_fX12_putsBack_4 (fu : Nat) (hfu : 4000 ≤ fu) (M0 : jm_M) : ∀ (n : Nat) (l1 l2 : Int) (M : jm_M) (iM : bI bx2 M) (kM : Kp (TK2 l1) M0 M) (hl1 : 0 ≤ l1 ∧ l1 ≤ 5) (hl2 : 0 ≤ l2 ∧ l2 ≤ 30) (z0 : M 73 0 l1 = M0 73 0 l1), 31 - l2 < (n : Int) → wp (fX12_putsBack_4 fu  n M l1 l2) (fun r M1 => bI bx2 M1 ∧ Kp (TK2 l1) M0 M1 ∧ (0 ≤ r ∧ r ≤ 0 ∧ (M1 26 0 l1 = M0 73 0 l1))) := by
  intro n
  induction n with
  | zero => intro l1 l2 M iM kM hl1 hl2 z0 hm; exfalso; omega
  | succ n ih =>
    intro l1 l2 M iM kM hl1 hl2 z0 hm
    exact s_gX12_putsBack_4 fu hfu M0 (fX12_putsBack_4 fu  n) (n : Int) ih l1 l2 M iM kM hl1 hl2 z0 (by omega)
set_option maxHeartbeats 4000000 in
set_option maxRecDepth 100000 in
theorem s_fX12_putsBack (fu : Nat) (hfu : 4000 ≤ fu) (M : jm_M) (iM : bI bx2 M) (l1 : Int) (hl1 : 0 ≤ l1 ∧ l1 ≤ 5) : wp (fX12_putsBack fu M l1) (fun r M1 => bI bx2 M1 ∧ Kp (TK2 l1) M M1 ∧ (0 ≤ r ∧ r ≤ 0 ∧ (M1 26 0 l1 = M 73 0 l1))) := by
  have kM : Kp (TK2 l1) M M := Kp.rf
  unfold fX12_putsBack
  have w_1 : (jm_w (5 * l1)) = (5 * l1) := jm_wid (by omega) (by omega)
  refine wp_e (by exact (jm_w_in _)) (fun v1 e_2 hv1 => ?_)
  have b_3 : -2147483648 ≤ v1 ∧ v1 ≤ 2147483647 := hv1
  have b_4 : 0 ≤ (M 26 0 l1) ∧ (M 26 0 l1) ≤ 5 := iM 26 0 l1
  have b_5 : 0 ≤ (M 73 0 l1) ∧ (M 73 0 l1) ≤ 5 := iM 73 0 l1
  exact s_fX12_putsBack_4 fu hfu M    fu l1 v1 M iM kM ⟨by omega, by omega⟩ ⟨by omega, by omega⟩ (by omega)  (by omega)
set_option maxHeartbeats 4000000 in
set_option maxRecDepth 100000 in
theorem s_gX12_weight_5 (fu : Nat) (hfu : 4000 ≤ fu) (M : jm_M) (iM : bI bx2 M) (k5 : jm_M → Int → Int → Int → Int → jm_R) (N5 : Int) (hk5 : ∀ (l1 l2 l3 l4 : Int) (hl1 : 0 ≤ l1 ∧ l1 ≤ 5) (hl2 : 0 ≤ l2 ∧ l2 ≤ 99) (hl3 : (-1) ≤ l3 ∧ l3 ≤ 19) (hl4 : 0 ≤ l4 ∧ l4 ≤ 20), 21 - l4 < N5 → wp (k5 M l1 l2 l3 l4) (fun r M1 => M1 = M ∧ (jm_in r))) : ∀ (l1 l2 l3 l4 : Int) (hl1 : 0 ≤ l1 ∧ l1 ≤ 5) (hl2 : 0 ≤ l2 ∧ l2 ≤ 99) (hl3 : (-1) ≤ l3 ∧ l3 ≤ 19) (hl4 : 0 ≤ l4 ∧ l4 ≤ 20), 21 - l4 < N5 + 1 → wp (gX12_weight_5 fu k5 M l1 l2 l3 l4) (fun r M1 => M1 = M ∧ (jm_in r)) := by
  intro l1 l2 l3 l4 hl1 hl2 hl3 hl4 m5
  unfold gX12_weight_5
  have b_2 : 0 ≤ (M 0 0 75) ∧ (M 0 0 75) ≤ 20 := iM 0 0 75
  refine wp_ite (fun c_1 => ?_) (fun c_1 => ?_)
  · skip
    refine wp_ite (fun c_3 => ?_) (fun c_3 => ?_)
    · skip
      refine wp_T ⟨by omega, by omega⟩ ?_
      have b_4 : (-2147483648) ≤ (M 66 0 l3) ∧ (M 66 0 l3) ≤ 2147483647 := iM 66 0 l3
      exact wp_ret ⟨rfl, (iM 66 0 l3)⟩
    · skip
      exact wp_ret ⟨rfl, (jm_inL (by decide) (by decide))⟩
  · skip
    refine wp_T ⟨by omega, by omega⟩ ?_
    have b_6 : (-2147483648) ≤ (M 64 0 l4) ∧ (M 64 0 l4) ≤ 2147483647 := iM 64 0 l4
    refine wp_ite (fun c_5 => ?_) (fun c_5 => ?_)
    · skip
      refine wp_T ⟨by omega, by omega⟩ ?_
      have b_8 : (-2147483648) ≤ (M 65 0 l4) ∧ (M 65 0 l4) ≤ 2147483647 := iM 65 0 l4
      refine wp_ite (fun c_7 => ?_) (fun c_7 => ?_)
      · skip
        refine wp_T ⟨by omega, by omega⟩ ?_
        have b_10 : (-2147483648) ≤ (M 63 0 l4) ∧ (M 63 0 l4) ≤ 2147483647 := iM 63 0 l4
        refine wp_ite (fun c_9 => ?_) (fun c_9 => ?_)
        · skip
          have w_11 : (jm_w (l4 + 1)) = (l4 + 1) := jm_wid (by omega) (by omega)
          refine wp_e (by exact (jm_w_in _)) (fun v15 e_12 hv15 => ?_)
          have b_13 : -2147483648 ≤ v15 ∧ v15 ≤ 2147483647 := hv15
          exact hk5 l1 l2 l3 v15  ⟨by omega, by omega⟩ ⟨by omega, by omega⟩ ⟨by omega, by omega⟩ ⟨by omega, by omega⟩  (by omega)
        · skip
          refine wp_ite (fun c_14 => ?_) (fun c_14 => ?_)
          · skip
            have w_15 : (jm_w (l4 + 1)) = (l4 + 1) := jm_wid (by omega) (by omega)
            refine wp_e (by exact (jm_w_in _)) (fun v18 e_16 hv18 => ?_)
            have b_17 : -2147483648 ≤ v18 ∧ v18 ≤ 2147483647 := hv18
            exact hk5 l1 l2 l4 v18  ⟨by omega, by omega⟩ ⟨by omega, by omega⟩ ⟨by omega, by omega⟩ ⟨by omega, by omega⟩  (by omega)
          · skip
            refine wp_T ⟨by omega, by omega⟩ ?_
            refine wp_T ⟨by omega, by omega⟩ ?_
            have b_19 : (-2147483648) ≤ (M 63 0 l3) ∧ (M 63 0 l3) ≤ 2147483647 := iM 63 0 l3
            refine wp_ite (fun c_18 => ?_) (fun c_18 => ?_)
            · skip
              have w_20 : (jm_w (l4 + 1)) = (l4 + 1) := jm_wid (by omega) (by omega)
              refine wp_e (by exact (jm_w_in _)) (fun v25 e_21 hv25 => ?_)
              have b_22 : -2147483648 ≤ v25 ∧ v25 ≤ 2147483647 := hv25
              exact hk5 l1 l2 l3 v25  ⟨by omega, by omega⟩ ⟨by omega, by omega⟩ ⟨by omega, by omega⟩ ⟨by omega, by omega⟩  (by omega)
            · skip
              have w_23 : (jm_w (l4 + 1)) = (l4 + 1) := jm_wid (by omega) (by omega)
              refine wp_e (by exact (jm_w_in _)) (fun v27 e_24 hv27 => ?_)
              have b_25 : -2147483648 ≤ v27 ∧ v27 ≤ 2147483647 := hv27
              exact hk5 l1 l2 l4 v27  ⟨by omega, by omega⟩ ⟨by omega, by omega⟩ ⟨by omega, by omega⟩ ⟨by omega, by omega⟩  (by omega)
      · skip
        have w_26 : (jm_w (l4 + 1)) = (l4 + 1) := jm_wid (by omega) (by omega)
        refine wp_e (by exact (jm_w_in _)) (fun v29 e_27 hv29 => ?_)
        have b_28 : -2147483648 ≤ v29 ∧ v29 ≤ 2147483647 := hv29
        exact hk5 l1 l2 l3 v29  ⟨by omega, by omega⟩ ⟨by omega, by omega⟩ ⟨by omega, by omega⟩ ⟨by omega, by omega⟩  (by omega)
    · skip
      have w_29 : (jm_w (l4 + 1)) = (l4 + 1) := jm_wid (by omega) (by omega)
      refine wp_e (by exact (jm_w_in _)) (fun v31 e_30 hv31 => ?_)
      have b_31 : -2147483648 ≤ v31 ∧ v31 ≤ 2147483647 := hv31
      exact hk5 l1 l2 l3 v31  ⟨by omega, by omega⟩ ⟨by omega, by omega⟩ ⟨by omega, by omega⟩ ⟨by omega, by omega⟩  (by omega)
set_option maxHeartbeats 4000000 in
set_option maxRecDepth 100000 in
theorem s_fX12_weight_5 (fu : Nat) (hfu : 4000 ≤ fu) (M : jm_M) (iM : bI bx2 M) : ∀ (n : Nat) (l1 l2 l3 l4 : Int) (hl1 : 0 ≤ l1 ∧ l1 ≤ 5) (hl2 : 0 ≤ l2 ∧ l2 ≤ 99) (hl3 : (-1) ≤ l3 ∧ l3 ≤ 19) (hl4 : 0 ≤ l4 ∧ l4 ≤ 20), 21 - l4 < (n : Int) → wp (fX12_weight_5 fu  n M l1 l2 l3 l4) (fun r M1 => M1 = M ∧ (jm_in r)) := by
  intro n
  induction n with
  | zero => intro l1 l2 l3 l4 hl1 hl2 hl3 hl4 hm; exfalso; omega
  | succ n ih =>
    intro l1 l2 l3 l4 hl1 hl2 hl3 hl4 hm
    exact s_gX12_weight_5 fu hfu M iM (fX12_weight_5 fu  n) (n : Int) ih l1 l2 l3 l4 hl1 hl2 hl3 hl4 (by omega)
set_option maxHeartbeats 4000000 in
set_option maxRecDepth 100000 in
theorem s_fX12_weight (fu : Nat) (hfu : 4000 ≤ fu) (M : jm_M) (iM : bI bx2 M) (l1 l2 : Int) (hl1 : 0 ≤ l1 ∧ l1 ≤ 5) (hl2 : 0 ≤ l2 ∧ l2 ≤ 99) : wp (fX12_weight fu M l1 l2) (fun r M1 => M1 = M ∧ (jm_in r)) := by
  unfold fX12_weight
  exact s_fX12_weight_5 fu hfu M iM    fu l1 l2 (-1) 0  ⟨by omega, by omega⟩ ⟨by omega, by omega⟩ ⟨by omega, by omega⟩ ⟨by omega, by omega⟩   (by omega)
/-! the rules' seconds -/
theorem s_secondsOf_136 (fu : Nat) (hfu : 4000 ≤ fu) (M0 : jm_M) (w0 : WF M0) (l2 : Int) : ∀ (n : Nat) (M : jm_M) (l3 l4 : Int), bI bx2 M → Kp TA2 M0 M → jm_in l3 → 0 ≤ l4 → l4 ≤ 10 → 10 - l4 < (n : Int) → wp (fX12_secondsOf_136 fu n M l2 l3 l4) (fun r M1 => bI bx2 M1 ∧ Kp TA2 M0 M1 ∧ (jm_in r)) := by
  intro n
  induction n with
  | zero => intro M l3 l4 _ _ _ _ _ hm; exfalso; omega
  | succ n ih =>
    intro M l3 l4 iM kM h3 h0 h1 hm
    show wp (gX12_secondsOf_136 fu (fX12_secondsOf_136 fu n) M l2 l3 l4) _
    unfold gX12_secondsOf_136
    have b72 : 0 ≤ M 0 0 72 ∧ M 0 0 72 ≤ 10 := iM 0 0 72
    have e72 : M 0 0 72 = M0 0 0 72 := kM 0 0 72 (by unfold TA2; omega)
    refine wp_ite (fun c => wp_ret ⟨iM, kM, h3⟩) (fun c => ?_)
    have w6 : jm_w (6 + l4) = 6 + l4 := jm_wid (by omega) (by omega)
    have w1 : jm_w (l4 + 1) = l4 + 1 := jm_wid (by omega) (by omega)
    have w3 : jm_w (100 * jm_w (6 + l4)) = 100 * jm_w (6 + l4) := jm_wid (by omega) (by omega)
    refine wp_e (jm_w_in _) (fun v3 e3 _ => ?_)
    refine wp_T ⟨by omega, by omega⟩ ?_
    have K : ∀ (M' : jm_M) (v : Int), bI bx2 M' → Kp TA2 M0 M' → jm_in v → wp (fX12_secondsOf_136 fu n M' l2 v (jm_w (l4 + 1))) (fun r M1 => bI bx2 M1 ∧ Kp TA2 M0 M1 ∧ (jm_in r)) := by
      intro M' v i' k' b'
      rw [w1]
      exact ih M' v (l4 + 1) i' k' b' (by omega) (by omega) (by omega)
    refine wp_ite (fun c2 => ?_) (fun c2 => ?_)
    · refine wp_e (jm_w_in _) (fun v8 e8 _ => ?_)
      rw [e8]
      exact K M l3 iM kM h3
    · refine wp_T ⟨by omega, by omega⟩ ?_
      have b36 : 0 ≤ M 36 0 (6 + l4) ∧ M 36 0 (6 + l4) ≤ 100 := iM 36 0 (6 + l4)
      have ev3 : v3 = 100 * (6 + l4) := by omega
      have wv : jm_w (v3 + (M 36 0 (jm_w (6 + l4)))) = 100 * (6 + l4) + M 36 0 (6 + l4) := by rw [w6, ev3]; exact jm_wid (by omega) (by omega)
      have wM := w0.kp kM wf_TA2
      have hh := wM.1 l4 h0 (by omega)
      rw [wv, ev3]
      refine wp_bk (s_fX12_gives fu hfu M iM (100 * (6 + l4)) (100 * (6 + l4) + M 36 0 (6 + l4)) (100 * (6 + l4) + M 36 0 (6 + l4)) ⟨by omega, by omega⟩ ⟨by omega, by omega, by omega⟩ (by rw [show (100 * (6 + l4) + M 36 0 (6 + l4) - 100 * (6 + l4)) = M 36 0 (6 + l4) by omega]; exact hh) (Or.inl rfl)) (fun v12 M13 i13 j13 h12 => ?_)
      have k13 := kM.tr j13 tt_TA2_TH2
      refine wp_ite (fun c3 => ?_) (fun c3 => ?_)
      · refine wp_e (jm_w_in _) (fun v16 e16 _ => ?_)
        rw [e16]
        exact K M13 l3 i13 k13 h3
      · refine wp_T ⟨by omega, by omega⟩ ?_
        refine wp_ite (fun c4 => ?_) (fun c4 => ?_)
        · refine wp_T ⟨by omega, by omega⟩ ?_
          refine wp_e (jm_w_in _) (fun v23 e23 b23 => ?_)
          refine wp_e (jm_w_in _) (fun v25 e25 _ => ?_)
          rw [e25]
          exact K M13 v23 i13 k13 b23
        · exact wp_ret ⟨i13, k13, jm_inL (by decide) (by decide)⟩
theorem s_fX12_secondsOf (fu : Nat) (hfu : 4000 ≤ fu) (M : jm_M) (iM : bI bx2 M) (l1 l2 : Int) (hl1 : 0 ≤ l1 ∧ l1 ≤ 5) (hl2 : 0 ≤ l2 ∧ l2 ≤ 99) (wM : WF M) : wp (fX12_secondsOf fu M l1 l2) (fun r M1 => bI bx2 M1 ∧ Kp TA2 M M1 ∧ (jm_in r)) := by
  have kM : Kp TA2 M M := Kp.rf
  have k101 : ∀ (M' : jm_M) (s0 : Int), jm_in s0 → bI bx2 M' → Kp TA2 M M' → wp (gX12_secondsOf_101 fu M' l1 l2 s0 6) (fun r M1 => bI bx2 M1 ∧ Kp TA2 M M1 ∧ (jm_in r)) := by
    intro M' s0 b0 i' k'
    unfold gX12_secondsOf_101
    refine wp_bp (s_fX12_truth M' i' s0 b0) (fun v1 h1 => ?_)
    refine wp_T ⟨by omega, by omega⟩ ?_
    refine wp_sk i' (jm_inL (by omega) (by omega)) k' (by unfold TA2; omega) (fun M5 u5 i5 k5 => ?_)
    refine wp_T ⟨by omega, by omega⟩ ?_
    refine wp_T ⟨by omega, by omega⟩ ?_
    refine wp_sk i5 (i5 44 0 l1) k5 (by unfold TA2; omega) (fun M9 u9 i9 k9 => ?_)
    refine wp_T ⟨by omega, by omega⟩ ?_
    refine wp_T ⟨by omega, by omega⟩ ?_
    refine wp_sk i9 (bx2_in (i9 16 0 l1)) k9 (by unfold TA2; omega) (fun M13 u13 i13 k13 => ?_)
    exact s_secondsOf_136 fu hfu M wM l2 fu M13 0 0 i13 k13 (jm_inL (by decide) (by decide)) (by omega) (by omega) (by omega)
  unfold fX12_secondsOf
  refine wp_T ⟨by omega, by omega⟩ ?_
  refine wp_T ⟨by omega, by omega⟩ ?_
  refine wp_sk iM (bx2_in (iM 49 0 l1)) kM (by unfold TA2; omega) (fun M4 u4 i4 k4 => ?_)
  refine wp_T ⟨by omega, by omega⟩ ?_
  refine wp_bp (s_fJ6_bitCount_0f7a4_w2 M4 i4 _ (bx2_in (i4 50 0 l1))) (fun v7 h7 => ?_)
  refine wp_T ⟨by omega, by omega⟩ ?_
  refine wp_sk i4 h7 k4 (by unfold TA2; omega) (fun M11 u11 i11 k11 => ?_)
  refine wp_T ⟨by omega, by omega⟩ ?_
  refine wp_T ⟨by omega, by omega⟩ ?_
  refine wp_sk i11 (bx2_in (i11 51 0 l1)) k11 (by unfold TA2; omega) (fun M15 u15 i15 k15 => ?_)
  refine wp_T ⟨by omega, by omega⟩ ?_
  have b1 : 2 ≤ M15 0 0 1 ∧ M15 0 0 1 ≤ 5 := i15 0 0 1
  refine wp_T (by omega) ?_
  refine wp_T ⟨by omega, by omega⟩ ?_
  refine wp_sk i15 (jm_div_in _ _) k15 (by unfold TA2; omega) (fun M21 u21 i21 k21 => ?_)
  refine wp_bp (s_fX12_weight fu hfu M21 i21 l1 l2 hl1 hl2) (fun v22 h22 => ?_)
  refine wp_T ⟨by omega, by omega⟩ ?_
  refine wp_sk i21 h22 k21 (by unfold TA2; omega) (fun M26 u26 i26 k26 => ?_)
  refine wp_T ⟨by omega, by omega⟩ ?_
  refine wp_T ⟨by omega, by omega⟩ ?_
  refine wp_sk i26 (bx2_in (i26 17 0 l1)) k26 (by unfold TA2; omega) (fun M30 u30 i30 k30 => ?_)
  refine wp_T ⟨by omega, by omega⟩ ?_
  exact wp_ite (fun _ => k101 M30 1 (jm_inL (by decide) (by decide)) i30 k30) (fun _ => k101 M30 0 (jm_inL (by decide) (by decide)) i30 k30)
set_option maxHeartbeats 4000000 in
set_option maxRecDepth 100000 in
theorem s_gX12_timeFound_5 (fu : Nat) (hfu : 4000 ≤ fu) (M : jm_M) (iM : bI bx2 M) (k5 : jm_M → Int → Int → Int → Int → jm_R) (N5 : Int) (hk5 : ∀ (l1 l2 l3 l4 : Int) (hl1 : 0 ≤ l1 ∧ l1 ≤ 5) (hl2 : 0 ≤ l2 ∧ l2 ≤ 99) (hl3 : jm_in l3) (hl4 : 0 ≤ l4 ∧ l4 ≤ 20), 21 - l4 < N5 → wp (k5 M l1 l2 l3 l4) (fun r M1 => M1 = M ∧ (jm_in r))) : ∀ (l1 l2 l3 l4 : Int) (hl1 : 0 ≤ l1 ∧ l1 ≤ 5) (hl2 : 0 ≤ l2 ∧ l2 ≤ 99) (hl3 : jm_in l3) (hl4 : 0 ≤ l4 ∧ l4 ≤ 20), 21 - l4 < N5 + 1 → wp (gX12_timeFound_5 fu k5 M l1 l2 l3 l4) (fun r M1 => M1 = M ∧ (jm_in r)) := by
  intro l1 l2 l3 l4 hl1 hl2 hl3 hl4 m5
  unfold gX12_timeFound_5
  have b_2 : 0 ≤ (M 0 0 75) ∧ (M 0 0 75) ≤ 20 := iM 0 0 75
  refine wp_ite (fun c_1 => ?_) (fun c_1 => ?_)
  · skip
    have b_3 : -2147483648 ≤ l3 ∧ l3 ≤ 2147483647 := hl3
    exact wp_ret ⟨rfl, hl3⟩
  · skip
    refine wp_T ⟨by omega, by omega⟩ ?_
    have b_5 : (-2147483648) ≤ (M 64 0 l4) ∧ (M 64 0 l4) ≤ 2147483647 := iM 64 0 l4
    refine wp_ite (fun c_4 => ?_) (fun c_4 => ?_)
    · skip
      refine wp_T ⟨by omega, by omega⟩ ?_
      have b_7 : (-2147483648) ≤ (M 65 0 l4) ∧ (M 65 0 l4) ≤ 2147483647 := iM 65 0 l4
      refine wp_ite (fun c_6 => ?_) (fun c_6 => ?_)
      · skip
        refine wp_T ⟨by omega, by omega⟩ ?_
        have b_9 : (-2147483648) ≤ (M 63 0 l4) ∧ (M 63 0 l4) ≤ 2147483647 := iM 63 0 l4
        refine wp_ite (fun c_8 => ?_) (fun c_8 => ?_)
        · skip
          have b_10 : -2147483648 ≤ l3 ∧ l3 ≤ 2147483647 := hl3
          have w_11 : (jm_w (l3 + 0)) = (l3 + 0) := jm_wid (by omega) (by omega)
          refine wp_e (by exact (jm_w_in _)) (fun v12 e_12 hv12 => ?_)
          have w_13 : (jm_w (l4 + 1)) = (l4 + 1) := jm_wid (by omega) (by omega)
          refine wp_e (by exact (jm_w_in _)) (fun v14 e_14 hv14 => ?_)
          have b_15 : -2147483648 ≤ v14 ∧ v14 ≤ 2147483647 := hv14
          have b_16 : -2147483648 ≤ v12 ∧ v12 ≤ 2147483647 := hv12
          exact hk5 l1 l2 v12 v14  ⟨by omega, by omega⟩ ⟨by omega, by omega⟩ hv12 ⟨by omega, by omega⟩  (by omega)
        · skip
          refine wp_T ⟨by omega, by omega⟩ ?_
          have b_17 : -2147483648 ≤ l3 ∧ l3 ≤ 2147483647 := hl3
          have b_18 : (-2147483648) ≤ (M 66 0 l4) ∧ (M 66 0 l4) ≤ 2147483647 := iM 66 0 l4
          have w_19 : -2147483648 ≤ (jm_w (l3 + (M 66 0 l4))) ∧ (jm_w (l3 + (M 66 0 l4))) ≤ 2147483647 := jm_w_in _
          refine wp_e (by exact (jm_w_in _)) (fun v18 e_20 hv18 => ?_)
          have w_21 : (jm_w (l4 + 1)) = (l4 + 1) := jm_wid (by omega) (by omega)
          refine wp_e (by exact (jm_w_in _)) (fun v20 e_22 hv20 => ?_)
          have b_23 : -2147483648 ≤ v20 ∧ v20 ≤ 2147483647 := hv20
          have b_24 : -2147483648 ≤ v18 ∧ v18 ≤ 2147483647 := hv18
          exact hk5 l1 l2 v18 v20  ⟨by omega, by omega⟩ ⟨by omega, by omega⟩ hv18 ⟨by omega, by omega⟩  (by omega)
      · skip
        have b_25 : -2147483648 ≤ l3 ∧ l3 ≤ 2147483647 := hl3
        have w_26 : (jm_w (l3 + 0)) = (l3 + 0) := jm_wid (by omega) (by omega)
        refine wp_e (by exact (jm_w_in _)) (fun v22 e_27 hv22 => ?_)
        have w_28 : (jm_w (l4 + 1)) = (l4 + 1) := jm_wid (by omega) (by omega)
        refine wp_e (by exact (jm_w_in _)) (fun v24 e_29 hv24 => ?_)
        have b_30 : -2147483648 ≤ v24 ∧ v24 ≤ 2147483647 := hv24
        have b_31 : -2147483648 ≤ v22 ∧ v22 ≤ 2147483647 := hv22
        exact hk5 l1 l2 v22 v24  ⟨by omega, by omega⟩ ⟨by omega, by omega⟩ hv22 ⟨by omega, by omega⟩  (by omega)
    · skip
      have b_32 : -2147483648 ≤ l3 ∧ l3 ≤ 2147483647 := hl3
      have w_33 : (jm_w (l3 + 0)) = (l3 + 0) := jm_wid (by omega) (by omega)
      refine wp_e (by exact (jm_w_in _)) (fun v26 e_34 hv26 => ?_)
      have w_35 : (jm_w (l4 + 1)) = (l4 + 1) := jm_wid (by omega) (by omega)
      refine wp_e (by exact (jm_w_in _)) (fun v28 e_36 hv28 => ?_)
      have b_37 : -2147483648 ≤ v28 ∧ v28 ≤ 2147483647 := hv28
      have b_38 : -2147483648 ≤ v26 ∧ v26 ≤ 2147483647 := hv26
      exact hk5 l1 l2 v26 v28  ⟨by omega, by omega⟩ ⟨by omega, by omega⟩ hv26 ⟨by omega, by omega⟩  (by omega)
set_option maxHeartbeats 4000000 in
set_option maxRecDepth 100000 in
theorem s_fX12_timeFound_5 (fu : Nat) (hfu : 4000 ≤ fu) (M : jm_M) (iM : bI bx2 M) : ∀ (n : Nat) (l1 l2 l3 l4 : Int) (hl1 : 0 ≤ l1 ∧ l1 ≤ 5) (hl2 : 0 ≤ l2 ∧ l2 ≤ 99) (hl3 : jm_in l3) (hl4 : 0 ≤ l4 ∧ l4 ≤ 20), 21 - l4 < (n : Int) → wp (fX12_timeFound_5 fu  n M l1 l2 l3 l4) (fun r M1 => M1 = M ∧ (jm_in r)) := by
  intro n
  induction n with
  | zero => intro l1 l2 l3 l4 hl1 hl2 hl3 hl4 hm; exfalso; omega
  | succ n ih =>
    intro l1 l2 l3 l4 hl1 hl2 hl3 hl4 hm
    exact s_gX12_timeFound_5 fu hfu M iM (fX12_timeFound_5 fu  n) (n : Int) ih l1 l2 l3 l4 hl1 hl2 hl3 hl4 (by omega)
set_option maxHeartbeats 4000000 in
set_option maxRecDepth 100000 in
theorem s_fX12_timeFound (fu : Nat) (hfu : 4000 ≤ fu) (M : jm_M) (iM : bI bx2 M) (l1 l2 : Int) (hl1 : 0 ≤ l1 ∧ l1 ≤ 5) (hl2 : 0 ≤ l2 ∧ l2 ≤ 99) : wp (fX12_timeFound fu M l1 l2) (fun r M1 => M1 = M ∧ (jm_in r)) := by
  unfold fX12_timeFound
  exact s_fX12_timeFound_5 fu hfu M iM    fu l1 l2 0 0  ⟨by omega, by omega⟩ ⟨by omega, by omega⟩ (jm_inL (by decide) (by decide)) ⟨by omega, by omega⟩   (by omega)
set_option maxHeartbeats 4000000 in
set_option maxRecDepth 100000 in
theorem s_gX12_judges_47 (fu : Nat) (hfu : 4000 ≤ fu) (M0 : jm_M) (w0 : WF M0) (k6 : jm_M → Int → Int → jm_R) (N6 : Int) (hk6 : ∀ (l1 l2 : Int) (M : jm_M) (iM : bI bx2 M) (kM : Kp TA2 M0 M) (hl1 : 0 ≤ l1 ∧ l1 ≤ 99) (hl2 : 0 ≤ l2 ∧ l2 ≤ 6), 7 - l2 < N6 → wp (k6 M l1 l2) (fun r M1 => bI bx2 M1 ∧ Kp TA2 M0 M1 ∧ (0 ≤ r ∧ r ≤ 0))) : ∀ (l1 l2 l3 s0 s1 : Int) (M : jm_M) (iM : bI bx2 M) (kM : Kp TA2 M0 M) (hl1 : 0 ≤ l1 ∧ l1 ≤ 99) (hl2 : 0 ≤ l2 ∧ l2 ≤ 5) (hl3 : jm_in l3) (hs0 : 0 ≤ s0 ∧ s0 ≤ 1) (hs1 : 0 ≤ s1 ∧ s1 ≤ 5), 7 - l2 < N6 + 1 → wp (gX12_judges_47 fu k6 M l1 l2 l3 s0 s1) (fun r M1 => bI bx2 M1 ∧ Kp TA2 M0 M1 ∧ (0 ≤ r ∧ r ≤ 0)) := by
  intro l1 l2 l3 s0 s1 M iM kM hl1 hl2 hl3 hs0 hs1 m6
  unfold gX12_judges_47
  refine wp_T ⟨by omega, by omega⟩ ?_
  refine wp_T (by omega) ?_
  refine wp_sk iM (show 0 ≤ s0 ∧ s0 ≤ 1 by omega) kM (by unfold TA2; omega) (fun M2 u_1 iM2 kM2 => ?_)
  refine wp_T ⟨by omega, by omega⟩ ?_
  refine wp_bp (s_fX12_timeFound fu hfu M2 iM2 l2 l1 ⟨by omega, by omega⟩ ⟨by omega, by omega⟩ ) (fun v6 hv6 => ?_)
  refine wp_T ⟨by omega, by omega⟩ ?_
  have q_2 : (M2 40 0 l2) = (M 40 0 l2) := by rw [u_1]; exact jm_une_f (by decide)
  have r_3 : (jm_w ((M2 40 0 l2) + (jm_w (1000 * l3)))) = (jm_w ((M 40 0 l2) + (jm_w (1000 * l3)))) := congrArg jm_w (by omega)
  have r_4 : (jm_w ((jm_w ((M2 40 0 l2) + (jm_w (1000 * l3)))) + v6)) = (jm_w ((jm_w ((M 40 0 l2) + (jm_w (1000 * l3)))) + v6)) := congrArg jm_w (by omega)
  refine wp_sk iM2 (jm_w_in _) kM2 (by unfold TA2; omega) (fun M10 u_5 iM10 kM10 => ?_)
  have w_6 : (jm_w (l2 + 1)) = (l2 + 1) := jm_wid (by omega) (by omega)
  refine wp_e (by exact (jm_w_in _)) (fun v11 e_7 hv11 => ?_)
  have b_8 : -2147483648 ≤ v11 ∧ v11 ≤ 2147483647 := hv11
  exact hk6 l1 v11 M10 iM10 kM10 ⟨by omega, by omega⟩ ⟨by omega, by omega⟩  (by omega)
set_option maxHeartbeats 4000000 in
set_option maxRecDepth 100000 in
theorem s_gX12_judges_6 (fu : Nat) (hfu : 4000 ≤ fu) (M0 : jm_M) (w0 : WF M0) (k6 : jm_M → Int → Int → jm_R) (N6 : Int) (hk6 : ∀ (l1 l2 : Int) (M : jm_M) (iM : bI bx2 M) (kM : Kp TA2 M0 M) (hl1 : 0 ≤ l1 ∧ l1 ≤ 99) (hl2 : 0 ≤ l2 ∧ l2 ≤ 6), 7 - l2 < N6 → wp (k6 M l1 l2) (fun r M1 => bI bx2 M1 ∧ Kp TA2 M0 M1 ∧ (0 ≤ r ∧ r ≤ 0))) : ∀ (l1 l2 : Int) (M : jm_M) (iM : bI bx2 M) (kM : Kp TA2 M0 M) (hl1 : 0 ≤ l1 ∧ l1 ≤ 99) (hl2 : 0 ≤ l2 ∧ l2 ≤ 6), 7 - l2 < N6 + 1 → wp (gX12_judges_6 fu k6 M l1 l2) (fun r M1 => bI bx2 M1 ∧ Kp TA2 M0 M1 ∧ (0 ≤ r ∧ r ≤ 0)) := by
  intro l1 l2 M iM kM hl1 hl2 m6
  unfold gX12_judges_6
  have b_2 : 0 ≤ (M 0 0 17) ∧ (M 0 0 17) ≤ 6 := iM 0 0 17
  refine wp_ite (fun c_1 => ?_) (fun c_1 => ?_)
  · skip
    exact wp_ret ⟨iM, kM, by omega⟩
  · skip
    refine wp_bk (s_fX12_secondsOf fu hfu M iM l2 l1 ⟨by omega, by omega⟩ ⟨by omega, by omega⟩ (WF.kp kM w0 wf_TA2) ) (fun v3 M4 iM4 jM4 hv3 => ?_)
    have kM4 := kM.tr jM4 (fun _ _ _ h => h)
    refine wp_T ⟨by omega, by omega⟩ ?_
    have b_4 : (-2147483648) ≤ (M4 39 0 l2) ∧ (M4 39 0 l2) ≤ 2147483647 := iM4 39 0 l2
    refine wp_ite (fun c_3 => ?_) (fun c_3 => ?_)
    · skip
      have b_5 : -2147483648 ≤ v3 ∧ v3 ≤ 2147483647 := hv3
      exact s_gX12_judges_47 fu hfu M0 w0 k6 N6 hk6 l1 l2 v3 0 l2 M4 iM4 kM4 ⟨by omega, by omega⟩ ⟨by omega, by omega⟩ hv3 ⟨by omega, by omega⟩ ⟨by omega, by omega⟩  (by omega)
    · skip
      have b_7 : -2147483648 ≤ v3 ∧ v3 ≤ 2147483647 := hv3
      refine wp_ite (fun c_6 => ?_) (fun c_6 => ?_)
      · skip
        exact s_gX12_judges_47 fu hfu M0 w0 k6 N6 hk6 l1 l2 v3 0 l2 M4 iM4 kM4 ⟨by omega, by omega⟩ ⟨by omega, by omega⟩ hv3 ⟨by omega, by omega⟩ ⟨by omega, by omega⟩  (by omega)
      · skip
        exact s_gX12_judges_47 fu hfu M0 w0 k6 N6 hk6 l1 l2 v3 1 l2 M4 iM4 kM4 ⟨by omega, by omega⟩ ⟨by omega, by omega⟩ hv3 ⟨by omega, by omega⟩ ⟨by omega, by omega⟩  (by omega)
set_option maxHeartbeats 4000000 in
set_option maxRecDepth 100000 in
theorem s_fX12_judges_6 (fu : Nat) (hfu : 4000 ≤ fu) (M0 : jm_M) (w0 : WF M0) : ∀ (n : Nat) (l1 l2 : Int) (M : jm_M) (iM : bI bx2 M) (kM : Kp TA2 M0 M) (hl1 : 0 ≤ l1 ∧ l1 ≤ 99) (hl2 : 0 ≤ l2 ∧ l2 ≤ 6), 7 - l2 < (n : Int) → wp (fX12_judges_6 fu  n M l1 l2) (fun r M1 => bI bx2 M1 ∧ Kp TA2 M0 M1 ∧ (0 ≤ r ∧ r ≤ 0)) := by
  intro n
  induction n with
  | zero => intro l1 l2 M iM kM hl1 hl2 hm; exfalso; omega
  | succ n ih =>
    intro l1 l2 M iM kM hl1 hl2 hm
    exact s_gX12_judges_6 fu hfu M0 w0 (fX12_judges_6 fu  n) (n : Int) ih l1 l2 M iM kM hl1 hl2 (by omega)
set_option maxHeartbeats 4000000 in
set_option maxRecDepth 100000 in
theorem s_fX12_judges (fu : Nat) (hfu : 4000 ≤ fu) (M : jm_M) (iM : bI bx2 M) (l1 : Int) (hl1 : 0 ≤ l1 ∧ l1 ≤ 99) (wM : WF M) : wp (fX12_judges fu M l1) (fun r M1 => bI bx2 M1 ∧ Kp TA2 M M1 ∧ (0 ≤ r ∧ r ≤ 0)) := by
  have kM : Kp TA2 M M := Kp.rf
  unfold fX12_judges
  refine wp_bk (s_fX12_runs fu hfu M iM   (WF.kp kM wM wf_TA2) ) (fun v1 M2 iM2 jM2 hv1 => ?_)
  have kM2 := kM.tr jM2 (fun _ _ _ h => h)
  exact s_fX12_judges_6 fu hfu M wM    fu l1 0 M2 iM2 kM2 ⟨by omega, by omega⟩ ⟨by omega, by omega⟩   (by omega)
set_option maxHeartbeats 4000000 in
set_option maxRecDepth 100000 in
theorem s_fX12_isBetter (M : jm_M) (iM : bI bx2 M) (l1 l2 : Int) (hl1 : 0 ≤ l1 ∧ l1 ≤ 5) (hl2 : 0 ≤ l2 ∧ l2 ≤ 5) : wp (fX12_isBetter M l1 l2) (fun r M1 => M1 = M ∧ (0 ≤ r ∧ r ≤ 1)) := by
  unfold fX12_isBetter
  refine wp_T ⟨by omega, by omega⟩ ?_
  have b_1 : 2 ≤ (M 0 0 1) ∧ (M 0 0 1) ≤ 5 := iM 0 0 1
  refine wp_T (by omega) ?_
  have b_2 : (-2147483648) ≤ (M 43 0 l1) ∧ (M 43 0 l1) ≤ 2147483647 := iM 43 0 l1
  have f_3 : -2147483648 ≤ (jm_div (M 43 0 l1) (M 0 0 1)) ∧ (jm_div (M 43 0 l1) (M 0 0 1)) ≤ 2147483647 := jm_div_in _ _
  refine wp_e (by exact (jm_div_in _ _)) (fun v5 e_4 hv5 => ?_)
  refine wp_T ⟨by omega, by omega⟩ ?_
  refine wp_T (by omega) ?_
  have b_5 : (-2147483648) ≤ (M 43 0 l2) ∧ (M 43 0 l2) ≤ 2147483647 := iM 43 0 l2
  have f_6 : -2147483648 ≤ (jm_div (M 43 0 l2) (M 0 0 1)) ∧ (jm_div (M 43 0 l2) (M 0 0 1)) ≤ 2147483647 := jm_div_in _ _
  refine wp_e (by exact (jm_div_in _ _)) (fun v11 e_7 hv11 => ?_)
  have b_9 : -2147483648 ≤ v5 ∧ v5 ≤ 2147483647 := hv5
  have b_10 : -2147483648 ≤ v11 ∧ v11 ≤ 2147483647 := hv11
  refine wp_ite (fun c_8 => ?_) (fun c_8 => ?_)
  · skip
    refine wp_T ⟨by omega, by omega⟩ ?_
    refine wp_T ⟨by omega, by omega⟩ ?_
    have b_12 : (-2147483648) ≤ (M 68 0 l1) ∧ (M 68 0 l1) ≤ 2147483647 := iM 68 0 l1
    have b_13 : (-2147483648) ≤ (M 68 0 l2) ∧ (M 68 0 l2) ≤ 2147483647 := iM 68 0 l2
    refine wp_ite (fun c_11 => ?_) (fun c_11 => ?_)
    · skip
      exact wp_ret ⟨rfl, by omega⟩
    · skip
      refine wp_T ⟨by omega, by omega⟩ ?_
      refine wp_T ⟨by omega, by omega⟩ ?_
      refine wp_ite (fun c_14 => ?_) (fun c_14 => ?_)
      · skip
        refine wp_ite (fun c_15 => ?_) (fun c_15 => ?_)
        · skip
          exact wp_ret ⟨rfl, by omega⟩
        · skip
          exact wp_ret ⟨rfl, by omega⟩
      · skip
        exact wp_ret ⟨rfl, by omega⟩
  · skip
    refine wp_ite (fun c_16 => ?_) (fun c_16 => ?_)
    · skip
      exact wp_ret ⟨rfl, by omega⟩
    · skip
      exact wp_ret ⟨rfl, by omega⟩
set_option maxHeartbeats 4000000 in
set_option maxRecDepth 100000 in
theorem s_gX12_placeOf_5 (fu : Nat) (hfu : 4000 ≤ fu) (M : jm_M) (iM : bI bx2 M) (k5 : jm_M → Int → Int → Int → Int → jm_R) (N5 : Int) (hk5 : ∀ (l1 l2 l3 l4 : Int) (hl1 : 0 ≤ l1 ∧ l1 ≤ 5) (hl2 : 0 ≤ l2 ∧ l2 ≤ 1) (hl3 : 0 ≤ l3 ∧ l3 ≤ 6) (hl4 : 0 ≤ l4 ∧ l4 ≤ 6) (y0 : ((l3 + 1) ≤ l4 ∨ (l4 ≤ l1 ∧ l3 ≤ l4))), 7 - l4 < N5 → wp (k5 M l1 l2 l3 l4) (fun r M1 => M1 = M ∧ ((-1) ≤ r ∧ r ≤ 5 ∧ (M 67 0 l1 = 0 ∨ 0 ≤ r)))) : ∀ (l1 l2 l3 l4 : Int) (hl1 : 0 ≤ l1 ∧ l1 ≤ 5) (hl2 : 0 ≤ l2 ∧ l2 ≤ 1) (hl3 : 0 ≤ l3 ∧ l3 ≤ 6) (hl4 : 0 ≤ l4 ∧ l4 ≤ 6) (y0 : ((l3 + 1) ≤ l4 ∨ (l4 ≤ l1 ∧ l3 ≤ l4))), 7 - l4 < N5 + 1 → wp (gX12_placeOf_5 fu k5 M l1 l2 l3 l4) (fun r M1 => M1 = M ∧ ((-1) ≤ r ∧ r ≤ 5 ∧ (M 67 0 l1 = 0 ∨ 0 ≤ r))) := by
  intro l1 l2 l3 l4 hl1 hl2 hl3 hl4 y0 m5
  unfold gX12_placeOf_5
  have b_2 : 0 ≤ (M 0 0 17) ∧ (M 0 0 17) ≤ 6 := iM 0 0 17
  refine wp_ite (fun c_1 => ?_) (fun c_1 => ?_)
  · skip
    refine wp_T ⟨by omega, by omega⟩ ?_
    have b_4 : 0 ≤ (M 67 0 l1) ∧ (M 67 0 l1) ≤ 1 := iM 67 0 l1
    refine wp_ite (fun c_3 => ?_) (fun c_3 => ?_)
    · skip
      exact wp_ret ⟨rfl, by omega⟩
    · skip
      exact wp_ret ⟨rfl, by omega⟩
  · skip
    refine wp_ite (fun c_5 => ?_) (fun c_5 => ?_)
    · skip
      have w_6 : (jm_w (l3 + 0)) = (l3 + 0) := jm_wid (by omega) (by omega)
      refine wp_e (by exact (jm_w_in _)) (fun v7 e_7 hv7 => ?_)
      have w_8 : (jm_w (l4 + 1)) = (l4 + 1) := jm_wid (by omega) (by omega)
      refine wp_e (by exact (jm_w_in _)) (fun v9 e_9 hv9 => ?_)
      have b_10 : -2147483648 ≤ v7 ∧ v7 ≤ 2147483647 := hv7
      have b_11 : -2147483648 ≤ v9 ∧ v9 ≤ 2147483647 := hv9
      exact hk5 l1 l2 v7 v9  ⟨by omega, by omega⟩ ⟨by omega, by omega⟩ ⟨by omega, by omega⟩ ⟨by omega, by omega⟩ (by omega) (by omega)
    · skip
      refine wp_T ⟨by omega, by omega⟩ ?_
      have b_13 : 0 ≤ (M 67 0 l4) ∧ (M 67 0 l4) ≤ 1 := iM 67 0 l4
      refine wp_ite (fun c_12 => ?_) (fun c_12 => ?_)
      · skip
        have w_14 : (jm_w (l3 + 0)) = (l3 + 0) := jm_wid (by omega) (by omega)
        refine wp_e (by exact (jm_w_in _)) (fun v14 e_15 hv14 => ?_)
        have w_16 : (jm_w (l4 + 1)) = (l4 + 1) := jm_wid (by omega) (by omega)
        refine wp_e (by exact (jm_w_in _)) (fun v16 e_17 hv16 => ?_)
        have b_18 : -2147483648 ≤ v14 ∧ v14 ≤ 2147483647 := hv14
        have b_19 : -2147483648 ≤ v16 ∧ v16 ≤ 2147483647 := hv16
        exact hk5 l1 l2 v14 v16  ⟨by omega, by omega⟩ ⟨by omega, by omega⟩ ⟨by omega, by omega⟩ ⟨by omega, by omega⟩ (by omega) (by omega)
      · skip
        refine wp_bp (s_fX12_isBetter M iM l4 l1 ⟨by omega, by omega⟩ ⟨by omega, by omega⟩ ) (fun v18 hv18 => ?_)
        refine wp_ite (fun c_20 => ?_) (fun c_20 => ?_)
        · skip
          have w_21 : (jm_w (l3 + 0)) = (l3 + 0) := jm_wid (by omega) (by omega)
          refine wp_e (by exact (jm_w_in _)) (fun v22 e_22 hv22 => ?_)
          have w_23 : (jm_w (l4 + 1)) = (l4 + 1) := jm_wid (by omega) (by omega)
          refine wp_e (by exact (jm_w_in _)) (fun v24 e_24 hv24 => ?_)
          have b_25 : -2147483648 ≤ v22 ∧ v22 ≤ 2147483647 := hv22
          have b_26 : -2147483648 ≤ v24 ∧ v24 ≤ 2147483647 := hv24
          exact hk5 l1 l2 v22 v24  ⟨by omega, by omega⟩ ⟨by omega, by omega⟩ ⟨by omega, by omega⟩ ⟨by omega, by omega⟩ (by omega) (by omega)
        · skip
          refine wp_ite (fun c_27 => ?_) (fun c_27 => ?_)
          · skip
            have w_28 : (jm_w (l3 + 1)) = (l3 + 1) := jm_wid (by omega) (by omega)
            refine wp_e (by exact (jm_w_in _)) (fun v27 e_29 hv27 => ?_)
            have w_30 : (jm_w (l4 + 1)) = (l4 + 1) := jm_wid (by omega) (by omega)
            refine wp_e (by exact (jm_w_in _)) (fun v29 e_31 hv29 => ?_)
            have b_32 : -2147483648 ≤ v27 ∧ v27 ≤ 2147483647 := hv27
            have b_33 : -2147483648 ≤ v29 ∧ v29 ≤ 2147483647 := hv29
            exact hk5 l1 l2 v27 v29  ⟨by omega, by omega⟩ ⟨by omega, by omega⟩ ⟨by omega, by omega⟩ ⟨by omega, by omega⟩ (by omega) (by omega)
          · skip
            refine wp_T ⟨by omega, by omega⟩ ?_
            refine wp_T ⟨by omega, by omega⟩ ?_
            have b_35 : (-2147483648) ≤ (M 17 0 l4) ∧ (M 17 0 l4) ≤ 2147483647 := iM 17 0 l4
            have b_36 : (-2147483648) ≤ (M 17 0 l1) ∧ (M 17 0 l1) ≤ 2147483647 := iM 17 0 l1
            refine wp_ite (fun c_34 => ?_) (fun c_34 => ?_)
            · skip
              have w_37 : (jm_w (l3 + 1)) = (l3 + 1) := jm_wid (by omega) (by omega)
              refine wp_e (by exact (jm_w_in _)) (fun v36 e_38 hv36 => ?_)
              have w_39 : (jm_w (l4 + 1)) = (l4 + 1) := jm_wid (by omega) (by omega)
              refine wp_e (by exact (jm_w_in _)) (fun v38 e_40 hv38 => ?_)
              have b_41 : -2147483648 ≤ v36 ∧ v36 ≤ 2147483647 := hv36
              have b_42 : -2147483648 ≤ v38 ∧ v38 ≤ 2147483647 := hv38
              exact hk5 l1 l2 v36 v38  ⟨by omega, by omega⟩ ⟨by omega, by omega⟩ ⟨by omega, by omega⟩ ⟨by omega, by omega⟩ (by omega) (by omega)
            · skip
              have w_43 : (jm_w (l3 + 0)) = (l3 + 0) := jm_wid (by omega) (by omega)
              refine wp_e (by exact (jm_w_in _)) (fun v40 e_44 hv40 => ?_)
              have w_45 : (jm_w (l4 + 1)) = (l4 + 1) := jm_wid (by omega) (by omega)
              refine wp_e (by exact (jm_w_in _)) (fun v42 e_46 hv42 => ?_)
              have b_47 : -2147483648 ≤ v40 ∧ v40 ≤ 2147483647 := hv40
              have b_48 : -2147483648 ≤ v42 ∧ v42 ≤ 2147483647 := hv42
              exact hk5 l1 l2 v40 v42  ⟨by omega, by omega⟩ ⟨by omega, by omega⟩ ⟨by omega, by omega⟩ ⟨by omega, by omega⟩ (by omega) (by omega)
set_option maxHeartbeats 4000000 in
set_option maxRecDepth 100000 in
theorem s_fX12_placeOf_5 (fu : Nat) (hfu : 4000 ≤ fu) (M : jm_M) (iM : bI bx2 M) : ∀ (n : Nat) (l1 l2 l3 l4 : Int) (hl1 : 0 ≤ l1 ∧ l1 ≤ 5) (hl2 : 0 ≤ l2 ∧ l2 ≤ 1) (hl3 : 0 ≤ l3 ∧ l3 ≤ 6) (hl4 : 0 ≤ l4 ∧ l4 ≤ 6) (y0 : ((l3 + 1) ≤ l4 ∨ (l4 ≤ l1 ∧ l3 ≤ l4))), 7 - l4 < (n : Int) → wp (fX12_placeOf_5 fu  n M l1 l2 l3 l4) (fun r M1 => M1 = M ∧ ((-1) ≤ r ∧ r ≤ 5 ∧ (M 67 0 l1 = 0 ∨ 0 ≤ r))) := by
  intro n
  induction n with
  | zero => intro l1 l2 l3 l4 hl1 hl2 hl3 hl4 y0 hm; exfalso; omega
  | succ n ih =>
    intro l1 l2 l3 l4 hl1 hl2 hl3 hl4 y0 hm
    exact s_gX12_placeOf_5 fu hfu M iM (fX12_placeOf_5 fu  n) (n : Int) ih l1 l2 l3 l4 hl1 hl2 hl3 hl4 y0 (by omega)
set_option maxHeartbeats 4000000 in
set_option maxRecDepth 100000 in
theorem s_fX12_placeOf (fu : Nat) (hfu : 4000 ≤ fu) (M : jm_M) (iM : bI bx2 M) (l1 l2 : Int) (hl1 : 0 ≤ l1 ∧ l1 ≤ 5) (hl2 : 0 ≤ l2 ∧ l2 ≤ 1) : wp (fX12_placeOf fu M l1 l2) (fun r M1 => M1 = M ∧ ((-1) ≤ r ∧ r ≤ 5 ∧ (M 67 0 l1 = 0 ∨ 0 ≤ r))) := by
  unfold fX12_placeOf
  exact s_fX12_placeOf_5 fu hfu M iM    fu l1 l2 0 0  ⟨by omega, by omega⟩ ⟨by omega, by omega⟩ ⟨by omega, by omega⟩ ⟨by omega, by omega⟩ (by omega)  (by omega)
set_option maxHeartbeats 4000000 in
set_option maxRecDepth 100000 in
theorem s_gX12_tries_82 (fu : Nat) (hfu : 4000 ≤ fu) (M0 : jm_M) (w0 : WF M0) : ∀ (l1 l4 l5 l6 l7 l8 : Int) (M : jm_M) (iM : bI bx2 M) (kM : Kp (TT2 l1) M0 M) (hl1 : 0 ≤ l1 ∧ l1 ≤ 5) (hl4 : jm_in l4) (hl5 : jm_in l5) (hl6 : jm_in l6) (hl7 : jm_in l7) (hl8 : (-1) ≤ l8 ∧ l8 ≤ 5), wp (gX12_tries_82 fu  M l1 l4 l5 l6 l7 l8) (fun r M1 => bI bx2 M1 ∧ Kp (TT2 l1) M0 M1 ∧ (0 ≤ r ∧ r ≤ 0)) := by
  intro l1 l4 l5 l6 l7 l8 M iM kM hl1 hl4 hl5 hl6 hl7 hl8
  unfold gX12_tries_82
  refine wp_sk iM (show 0 ≤ 1 ∧ 1 ≤ 1 by omega) kM (by unfold TT2; omega) (fun M1 u_1 iM1 kM1 => ?_)
  refine wp_sk iM1 (jm_inL (by omega) (by omega)) kM1 (by unfold TT2; omega) (fun M2 u_2 iM2 kM2 => ?_)
  refine wp_T ⟨by omega, by omega⟩ ?_
  have q_3 : (M2 68 0 l1) = (M1 68 0 l1) := by rw [u_2]; exact jm_une_f (by decide)
  have q_4 : (M1 68 0 l1) = (M 68 0 l1) := by rw [u_1]; exact jm_une_f (by decide)
  refine wp_sk iM2 (bx2_in (iM2 68 0 l1)) kM2 (by unfold TT2; omega) (fun M5 u_5 iM5 kM5 => ?_)
  refine wp_T ⟨by omega, by omega⟩ ?_
  refine wp_sk iM5 hl4 kM5 (by unfold TT2; omega) (fun M7 u_6 iM7 kM7 => ?_)
  refine wp_T ⟨by omega, by omega⟩ ?_
  refine wp_sk iM7 hl5 kM7 (by unfold TT2; omega) (fun M9 u_7 iM9 kM9 => ?_)
  refine wp_T ⟨by omega, by omega⟩ ?_
  refine wp_sk iM9 hl6 kM9 (by unfold TT2; omega) (fun M11 u_8 iM11 kM11 => ?_)
  refine wp_T ⟨by omega, by omega⟩ ?_
  refine wp_sk iM11 hl7 kM11 (by unfold TT2; omega) (fun M13 u_9 iM13 kM13 => ?_)
  exact wp_ret ⟨iM13, kM13, by omega⟩
set_option maxHeartbeats 4000000 in
set_option maxRecDepth 100000 in
theorem s_fX12_isAhead (M : jm_M) (iM : bI bx2 M) (l0 l1 l2 l3 : Int) (hl0 : jm_in l0) (hl1 : jm_in l1) (hl2 : jm_in l2) (hl3 : jm_in l3) : wp (fX12_isAhead M l0 l1 l2 l3) (fun r M1 => M1 = M ∧ (0 ≤ r ∧ r ≤ 1)) := by
  unfold fX12_isAhead
  have b_2 : -2147483648 ≤ l0 ∧ l0 ≤ 2147483647 := hl0
  refine wp_ite (fun c_1 => ?_) (fun c_1 => ?_)
  · skip
    refine wp_T (by omega) ?_
    exact wp_ret ⟨rfl, by omega⟩
  · skip
    have b_5 : -2147483648 ≤ l2 ∧ l2 ≤ 2147483647 := hl2
    refine wp_ite (fun c_4 => ?_) (fun c_4 => ?_)
    · skip
      refine wp_ite (fun c_6 => ?_) (fun c_6 => ?_)
      · skip
        exact wp_ret ⟨rfl, by omega⟩
      · skip
        refine wp_ite (fun c_7 => ?_) (fun c_7 => ?_)
        · skip
          have b_9 : -2147483648 ≤ l3 ∧ l3 ≤ 2147483647 := hl3
          have b_10 : -2147483648 ≤ l1 ∧ l1 ≤ 2147483647 := hl1
          refine wp_ite (fun c_8 => ?_) (fun c_8 => ?_)
          · skip
            exact wp_ret ⟨rfl, by omega⟩
          · skip
            exact wp_ret ⟨rfl, by omega⟩
        · skip
          exact wp_ret ⟨rfl, by omega⟩
    · skip
      refine wp_F (by omega) ?_
      exact wp_ret ⟨rfl, by omega⟩
set_option maxHeartbeats 4000000 in
set_option maxRecDepth 100000 in
theorem s_gX12_tries_40 (fu : Nat) (hfu : 4000 ≤ fu) (M0 : jm_M) (w0 : WF M0) : ∀ (l1 l2 l4 l5 l6 l7 : Int) (M : jm_M) (iM : bI bx2 M) (kM : Kp (TT2 l1) M0 M) (hl1 : 0 ≤ l1 ∧ l1 ≤ 5) (hl2 : 0 ≤ l2 ∧ l2 ≤ 99) (hl4 : jm_in l4) (hl5 : jm_in l5) (hl6 : jm_in l6) (hl7 : jm_in l7), wp (gX12_tries_40 fu  M l1 l2 l4 l5 l6 l7) (fun r M1 => bI bx2 M1 ∧ Kp (TT2 l1) M0 M1 ∧ (0 ≤ r ∧ r ≤ 0)) := by
  intro l1 l2 l4 l5 l6 l7 M iM kM hl1 hl2 hl4 hl5 hl6 hl7
  unfold gX12_tries_40
  refine wp_bk (s_fX12_judges fu hfu M iM l2 ⟨by omega, by omega⟩ (WF.kp kM w0 wf_TT2) ) (fun v1 M2 iM2 jM2 hv1 => ?_)
  have kM2 := kM.tr jM2 tt_TT2_TA2
  refine wp_bp (s_fX12_placeOf fu hfu M2 iM2 l1 0 ⟨by omega, by omega⟩ ⟨by omega, by omega⟩ ) (fun v3 hv3 => ?_)
  have q_1 : (M2 0 0 88) = (M 0 0 88) := jM2 0 0 88 (by unfold TA2; omega)
  have b_3 : 0 ≤ (M 0 0 88) ∧ (M 0 0 88) ≤ 1 := iM 0 0 88
  refine wp_ite (fun c_2 => ?_) (fun c_2 => ?_)
  · skip
    have b_4 : -2147483648 ≤ l4 ∧ l4 ≤ 2147483647 := hl4
    have b_5 : -2147483648 ≤ l5 ∧ l5 ≤ 2147483647 := hl5
    have b_6 : -2147483648 ≤ l6 ∧ l6 ≤ 2147483647 := hl6
    have b_7 : -2147483648 ≤ l7 ∧ l7 ≤ 2147483647 := hl7
    exact s_gX12_tries_82 fu hfu M0 w0    l1 l4 l5 l6 l7 v3 M2 iM2 kM2 ⟨by omega, by omega⟩ hl4 hl5 hl6 hl7 ⟨by omega, by omega⟩  
  · skip
    refine wp_T ⟨by omega, by omega⟩ ?_
    have q_8 : (M2 0 0 89) = (M 0 0 89) := jM2 0 0 89 (by unfold TA2; omega)
    have q_9 : (M2 0 0 90) = (M 0 0 90) := jM2 0 0 90 (by unfold TA2; omega)
    refine wp_bp (s_fX12_isAhead M2 iM2 v3 (M2 68 0 l1) (M2 0 0 89) (M2 0 0 90) (jm_inL (by omega) (by omega)) (iM2 68 0 l1) (bx2_in (iM2 0 0 89)) (bx2_in (iM2 0 0 90)) ) (fun v12 hv12 => ?_)
    refine wp_ite (fun c_10 => ?_) (fun c_10 => ?_)
    · skip
      exact wp_ret ⟨iM2, kM2, by omega⟩
    · skip
      have b_11 : -2147483648 ≤ l4 ∧ l4 ≤ 2147483647 := hl4
      have b_12 : -2147483648 ≤ l5 ∧ l5 ≤ 2147483647 := hl5
      have b_13 : -2147483648 ≤ l6 ∧ l6 ≤ 2147483647 := hl6
      have b_14 : -2147483648 ≤ l7 ∧ l7 ≤ 2147483647 := hl7
      exact s_gX12_tries_82 fu hfu M0 w0    l1 l4 l5 l6 l7 v3 M2 iM2 kM2 ⟨by omega, by omega⟩ hl4 hl5 hl6 hl7 ⟨by omega, by omega⟩  
set_option maxHeartbeats 4000000 in
set_option maxRecDepth 100000 in
theorem s_fX12_puts (M : jm_M) (iM : bI bx2 M) (l1 l2 l3 l4 : Int) (hl1 : 0 ≤ l1 ∧ l1 ≤ 5) (hl2 : jm_in l2) (hl3 : jm_in l3) (hl4 : jm_in l4) (x0 : (M 26 0 l1) ≤ 4) : wp (fX12_puts M l1 l2 l3 l4) (fun r M1 => bI bx2 M1 ∧ Kp (TU2 l1) M M1 ∧ (0 ≤ r ∧ r ≤ 0 ∧ (M1 26 0 l1 = M 26 0 l1 + 1))) := by
  have kM : Kp (TU2 l1) M M := Kp.rf
  unfold fX12_puts
  refine wp_T ⟨by omega, by omega⟩ ?_
  have w_1 : (jm_w (5 * l1)) = (5 * l1) := jm_wid (by omega) (by omega)
  have b_2 : 0 ≤ (M 26 0 l1) ∧ (M 26 0 l1) ≤ 5 := iM 26 0 l1
  have w_3 : (jm_w ((jm_w (5 * l1)) + (M 26 0 l1))) = ((jm_w (5 * l1)) + (M 26 0 l1)) := jm_wid (by omega) (by omega)
  refine wp_e (by exact (jm_w_in _)) (fun v3 e_4 hv3 => ?_)
  have b_5 : -2147483648 ≤ v3 ∧ v3 ≤ 2147483647 := hv3
  refine wp_T ⟨by omega, by omega⟩ ?_
  refine wp_sk iM hl2 kM (by unfold TU2; omega) (fun M6 u_6 iM6 kM6 => ?_)
  refine wp_T ⟨by omega, by omega⟩ ?_
  refine wp_sk iM6 hl3 kM6 (by unfold TU2; omega) (fun M8 u_7 iM8 kM8 => ?_)
  refine wp_T ⟨by omega, by omega⟩ ?_
  refine wp_sk iM8 hl4 kM8 (by unfold TU2; omega) (fun M10 u_8 iM10 kM10 => ?_)
  refine wp_T ⟨by omega, by omega⟩ ?_
  refine wp_T ⟨by omega, by omega⟩ ?_
  have q_9 : (M10 26 0 l1) = (M8 26 0 l1) := by rw [u_8]; exact jm_une_f (by decide)
  have q_10 : (M8 26 0 l1) = (M6 26 0 l1) := by rw [u_7]; exact jm_une_f (by decide)
  have q_11 : (M6 26 0 l1) = (M 26 0 l1) := by rw [u_6]; exact jm_une_f (by decide)
  have r_12 : (jm_w ((M10 26 0 l1) + 1)) = (jm_w ((M 26 0 l1) + 1)) := congrArg jm_w (by omega)
  have w_13 : (jm_w ((M 26 0 l1) + 1)) = ((M 26 0 l1) + 1) := jm_wid (by omega) (by omega)
  refine wp_sk iM10 (show 0 ≤ (jm_w ((M10 26 0 l1) + 1)) ∧ (jm_w ((M10 26 0 l1) + 1)) ≤ 5 by omega) kM10 (by unfold TU2; omega) (fun M14 u_14 iM14 kM14 => ?_)
  have q_15 : (M14 26 0 l1) = (jm_w ((M10 26 0 l1) + 1)) := by rw [u_14]; exact jm_ueq
  exact wp_ret ⟨iM14, kM14, by omega, by omega, by omega⟩
set_option maxHeartbeats 4000000 in
set_option maxRecDepth 100000 in
theorem s_gX12_tries_23 (fu : Nat) (hfu : 4000 ≤ fu) (M0 : jm_M) (w0 : WF M0) : ∀ (l1 l2 l3 l4 l5 l6 l7 : Int) (M : jm_M) (iM : bI bx2 M) (kM : Kp (TT2 l1) M0 M) (hl1 : 0 ≤ l1 ∧ l1 ≤ 5) (hl2 : 0 ≤ l2 ∧ l2 ≤ 99) (hl3 : 0 ≤ l3 ∧ l3 ≤ 2) (hl4 : jm_in l4) (hl5 : jm_in l5) (hl6 : jm_in l6) (hl7 : jm_in l7) (y0 : (M 26 0 l1) ≤ 4), wp (gX12_tries_23 fu  M l1 l2 l3 l4 l5 l6 l7) (fun r M1 => bI bx2 M1 ∧ Kp (TT2 l1) M0 M1 ∧ (0 ≤ r ∧ r ≤ 0)) := by
  intro l1 l2 l3 l4 l5 l6 l7 M iM kM hl1 hl2 hl3 hl4 hl5 hl6 hl7 y0
  unfold gX12_tries_23
  refine wp_ite (fun c_1 => ?_) (fun c_1 => ?_)
  · skip
    have b_2 : -2147483648 ≤ l4 ∧ l4 ≤ 2147483647 := hl4
    have b_3 : -2147483648 ≤ l5 ∧ l5 ≤ 2147483647 := hl5
    have b_4 : -2147483648 ≤ l6 ∧ l6 ≤ 2147483647 := hl6
    have b_5 : -2147483648 ≤ l7 ∧ l7 ≤ 2147483647 := hl7
    exact s_gX12_tries_40 fu hfu M0 w0    l1 l2 l4 l5 l6 l7 M iM kM ⟨by omega, by omega⟩ ⟨by omega, by omega⟩ hl4 hl5 hl6 hl7  
  · skip
    have b_6 : 0 ≤ (M 26 0 l1) ∧ (M 26 0 l1) ≤ 5 := iM 26 0 l1
    refine wp_bk (s_fX12_puts M iM l1 l5 l7 200 ⟨by omega, by omega⟩ hl5 hl7 (jm_inL (by decide) (by decide)) (by omega)) (fun v2 M3 iM3 jM3 hv2 => ?_)
    have kM3 := kM.tr jM3 tt_TT2_TU2
    have b_7 : -2147483648 ≤ l4 ∧ l4 ≤ 2147483647 := hl4
    have b_8 : -2147483648 ≤ l5 ∧ l5 ≤ 2147483647 := hl5
    have b_9 : -2147483648 ≤ l6 ∧ l6 ≤ 2147483647 := hl6
    have b_10 : -2147483648 ≤ l7 ∧ l7 ≤ 2147483647 := hl7
    exact s_gX12_tries_40 fu hfu M0 w0    l1 l2 l4 l5 l6 l7 M3 iM3 kM3 ⟨by omega, by omega⟩ ⟨by omega, by omega⟩ hl4 hl5 hl6 hl7  
set_option maxHeartbeats 4000000 in
set_option maxRecDepth 100000 in
theorem s_fX12_tries (fu : Nat) (hfu : 4000 ≤ fu) (M : jm_M) (iM : bI bx2 M) (l1 l2 l3 l4 l5 l6 l7 : Int) (hl1 : 0 ≤ l1 ∧ l1 ≤ 5) (hl2 : 0 ≤ l2 ∧ l2 ≤ 99) (hl3 : 0 ≤ l3 ∧ l3 ≤ 2) (hl4 : jm_in l4) (hl5 : jm_in l5) (hl6 : jm_in l6) (hl7 : jm_in l7) (wM : WF M) : wp (fX12_tries fu M l1 l2 l3 l4 l5 l6 l7) (fun r M1 => bI bx2 M1 ∧ Kp (TT2 l1) M M1 ∧ (0 ≤ r ∧ r ≤ 0)) := by
  have kM : Kp (TT2 l1) M M := Kp.rf
  unfold fX12_tries
  refine wp_T ⟨by omega, by omega⟩ ?_
  refine wp_sk iM (show 0 ≤ 0 ∧ 0 ≤ 5 by omega) kM (by unfold TT2; omega) (fun M2 u_1 iM2 kM2 => ?_)
  refine wp_ite (fun c_2 => ?_) (fun c_2 => ?_)
  · skip
    have b_3 : -2147483648 ≤ l4 ∧ l4 ≤ 2147483647 := hl4
    have b_4 : -2147483648 ≤ l5 ∧ l5 ≤ 2147483647 := hl5
    have b_5 : -2147483648 ≤ l6 ∧ l6 ≤ 2147483647 := hl6
    have b_6 : -2147483648 ≤ l7 ∧ l7 ≤ 2147483647 := hl7
    have q_7 : (M2 26 0 l1) = 0 := by rw [u_1]; exact jm_ueq
    exact s_gX12_tries_23 fu hfu M wM    l1 l2 l3 l4 l5 l6 l7 M2 iM2 kM2 ⟨by omega, by omega⟩ ⟨by omega, by omega⟩ ⟨by omega, by omega⟩ hl4 hl5 hl6 hl7 (by omega) 
  · skip
    have q_8 : (M2 26 0 l1) = 0 := by rw [u_1]; exact jm_ueq
    refine wp_bk (s_fX12_puts M2 iM2 l1 l4 l6 200 ⟨by omega, by omega⟩ hl4 hl6 (jm_inL (by decide) (by decide)) (by omega)) (fun v4 M5 iM5 jM5 hv4 => ?_)
    have kM5 := kM2.tr jM5 tt_TT2_TU2
    have b_9 : -2147483648 ≤ l4 ∧ l4 ≤ 2147483647 := hl4
    have b_10 : -2147483648 ≤ l5 ∧ l5 ≤ 2147483647 := hl5
    have b_11 : -2147483648 ≤ l6 ∧ l6 ≤ 2147483647 := hl6
    have b_12 : -2147483648 ≤ l7 ∧ l7 ≤ 2147483647 := hl7
    have b_13 : 0 ≤ (M5 26 0 l1) ∧ (M5 26 0 l1) ≤ 5 := iM5 26 0 l1
    exact s_gX12_tries_23 fu hfu M wM    l1 l2 l3 l4 l5 l6 l7 M5 iM5 kM5 ⟨by omega, by omega⟩ ⟨by omega, by omega⟩ ⟨by omega, by omega⟩ hl4 hl5 hl6 hl7 (by omega) 
set_option maxHeartbeats 4000000 in
set_option maxRecDepth 100000 in
theorem s_gX12_bests_109 (fu : Nat) (hfu : 4000 ≤ fu) (M0 : jm_M) (w0 : WF M0) (k13 : jm_M → Int → Int → Int → Int → jm_R) (k47 : jm_M → Int → Int → Int → Int → Int → jm_R) (k70 : jm_M → Int → Int → Int → Int → Int → Int → jm_R) (k92 : jm_M → Int → Int → Int → Int → Int → Int → Int → jm_R) (N13 N47 N70 N92 : Int) (hk13 : ∀ (l1 l2 l3 l4 : Int) (M : jm_M) (iM : bI bx2 M) (kM : Kp (TB2 l1) M0 M) (hl1 : 0 ≤ l1 ∧ l1 ≤ 5) (hl2 : 0 ≤ l2 ∧ l2 ≤ 2) (hl3 : 0 ≤ l3 ∧ l3 ≤ 99) (hl4 : 0 ≤ l4 ∧ l4 ≤ 11) (z0 : M 73 0 l1 = M0 26 0 l1), 12 - l4 < N13 → wp (k13 M l1 l2 l3 l4) (fun r M1 => bI bx2 M1 ∧ Kp (TB2 l1) M0 M1 ∧ (0 ≤ r ∧ r ≤ 1 ∧ (M1 26 0 l1 = M0 26 0 l1)))) (hk47 : ∀ (l1 l2 l3 l4 l5 : Int) (M : jm_M) (iM : bI bx2 M) (kM : Kp (TB2 l1) M0 M) (hl1 : 0 ≤ l1 ∧ l1 ≤ 5) (hl2 : 0 ≤ l2 ∧ l2 ≤ 2) (hl3 : 0 ≤ l3 ∧ l3 ≤ 99) (hl4 : 0 ≤ l4 ∧ l4 ≤ 10) (hl5 : 0 ≤ l5 ∧ l5 ≤ 11) (z0 : M 73 0 l1 = M0 26 0 l1), 12 - l4 < N13 + 1 → 12 - l5 < N47 → wp (k47 M l1 l2 l3 l4 l5) (fun r M1 => bI bx2 M1 ∧ Kp (TB2 l1) M0 M1 ∧ (0 ≤ r ∧ r ≤ 1 ∧ (M1 26 0 l1 = M0 26 0 l1)))) (hk70 : ∀ (l1 l2 l3 l4 l5 l6 : Int) (M : jm_M) (iM : bI bx2 M) (kM : Kp (TB2 l1) M0 M) (hl1 : 0 ≤ l1 ∧ l1 ≤ 5) (hl2 : 0 ≤ l2 ∧ l2 ≤ 2) (hl3 : 0 ≤ l3 ∧ l3 ≤ 99) (hl4 : 0 ≤ l4 ∧ l4 ≤ 10) (hl5 : 0 ≤ l5 ∧ l5 ≤ 10) (hl6 : 0 ≤ l6 ∧ l6 ≤ 4) (z0 : M 73 0 l1 = M0 26 0 l1), 12 - l4 < N13 + 1 → 12 - l5 < N47 + 1 → 5 - l6 < N70 → wp (k70 M l1 l2 l3 l4 l5 l6) (fun r M1 => bI bx2 M1 ∧ Kp (TB2 l1) M0 M1 ∧ (0 ≤ r ∧ r ≤ 1 ∧ (M1 26 0 l1 = M0 26 0 l1)))) (hk92 : ∀ (l1 l2 l3 l4 l5 l6 l7 : Int) (M : jm_M) (iM : bI bx2 M) (kM : Kp (TB2 l1) M0 M) (hl1 : 0 ≤ l1 ∧ l1 ≤ 5) (hl2 : 0 ≤ l2 ∧ l2 ≤ 2) (hl3 : 0 ≤ l3 ∧ l3 ≤ 99) (hl4 : 0 ≤ l4 ∧ l4 ≤ 10) (hl5 : 0 ≤ l5 ∧ l5 ≤ 10) (hl6 : 0 ≤ l6 ∧ l6 ≤ 3) (hl7 : 0 ≤ l7 ∧ l7 ≤ 4) (z0 : M 73 0 l1 = M0 26 0 l1), 12 - l4 < N13 + 1 → 12 - l5 < N47 + 1 → 5 - l6 < N70 + 1 → 5 - l7 < N92 → wp (k92 M l1 l2 l3 l4 l5 l6 l7) (fun r M1 => bI bx2 M1 ∧ Kp (TB2 l1) M0 M1 ∧ (0 ≤ r ∧ r ≤ 1 ∧ (M1 26 0 l1 = M0 26 0 l1)))) : ∀ (l1 l2 l3 l4 l5 l6 l7 s0 s1 : Int) (M : jm_M) (iM : bI bx2 M) (kM : Kp (TB2 l1) M0 M) (hl1 : 0 ≤ l1 ∧ l1 ≤ 5) (hl2 : 0 ≤ l2 ∧ l2 ≤ 2) (hl3 : 0 ≤ l3 ∧ l3 ≤ 99) (hl4 : 0 ≤ l4 ∧ l4 ≤ 10) (hl5 : 0 ≤ l5 ∧ l5 ≤ 10) (hl6 : 0 ≤ l6 ∧ l6 ≤ 3) (hl7 : 0 ≤ l7 ∧ l7 ≤ 4) (hs0 : 0 ≤ s0 ∧ s0 ≤ 4) (hs1 : 0 ≤ s1 ∧ s1 ≤ 4) (y0 : (s1 = l7)) (z0 : M 73 0 l1 = M0 26 0 l1), 12 - l4 < N13 + 1 → 12 - l5 < N47 + 1 → 5 - l6 < N70 + 1 → 5 - l7 < N92 + 1 → wp (gX12_bests_109 fu k13 k47 k70 k92 M l1 l2 l3 l4 l5 l6 l7 s0 s1) (fun r M1 => bI bx2 M1 ∧ Kp (TB2 l1) M0 M1 ∧ (0 ≤ r ∧ r ≤ 1 ∧ (M1 26 0 l1 = M0 26 0 l1))) := by
  intro l1 l2 l3 l4 l5 l6 l7 s0 s1 M iM kM hl1 hl2 hl3 hl4 hl5 hl6 hl7 hs0 hs1 y0 z0 m13 m47 m70 m92
  unfold gX12_bests_109
  refine wp_ite (fun c_1 => ?_) (fun c_1 => ?_)
  · skip
    have w_2 : (jm_w (l6 + 1)) = (l6 + 1) := jm_wid (by omega) (by omega)
    refine wp_e (by exact (jm_w_in _)) (fun v2 e_3 hv2 => ?_)
    have b_4 : -2147483648 ≤ v2 ∧ v2 ≤ 2147483647 := hv2
    have b_5 : 0 ≤ (M 26 0 l1) ∧ (M 26 0 l1) ≤ 5 := iM 26 0 l1
    have b_6 : 0 ≤ (M 73 0 l1) ∧ (M 73 0 l1) ≤ 5 := iM 73 0 l1
    exact hk70 l1 l2 l3 l4 l5 v2 M iM kM ⟨by omega, by omega⟩ ⟨by omega, by omega⟩ ⟨by omega, by omega⟩ ⟨by omega, by omega⟩ ⟨by omega, by omega⟩ ⟨by omega, by omega⟩ (by omega) (by omega) (by omega) (by omega)
  · skip
    refine wp_bk (s_fX12_tries fu hfu M iM l1 l3 l2 l4 l5 l6 l7 ⟨by omega, by omega⟩ ⟨by omega, by omega⟩ ⟨by omega, by omega⟩ (jm_inL (by omega) (by omega)) (jm_inL (by omega) (by omega)) (jm_inL (by omega) (by omega)) (jm_inL (by omega) (by omega)) (WF.kp kM w0 wf_TB2) ) (fun v4 M5 iM5 jM5 hv4 => ?_)
    have kM5 := kM.tr jM5 tt_TB2_TT2
    have w_7 : (jm_w (l7 + 1)) = (l7 + 1) := jm_wid (by omega) (by omega)
    refine wp_e (by exact (jm_w_in _)) (fun v6 e_8 hv6 => ?_)
    have b_9 : -2147483648 ≤ v6 ∧ v6 ≤ 2147483647 := hv6
    have b_10 : 0 ≤ (M5 26 0 l1) ∧ (M5 26 0 l1) ≤ 5 := iM5 26 0 l1
    have q_11 : (M5 73 0 l1) = (M 73 0 l1) := jM5 73 0 l1 (by unfold TT2; omega)
    have b_12 : 0 ≤ (M 73 0 l1) ∧ (M 73 0 l1) ≤ 5 := iM 73 0 l1
    exact hk92 l1 l2 l3 l4 l5 l6 v6 M5 iM5 kM5 ⟨by omega, by omega⟩ ⟨by omega, by omega⟩ ⟨by omega, by omega⟩ ⟨by omega, by omega⟩ ⟨by omega, by omega⟩ ⟨by omega, by omega⟩ ⟨by omega, by omega⟩ (by omega) (by omega) (by omega) (by omega) (by omega)
set_option maxHeartbeats 4000000 in
set_option maxRecDepth 100000 in
theorem s_gX12_bests_92 (fu : Nat) (hfu : 4000 ≤ fu) (M0 : jm_M) (w0 : WF M0) (k13 : jm_M → Int → Int → Int → Int → jm_R) (k47 : jm_M → Int → Int → Int → Int → Int → jm_R) (k70 : jm_M → Int → Int → Int → Int → Int → Int → jm_R) (k92 : jm_M → Int → Int → Int → Int → Int → Int → Int → jm_R) (N13 N47 N70 N92 : Int) (hk13 : ∀ (l1 l2 l3 l4 : Int) (M : jm_M) (iM : bI bx2 M) (kM : Kp (TB2 l1) M0 M) (hl1 : 0 ≤ l1 ∧ l1 ≤ 5) (hl2 : 0 ≤ l2 ∧ l2 ≤ 2) (hl3 : 0 ≤ l3 ∧ l3 ≤ 99) (hl4 : 0 ≤ l4 ∧ l4 ≤ 11) (z0 : M 73 0 l1 = M0 26 0 l1), 12 - l4 < N13 → wp (k13 M l1 l2 l3 l4) (fun r M1 => bI bx2 M1 ∧ Kp (TB2 l1) M0 M1 ∧ (0 ≤ r ∧ r ≤ 1 ∧ (M1 26 0 l1 = M0 26 0 l1)))) (hk47 : ∀ (l1 l2 l3 l4 l5 : Int) (M : jm_M) (iM : bI bx2 M) (kM : Kp (TB2 l1) M0 M) (hl1 : 0 ≤ l1 ∧ l1 ≤ 5) (hl2 : 0 ≤ l2 ∧ l2 ≤ 2) (hl3 : 0 ≤ l3 ∧ l3 ≤ 99) (hl4 : 0 ≤ l4 ∧ l4 ≤ 10) (hl5 : 0 ≤ l5 ∧ l5 ≤ 11) (z0 : M 73 0 l1 = M0 26 0 l1), 12 - l4 < N13 + 1 → 12 - l5 < N47 → wp (k47 M l1 l2 l3 l4 l5) (fun r M1 => bI bx2 M1 ∧ Kp (TB2 l1) M0 M1 ∧ (0 ≤ r ∧ r ≤ 1 ∧ (M1 26 0 l1 = M0 26 0 l1)))) (hk70 : ∀ (l1 l2 l3 l4 l5 l6 : Int) (M : jm_M) (iM : bI bx2 M) (kM : Kp (TB2 l1) M0 M) (hl1 : 0 ≤ l1 ∧ l1 ≤ 5) (hl2 : 0 ≤ l2 ∧ l2 ≤ 2) (hl3 : 0 ≤ l3 ∧ l3 ≤ 99) (hl4 : 0 ≤ l4 ∧ l4 ≤ 10) (hl5 : 0 ≤ l5 ∧ l5 ≤ 10) (hl6 : 0 ≤ l6 ∧ l6 ≤ 4) (z0 : M 73 0 l1 = M0 26 0 l1), 12 - l4 < N13 + 1 → 12 - l5 < N47 + 1 → 5 - l6 < N70 → wp (k70 M l1 l2 l3 l4 l5 l6) (fun r M1 => bI bx2 M1 ∧ Kp (TB2 l1) M0 M1 ∧ (0 ≤ r ∧ r ≤ 1 ∧ (M1 26 0 l1 = M0 26 0 l1)))) (hk92 : ∀ (l1 l2 l3 l4 l5 l6 l7 : Int) (M : jm_M) (iM : bI bx2 M) (kM : Kp (TB2 l1) M0 M) (hl1 : 0 ≤ l1 ∧ l1 ≤ 5) (hl2 : 0 ≤ l2 ∧ l2 ≤ 2) (hl3 : 0 ≤ l3 ∧ l3 ≤ 99) (hl4 : 0 ≤ l4 ∧ l4 ≤ 10) (hl5 : 0 ≤ l5 ∧ l5 ≤ 10) (hl6 : 0 ≤ l6 ∧ l6 ≤ 3) (hl7 : 0 ≤ l7 ∧ l7 ≤ 4) (z0 : M 73 0 l1 = M0 26 0 l1), 12 - l4 < N13 + 1 → 12 - l5 < N47 + 1 → 5 - l6 < N70 + 1 → 5 - l7 < N92 → wp (k92 M l1 l2 l3 l4 l5 l6 l7) (fun r M1 => bI bx2 M1 ∧ Kp (TB2 l1) M0 M1 ∧ (0 ≤ r ∧ r ≤ 1 ∧ (M1 26 0 l1 = M0 26 0 l1)))) : ∀ (l1 l2 l3 l4 l5 l6 l7 : Int) (M : jm_M) (iM : bI bx2 M) (kM : Kp (TB2 l1) M0 M) (hl1 : 0 ≤ l1 ∧ l1 ≤ 5) (hl2 : 0 ≤ l2 ∧ l2 ≤ 2) (hl3 : 0 ≤ l3 ∧ l3 ≤ 99) (hl4 : 0 ≤ l4 ∧ l4 ≤ 10) (hl5 : 0 ≤ l5 ∧ l5 ≤ 10) (hl6 : 0 ≤ l6 ∧ l6 ≤ 3) (hl7 : 0 ≤ l7 ∧ l7 ≤ 4) (z0 : M 73 0 l1 = M0 26 0 l1), 12 - l4 < N13 + 1 → 12 - l5 < N47 + 1 → 5 - l6 < N70 + 1 → 5 - l7 < N92 + 1 → wp (gX12_bests_92 fu k13 k47 k70 k92 M l1 l2 l3 l4 l5 l6 l7) (fun r M1 => bI bx2 M1 ∧ Kp (TB2 l1) M0 M1 ∧ (0 ≤ r ∧ r ≤ 1 ∧ (M1 26 0 l1 = M0 26 0 l1))) := by
  intro l1 l2 l3 l4 l5 l6 l7 M iM kM hl1 hl2 hl3 hl4 hl5 hl6 hl7 z0 m13 m47 m70 m92
  unfold gX12_bests_92
  refine wp_ite (fun c_1 => ?_) (fun c_1 => ?_)
  · skip
    have b_2 : 0 ≤ (M 26 0 l1) ∧ (M 26 0 l1) ≤ 5 := iM 26 0 l1
    have b_3 : 0 ≤ (M 73 0 l1) ∧ (M 73 0 l1) ≤ 5 := iM 73 0 l1
    exact s_gX12_bests_109 fu hfu M0 w0 k13 k47 k70 k92 N13 N47 N70 N92 hk13 hk47 hk70 hk92 l1 l2 l3 l4 l5 l6 l7 1 l7 M iM kM ⟨by omega, by omega⟩ ⟨by omega, by omega⟩ ⟨by omega, by omega⟩ ⟨by omega, by omega⟩ ⟨by omega, by omega⟩ ⟨by omega, by omega⟩ ⟨by omega, by omega⟩ ⟨by omega, by omega⟩ ⟨by omega, by omega⟩ (by omega) (by omega) (by omega) (by omega) (by omega) (by omega)
  · skip
    refine wp_T ⟨by omega, by omega⟩ ?_
    have b_4 : 0 ≤ (M 19 0 l1) ∧ (M 19 0 l1) ≤ 4 := iM 19 0 l1
    have b_5 : 0 ≤ (M 26 0 l1) ∧ (M 26 0 l1) ≤ 5 := iM 26 0 l1
    have b_6 : 0 ≤ (M 73 0 l1) ∧ (M 73 0 l1) ≤ 5 := iM 73 0 l1
    exact s_gX12_bests_109 fu hfu M0 w0 k13 k47 k70 k92 N13 N47 N70 N92 hk13 hk47 hk70 hk92 l1 l2 l3 l4 l5 l6 l7 (M 19 0 l1) l7 M iM kM ⟨by omega, by omega⟩ ⟨by omega, by omega⟩ ⟨by omega, by omega⟩ ⟨by omega, by omega⟩ ⟨by omega, by omega⟩ ⟨by omega, by omega⟩ ⟨by omega, by omega⟩ ⟨by omega, by omega⟩ ⟨by omega, by omega⟩ (by omega) (by omega) (by omega) (by omega) (by omega) (by omega)
set_option maxHeartbeats 4000000 in
set_option maxRecDepth 100000 in
theorem s_fX12_bests_92 (fu : Nat) (hfu : 4000 ≤ fu) (M0 : jm_M) (w0 : WF M0) (k13 : jm_M → Int → Int → Int → Int → jm_R) (k47 : jm_M → Int → Int → Int → Int → Int → jm_R) (k70 : jm_M → Int → Int → Int → Int → Int → Int → jm_R) (N13 N47 N70 : Int) (hk13 : ∀ (l1 l2 l3 l4 : Int) (M : jm_M) (iM : bI bx2 M) (kM : Kp (TB2 l1) M0 M) (hl1 : 0 ≤ l1 ∧ l1 ≤ 5) (hl2 : 0 ≤ l2 ∧ l2 ≤ 2) (hl3 : 0 ≤ l3 ∧ l3 ≤ 99) (hl4 : 0 ≤ l4 ∧ l4 ≤ 11) (z0 : M 73 0 l1 = M0 26 0 l1), 12 - l4 < N13 → wp (k13 M l1 l2 l3 l4) (fun r M1 => bI bx2 M1 ∧ Kp (TB2 l1) M0 M1 ∧ (0 ≤ r ∧ r ≤ 1 ∧ (M1 26 0 l1 = M0 26 0 l1)))) (hk47 : ∀ (l1 l2 l3 l4 l5 : Int) (M : jm_M) (iM : bI bx2 M) (kM : Kp (TB2 l1) M0 M) (hl1 : 0 ≤ l1 ∧ l1 ≤ 5) (hl2 : 0 ≤ l2 ∧ l2 ≤ 2) (hl3 : 0 ≤ l3 ∧ l3 ≤ 99) (hl4 : 0 ≤ l4 ∧ l4 ≤ 10) (hl5 : 0 ≤ l5 ∧ l5 ≤ 11) (z0 : M 73 0 l1 = M0 26 0 l1), 12 - l4 < N13 + 1 → 12 - l5 < N47 → wp (k47 M l1 l2 l3 l4 l5) (fun r M1 => bI bx2 M1 ∧ Kp (TB2 l1) M0 M1 ∧ (0 ≤ r ∧ r ≤ 1 ∧ (M1 26 0 l1 = M0 26 0 l1)))) (hk70 : ∀ (l1 l2 l3 l4 l5 l6 : Int) (M : jm_M) (iM : bI bx2 M) (kM : Kp (TB2 l1) M0 M) (hl1 : 0 ≤ l1 ∧ l1 ≤ 5) (hl2 : 0 ≤ l2 ∧ l2 ≤ 2) (hl3 : 0 ≤ l3 ∧ l3 ≤ 99) (hl4 : 0 ≤ l4 ∧ l4 ≤ 10) (hl5 : 0 ≤ l5 ∧ l5 ≤ 10) (hl6 : 0 ≤ l6 ∧ l6 ≤ 4) (z0 : M 73 0 l1 = M0 26 0 l1), 12 - l4 < N13 + 1 → 12 - l5 < N47 + 1 → 5 - l6 < N70 → wp (k70 M l1 l2 l3 l4 l5 l6) (fun r M1 => bI bx2 M1 ∧ Kp (TB2 l1) M0 M1 ∧ (0 ≤ r ∧ r ≤ 1 ∧ (M1 26 0 l1 = M0 26 0 l1)))) : ∀ (n : Nat) (l1 l2 l3 l4 l5 l6 l7 : Int) (M : jm_M) (iM : bI bx2 M) (kM : Kp (TB2 l1) M0 M) (hl1 : 0 ≤ l1 ∧ l1 ≤ 5) (hl2 : 0 ≤ l2 ∧ l2 ≤ 2) (hl3 : 0 ≤ l3 ∧ l3 ≤ 99) (hl4 : 0 ≤ l4 ∧ l4 ≤ 10) (hl5 : 0 ≤ l5 ∧ l5 ≤ 10) (hl6 : 0 ≤ l6 ∧ l6 ≤ 3) (hl7 : 0 ≤ l7 ∧ l7 ≤ 4) (z0 : M 73 0 l1 = M0 26 0 l1), 12 - l4 < N13 + 1 → 12 - l5 < N47 + 1 → 5 - l6 < N70 + 1 → 5 - l7 < (n : Int) → wp (fX12_bests_92 fu k13 k47 k70 n M l1 l2 l3 l4 l5 l6 l7) (fun r M1 => bI bx2 M1 ∧ Kp (TB2 l1) M0 M1 ∧ (0 ≤ r ∧ r ≤ 1 ∧ (M1 26 0 l1 = M0 26 0 l1))) := by
  intro n
  induction n with
  | zero => intro l1 l2 l3 l4 l5 l6 l7 M iM kM hl1 hl2 hl3 hl4 hl5 hl6 hl7 z0 m13 m47 m70 hm; exfalso; omega
  | succ n ih =>
    intro l1 l2 l3 l4 l5 l6 l7 M iM kM hl1 hl2 hl3 hl4 hl5 hl6 hl7 z0 m13 m47 m70 hm
    exact s_gX12_bests_92 fu hfu M0 w0 k13 k47 k70 (fX12_bests_92 fu k13 k47 k70 n) N13 N47 N70 (n : Int) hk13 hk47 hk70 ih l1 l2 l3 l4 l5 l6 l7 M iM kM hl1 hl2 hl3 hl4 hl5 hl6 hl7 z0 m13 m47 m70 (by omega)
set_option maxHeartbeats 4000000 in
set_option maxRecDepth 100000 in
theorem s_gX12_bests_70 (fu : Nat) (hfu : 4000 ≤ fu) (M0 : jm_M) (w0 : WF M0) (k13 : jm_M → Int → Int → Int → Int → jm_R) (k47 : jm_M → Int → Int → Int → Int → Int → jm_R) (k70 : jm_M → Int → Int → Int → Int → Int → Int → jm_R) (N13 N47 N70 : Int) (hk13 : ∀ (l1 l2 l3 l4 : Int) (M : jm_M) (iM : bI bx2 M) (kM : Kp (TB2 l1) M0 M) (hl1 : 0 ≤ l1 ∧ l1 ≤ 5) (hl2 : 0 ≤ l2 ∧ l2 ≤ 2) (hl3 : 0 ≤ l3 ∧ l3 ≤ 99) (hl4 : 0 ≤ l4 ∧ l4 ≤ 11) (z0 : M 73 0 l1 = M0 26 0 l1), 12 - l4 < N13 → wp (k13 M l1 l2 l3 l4) (fun r M1 => bI bx2 M1 ∧ Kp (TB2 l1) M0 M1 ∧ (0 ≤ r ∧ r ≤ 1 ∧ (M1 26 0 l1 = M0 26 0 l1)))) (hk47 : ∀ (l1 l2 l3 l4 l5 : Int) (M : jm_M) (iM : bI bx2 M) (kM : Kp (TB2 l1) M0 M) (hl1 : 0 ≤ l1 ∧ l1 ≤ 5) (hl2 : 0 ≤ l2 ∧ l2 ≤ 2) (hl3 : 0 ≤ l3 ∧ l3 ≤ 99) (hl4 : 0 ≤ l4 ∧ l4 ≤ 10) (hl5 : 0 ≤ l5 ∧ l5 ≤ 11) (z0 : M 73 0 l1 = M0 26 0 l1), 12 - l4 < N13 + 1 → 12 - l5 < N47 → wp (k47 M l1 l2 l3 l4 l5) (fun r M1 => bI bx2 M1 ∧ Kp (TB2 l1) M0 M1 ∧ (0 ≤ r ∧ r ≤ 1 ∧ (M1 26 0 l1 = M0 26 0 l1)))) (hk70 : ∀ (l1 l2 l3 l4 l5 l6 : Int) (M : jm_M) (iM : bI bx2 M) (kM : Kp (TB2 l1) M0 M) (hl1 : 0 ≤ l1 ∧ l1 ≤ 5) (hl2 : 0 ≤ l2 ∧ l2 ≤ 2) (hl3 : 0 ≤ l3 ∧ l3 ≤ 99) (hl4 : 0 ≤ l4 ∧ l4 ≤ 10) (hl5 : 0 ≤ l5 ∧ l5 ≤ 10) (hl6 : 0 ≤ l6 ∧ l6 ≤ 4) (z0 : M 73 0 l1 = M0 26 0 l1), 12 - l4 < N13 + 1 → 12 - l5 < N47 + 1 → 5 - l6 < N70 → wp (k70 M l1 l2 l3 l4 l5 l6) (fun r M1 => bI bx2 M1 ∧ Kp (TB2 l1) M0 M1 ∧ (0 ≤ r ∧ r ≤ 1 ∧ (M1 26 0 l1 = M0 26 0 l1)))) : ∀ (l1 l2 l3 l4 l5 l6 : Int) (M : jm_M) (iM : bI bx2 M) (kM : Kp (TB2 l1) M0 M) (hl1 : 0 ≤ l1 ∧ l1 ≤ 5) (hl2 : 0 ≤ l2 ∧ l2 ≤ 2) (hl3 : 0 ≤ l3 ∧ l3 ≤ 99) (hl4 : 0 ≤ l4 ∧ l4 ≤ 10) (hl5 : 0 ≤ l5 ∧ l5 ≤ 10) (hl6 : 0 ≤ l6 ∧ l6 ≤ 4) (z0 : M 73 0 l1 = M0 26 0 l1), 12 - l4 < N13 + 1 → 12 - l5 < N47 + 1 → 5 - l6 < N70 + 1 → wp (gX12_bests_70 fu k13 k47 k70 M l1 l2 l3 l4 l5 l6) (fun r M1 => bI bx2 M1 ∧ Kp (TB2 l1) M0 M1 ∧ (0 ≤ r ∧ r ≤ 1 ∧ (M1 26 0 l1 = M0 26 0 l1))) := by
  intro l1 l2 l3 l4 l5 l6 M iM kM hl1 hl2 hl3 hl4 hl5 hl6 z0 m13 m47 m70
  unfold gX12_bests_70
  refine wp_ite (fun c_1 => ?_) (fun c_1 => ?_)
  · skip
    refine wp_ite (fun c_2 => ?_) (fun c_2 => ?_)
    · skip
      have w_3 : (jm_w (l5 + 1)) = (l5 + 1) := jm_wid (by omega) (by omega)
      refine wp_e (by exact (jm_w_in _)) (fun v3 e_4 hv3 => ?_)
      have b_5 : -2147483648 ≤ v3 ∧ v3 ≤ 2147483647 := hv3
      have b_6 : 0 ≤ (M 26 0 l1) ∧ (M 26 0 l1) ≤ 5 := iM 26 0 l1
      have b_7 : 0 ≤ (M 73 0 l1) ∧ (M 73 0 l1) ≤ 5 := iM 73 0 l1
      exact hk47 l1 l2 l3 l4 v3 M iM kM ⟨by omega, by omega⟩ ⟨by omega, by omega⟩ ⟨by omega, by omega⟩ ⟨by omega, by omega⟩ ⟨by omega, by omega⟩ (by omega) (by omega) (by omega)
    · skip
      have b_8 : 0 ≤ (M 26 0 l1) ∧ (M 26 0 l1) ≤ 5 := iM 26 0 l1
      have b_9 : 0 ≤ (M 73 0 l1) ∧ (M 73 0 l1) ≤ 5 := iM 73 0 l1
      exact s_fX12_bests_92 fu hfu M0 w0 k13 k47 k70 N13 N47 N70 hk13 hk47 hk70 fu l1 l2 l3 l4 l5 l6 0 M iM kM ⟨by omega, by omega⟩ ⟨by omega, by omega⟩ ⟨by omega, by omega⟩ ⟨by omega, by omega⟩ ⟨by omega, by omega⟩ ⟨by omega, by omega⟩ ⟨by omega, by omega⟩ (by omega) (by omega) (by omega) (by omega) (by omega)
  · skip
    refine wp_T ⟨by omega, by omega⟩ ?_
    have b_11 : 0 ≤ (M 19 0 l1) ∧ (M 19 0 l1) ≤ 4 := iM 19 0 l1
    refine wp_ite (fun c_10 => ?_) (fun c_10 => ?_)
    · skip
      have w_12 : (jm_w (l5 + 1)) = (l5 + 1) := jm_wid (by omega) (by omega)
      refine wp_e (by exact (jm_w_in _)) (fun v8 e_13 hv8 => ?_)
      have b_14 : -2147483648 ≤ v8 ∧ v8 ≤ 2147483647 := hv8
      have b_15 : 0 ≤ (M 26 0 l1) ∧ (M 26 0 l1) ≤ 5 := iM 26 0 l1
      have b_16 : 0 ≤ (M 73 0 l1) ∧ (M 73 0 l1) ≤ 5 := iM 73 0 l1
      exact hk47 l1 l2 l3 l4 v8 M iM kM ⟨by omega, by omega⟩ ⟨by omega, by omega⟩ ⟨by omega, by omega⟩ ⟨by omega, by omega⟩ ⟨by omega, by omega⟩ (by omega) (by omega) (by omega)
    · skip
      have b_17 : 0 ≤ (M 26 0 l1) ∧ (M 26 0 l1) ≤ 5 := iM 26 0 l1
      have b_18 : 0 ≤ (M 73 0 l1) ∧ (M 73 0 l1) ≤ 5 := iM 73 0 l1
      exact s_fX12_bests_92 fu hfu M0 w0 k13 k47 k70 N13 N47 N70 hk13 hk47 hk70 fu l1 l2 l3 l4 l5 l6 0 M iM kM ⟨by omega, by omega⟩ ⟨by omega, by omega⟩ ⟨by omega, by omega⟩ ⟨by omega, by omega⟩ ⟨by omega, by omega⟩ ⟨by omega, by omega⟩ ⟨by omega, by omega⟩ (by omega) (by omega) (by omega) (by omega) (by omega)
set_option maxHeartbeats 4000000 in
set_option maxRecDepth 100000 in
theorem s_fX12_bests_70 (fu : Nat) (hfu : 4000 ≤ fu) (M0 : jm_M) (w0 : WF M0) (k13 : jm_M → Int → Int → Int → Int → jm_R) (k47 : jm_M → Int → Int → Int → Int → Int → jm_R) (N13 N47 : Int) (hk13 : ∀ (l1 l2 l3 l4 : Int) (M : jm_M) (iM : bI bx2 M) (kM : Kp (TB2 l1) M0 M) (hl1 : 0 ≤ l1 ∧ l1 ≤ 5) (hl2 : 0 ≤ l2 ∧ l2 ≤ 2) (hl3 : 0 ≤ l3 ∧ l3 ≤ 99) (hl4 : 0 ≤ l4 ∧ l4 ≤ 11) (z0 : M 73 0 l1 = M0 26 0 l1), 12 - l4 < N13 → wp (k13 M l1 l2 l3 l4) (fun r M1 => bI bx2 M1 ∧ Kp (TB2 l1) M0 M1 ∧ (0 ≤ r ∧ r ≤ 1 ∧ (M1 26 0 l1 = M0 26 0 l1)))) (hk47 : ∀ (l1 l2 l3 l4 l5 : Int) (M : jm_M) (iM : bI bx2 M) (kM : Kp (TB2 l1) M0 M) (hl1 : 0 ≤ l1 ∧ l1 ≤ 5) (hl2 : 0 ≤ l2 ∧ l2 ≤ 2) (hl3 : 0 ≤ l3 ∧ l3 ≤ 99) (hl4 : 0 ≤ l4 ∧ l4 ≤ 10) (hl5 : 0 ≤ l5 ∧ l5 ≤ 11) (z0 : M 73 0 l1 = M0 26 0 l1), 12 - l4 < N13 + 1 → 12 - l5 < N47 → wp (k47 M l1 l2 l3 l4 l5) (fun r M1 => bI bx2 M1 ∧ Kp (TB2 l1) M0 M1 ∧ (0 ≤ r ∧ r ≤ 1 ∧ (M1 26 0 l1 = M0 26 0 l1)))) : ∀ (n : Nat) (l1 l2 l3 l4 l5 l6 : Int) (M : jm_M) (iM : bI bx2 M) (kM : Kp (TB2 l1) M0 M) (hl1 : 0 ≤ l1 ∧ l1 ≤ 5) (hl2 : 0 ≤ l2 ∧ l2 ≤ 2) (hl3 : 0 ≤ l3 ∧ l3 ≤ 99) (hl4 : 0 ≤ l4 ∧ l4 ≤ 10) (hl5 : 0 ≤ l5 ∧ l5 ≤ 10) (hl6 : 0 ≤ l6 ∧ l6 ≤ 4) (z0 : M 73 0 l1 = M0 26 0 l1), 12 - l4 < N13 + 1 → 12 - l5 < N47 + 1 → 5 - l6 < (n : Int) → wp (fX12_bests_70 fu k13 k47 n M l1 l2 l3 l4 l5 l6) (fun r M1 => bI bx2 M1 ∧ Kp (TB2 l1) M0 M1 ∧ (0 ≤ r ∧ r ≤ 1 ∧ (M1 26 0 l1 = M0 26 0 l1))) := by
  intro n
  induction n with
  | zero => intro l1 l2 l3 l4 l5 l6 M iM kM hl1 hl2 hl3 hl4 hl5 hl6 z0 m13 m47 hm; exfalso; omega
  | succ n ih =>
    intro l1 l2 l3 l4 l5 l6 M iM kM hl1 hl2 hl3 hl4 hl5 hl6 z0 m13 m47 hm
    exact s_gX12_bests_70 fu hfu M0 w0 k13 k47 (fX12_bests_70 fu k13 k47 n) N13 N47 (n : Int) hk13 hk47 ih l1 l2 l3 l4 l5 l6 M iM kM hl1 hl2 hl3 hl4 hl5 hl6 z0 m13 m47 (by omega)
set_option maxHeartbeats 4000000 in
set_option maxRecDepth 100000 in
theorem s_gX12_bests_47 (fu : Nat) (hfu : 4000 ≤ fu) (M0 : jm_M) (w0 : WF M0) (k13 : jm_M → Int → Int → Int → Int → jm_R) (k47 : jm_M → Int → Int → Int → Int → Int → jm_R) (N13 N47 : Int) (hk13 : ∀ (l1 l2 l3 l4 : Int) (M : jm_M) (iM : bI bx2 M) (kM : Kp (TB2 l1) M0 M) (hl1 : 0 ≤ l1 ∧ l1 ≤ 5) (hl2 : 0 ≤ l2 ∧ l2 ≤ 2) (hl3 : 0 ≤ l3 ∧ l3 ≤ 99) (hl4 : 0 ≤ l4 ∧ l4 ≤ 11) (z0 : M 73 0 l1 = M0 26 0 l1), 12 - l4 < N13 → wp (k13 M l1 l2 l3 l4) (fun r M1 => bI bx2 M1 ∧ Kp (TB2 l1) M0 M1 ∧ (0 ≤ r ∧ r ≤ 1 ∧ (M1 26 0 l1 = M0 26 0 l1)))) (hk47 : ∀ (l1 l2 l3 l4 l5 : Int) (M : jm_M) (iM : bI bx2 M) (kM : Kp (TB2 l1) M0 M) (hl1 : 0 ≤ l1 ∧ l1 ≤ 5) (hl2 : 0 ≤ l2 ∧ l2 ≤ 2) (hl3 : 0 ≤ l3 ∧ l3 ≤ 99) (hl4 : 0 ≤ l4 ∧ l4 ≤ 10) (hl5 : 0 ≤ l5 ∧ l5 ≤ 11) (z0 : M 73 0 l1 = M0 26 0 l1), 12 - l4 < N13 + 1 → 12 - l5 < N47 → wp (k47 M l1 l2 l3 l4 l5) (fun r M1 => bI bx2 M1 ∧ Kp (TB2 l1) M0 M1 ∧ (0 ≤ r ∧ r ≤ 1 ∧ (M1 26 0 l1 = M0 26 0 l1)))) : ∀ (l1 l2 l3 l4 l5 : Int) (M : jm_M) (iM : bI bx2 M) (kM : Kp (TB2 l1) M0 M) (hl1 : 0 ≤ l1 ∧ l1 ≤ 5) (hl2 : 0 ≤ l2 ∧ l2 ≤ 2) (hl3 : 0 ≤ l3 ∧ l3 ≤ 99) (hl4 : 0 ≤ l4 ∧ l4 ≤ 10) (hl5 : 0 ≤ l5 ∧ l5 ≤ 11) (z0 : M 73 0 l1 = M0 26 0 l1), 12 - l4 < N13 + 1 → 12 - l5 < N47 + 1 → wp (gX12_bests_47 fu k13 k47 M l1 l2 l3 l4 l5) (fun r M1 => bI bx2 M1 ∧ Kp (TB2 l1) M0 M1 ∧ (0 ≤ r ∧ r ≤ 1 ∧ (M1 26 0 l1 = M0 26 0 l1))) := by
  intro l1 l2 l3 l4 l5 M iM kM hl1 hl2 hl3 hl4 hl5 z0 m13 m47
  unfold gX12_bests_47
  refine wp_ite (fun c_1 => ?_) (fun c_1 => ?_)
  · skip
    refine wp_ite (fun c_2 => ?_) (fun c_2 => ?_)
    · skip
      have w_3 : (jm_w (l4 + 1)) = (l4 + 1) := jm_wid (by omega) (by omega)
      refine wp_e (by exact (jm_w_in _)) (fun v3 e_4 hv3 => ?_)
      have b_5 : -2147483648 ≤ v3 ∧ v3 ≤ 2147483647 := hv3
      have b_6 : 0 ≤ (M 26 0 l1) ∧ (M 26 0 l1) ≤ 5 := iM 26 0 l1
      have b_7 : 0 ≤ (M 73 0 l1) ∧ (M 73 0 l1) ≤ 5 := iM 73 0 l1
      exact hk13 l1 l2 l3 v3 M iM kM ⟨by omega, by omega⟩ ⟨by omega, by omega⟩ ⟨by omega, by omega⟩ ⟨by omega, by omega⟩ (by omega) (by omega)
    · skip
      have b_8 : 0 ≤ (M 26 0 l1) ∧ (M 26 0 l1) ≤ 5 := iM 26 0 l1
      have b_9 : 0 ≤ (M 73 0 l1) ∧ (M 73 0 l1) ≤ 5 := iM 73 0 l1
      exact s_fX12_bests_70 fu hfu M0 w0 k13 k47 N13 N47 hk13 hk47 fu l1 l2 l3 l4 l5 0 M iM kM ⟨by omega, by omega⟩ ⟨by omega, by omega⟩ ⟨by omega, by omega⟩ ⟨by omega, by omega⟩ ⟨by omega, by omega⟩ ⟨by omega, by omega⟩ (by omega) (by omega) (by omega) (by omega)
  · skip
    have b_11 : 1 ≤ (M 0 0 2) ∧ (M 0 0 2) ≤ 12 := iM 0 0 2
    have w_12 : (jm_w ((M 0 0 2) - 1)) = ((M 0 0 2) - 1) := jm_wid (by omega) (by omega)
    refine wp_ite (fun c_10 => ?_) (fun c_10 => ?_)
    · skip
      have w_13 : (jm_w (l4 + 1)) = (l4 + 1) := jm_wid (by omega) (by omega)
      refine wp_e (by exact (jm_w_in _)) (fun v7 e_14 hv7 => ?_)
      have b_15 : -2147483648 ≤ v7 ∧ v7 ≤ 2147483647 := hv7
      have b_16 : 0 ≤ (M 26 0 l1) ∧ (M 26 0 l1) ≤ 5 := iM 26 0 l1
      have b_17 : 0 ≤ (M 73 0 l1) ∧ (M 73 0 l1) ≤ 5 := iM 73 0 l1
      exact hk13 l1 l2 l3 v7 M iM kM ⟨by omega, by omega⟩ ⟨by omega, by omega⟩ ⟨by omega, by omega⟩ ⟨by omega, by omega⟩ (by omega) (by omega)
    · skip
      have b_18 : 0 ≤ (M 26 0 l1) ∧ (M 26 0 l1) ≤ 5 := iM 26 0 l1
      have b_19 : 0 ≤ (M 73 0 l1) ∧ (M 73 0 l1) ≤ 5 := iM 73 0 l1
      exact s_fX12_bests_70 fu hfu M0 w0 k13 k47 N13 N47 hk13 hk47 fu l1 l2 l3 l4 l5 0 M iM kM ⟨by omega, by omega⟩ ⟨by omega, by omega⟩ ⟨by omega, by omega⟩ ⟨by omega, by omega⟩ ⟨by omega, by omega⟩ ⟨by omega, by omega⟩ (by omega) (by omega) (by omega) (by omega)
set_option maxHeartbeats 4000000 in
set_option maxRecDepth 100000 in
theorem s_fX12_bests_47 (fu : Nat) (hfu : 4000 ≤ fu) (M0 : jm_M) (w0 : WF M0) (k13 : jm_M → Int → Int → Int → Int → jm_R) (N13 : Int) (hk13 : ∀ (l1 l2 l3 l4 : Int) (M : jm_M) (iM : bI bx2 M) (kM : Kp (TB2 l1) M0 M) (hl1 : 0 ≤ l1 ∧ l1 ≤ 5) (hl2 : 0 ≤ l2 ∧ l2 ≤ 2) (hl3 : 0 ≤ l3 ∧ l3 ≤ 99) (hl4 : 0 ≤ l4 ∧ l4 ≤ 11) (z0 : M 73 0 l1 = M0 26 0 l1), 12 - l4 < N13 → wp (k13 M l1 l2 l3 l4) (fun r M1 => bI bx2 M1 ∧ Kp (TB2 l1) M0 M1 ∧ (0 ≤ r ∧ r ≤ 1 ∧ (M1 26 0 l1 = M0 26 0 l1)))) : ∀ (n : Nat) (l1 l2 l3 l4 l5 : Int) (M : jm_M) (iM : bI bx2 M) (kM : Kp (TB2 l1) M0 M) (hl1 : 0 ≤ l1 ∧ l1 ≤ 5) (hl2 : 0 ≤ l2 ∧ l2 ≤ 2) (hl3 : 0 ≤ l3 ∧ l3 ≤ 99) (hl4 : 0 ≤ l4 ∧ l4 ≤ 10) (hl5 : 0 ≤ l5 ∧ l5 ≤ 11) (z0 : M 73 0 l1 = M0 26 0 l1), 12 - l4 < N13 + 1 → 12 - l5 < (n : Int) → wp (fX12_bests_47 fu k13 n M l1 l2 l3 l4 l5) (fun r M1 => bI bx2 M1 ∧ Kp (TB2 l1) M0 M1 ∧ (0 ≤ r ∧ r ≤ 1 ∧ (M1 26 0 l1 = M0 26 0 l1))) := by
  intro n
  induction n with
  | zero => intro l1 l2 l3 l4 l5 M iM kM hl1 hl2 hl3 hl4 hl5 z0 m13 hm; exfalso; omega
  | succ n ih =>
    intro l1 l2 l3 l4 l5 M iM kM hl1 hl2 hl3 hl4 hl5 z0 m13 hm
    exact s_gX12_bests_47 fu hfu M0 w0 k13 (fX12_bests_47 fu k13 n) N13 (n : Int) hk13 ih l1 l2 l3 l4 l5 M iM kM hl1 hl2 hl3 hl4 hl5 z0 m13 (by omega)
set_option maxHeartbeats 4000000 in
set_option maxRecDepth 100000 in
theorem s_gX12_bests_29 (fu : Nat) (hfu : 4000 ≤ fu) (M0 : jm_M) (w0 : WF M0) (k13 : jm_M → Int → Int → Int → Int → jm_R) (N13 : Int) (hk13 : ∀ (l1 l2 l3 l4 : Int) (M : jm_M) (iM : bI bx2 M) (kM : Kp (TB2 l1) M0 M) (hl1 : 0 ≤ l1 ∧ l1 ≤ 5) (hl2 : 0 ≤ l2 ∧ l2 ≤ 2) (hl3 : 0 ≤ l3 ∧ l3 ≤ 99) (hl4 : 0 ≤ l4 ∧ l4 ≤ 11) (z0 : M 73 0 l1 = M0 26 0 l1), 12 - l4 < N13 → wp (k13 M l1 l2 l3 l4) (fun r M1 => bI bx2 M1 ∧ Kp (TB2 l1) M0 M1 ∧ (0 ≤ r ∧ r ≤ 1 ∧ (M1 26 0 l1 = M0 26 0 l1)))) : ∀ (l1 l2 l3 l4 s0 s1 : Int) (M : jm_M) (iM : bI bx2 M) (kM : Kp (TB2 l1) M0 M) (hl1 : 0 ≤ l1 ∧ l1 ≤ 5) (hl2 : 0 ≤ l2 ∧ l2 ≤ 2) (hl3 : 0 ≤ l3 ∧ l3 ≤ 99) (hl4 : 0 ≤ l4 ∧ l4 ≤ 11) (hs0 : 0 ≤ s0 ∧ s0 ≤ 11) (hs1 : 0 ≤ s1 ∧ s1 ≤ 11) (y0 : (s1 = l4)) (z0 : M 73 0 l1 = M0 26 0 l1), 12 - l4 < N13 + 1 → wp (gX12_bests_29 fu k13 M l1 l2 l3 l4 s0 s1) (fun r M1 => bI bx2 M1 ∧ Kp (TB2 l1) M0 M1 ∧ (0 ≤ r ∧ r ≤ 1 ∧ (M1 26 0 l1 = M0 26 0 l1))) := by
  intro l1 l2 l3 l4 s0 s1 M iM kM hl1 hl2 hl3 hl4 hs0 hs1 y0 z0 m13
  unfold gX12_bests_29
  refine wp_ite (fun c_1 => ?_) (fun c_1 => ?_)
  · skip
    have b_2 : 0 ≤ (M 26 0 l1) ∧ (M 26 0 l1) ≤ 5 := iM 26 0 l1
    have b_3 : 0 ≤ (M 73 0 l1) ∧ (M 73 0 l1) ≤ 5 := iM 73 0 l1
    refine wp_bk (s_fX12_putsBack fu hfu M iM l1 ⟨by omega, by omega⟩ ) (fun v2 M3 iM3 jM3 hv2 => ?_)
    have kM3 := kM.tr jM3 tt_TB2_TK2
    have q_4 : (M3 0 0 88) = (M 0 0 88) := jM3 0 0 88 (by unfold TK2; omega)
    have b_5 : 0 ≤ (M 0 0 88) ∧ (M 0 0 88) ≤ 1 := iM 0 0 88
    refine wp_T (by omega) ?_
    have b_6 : 0 ≤ (M3 26 0 l1) ∧ (M3 26 0 l1) ≤ 5 := iM3 26 0 l1
    have b_7 : 0 ≤ (M3 73 0 l1) ∧ (M3 73 0 l1) ≤ 5 := iM3 73 0 l1
    exact wp_ret ⟨iM3, kM3, by omega, by omega, by omega⟩
  · skip
    refine wp_ite (fun c_8 => ?_) (fun c_8 => ?_)
    · skip
      have b_9 : 0 ≤ (M 26 0 l1) ∧ (M 26 0 l1) ≤ 5 := iM 26 0 l1
      have b_10 : 0 ≤ (M 73 0 l1) ∧ (M 73 0 l1) ≤ 5 := iM 73 0 l1
      exact s_fX12_bests_47 fu hfu M0 w0 k13 N13 hk13 fu l1 l2 l3 l4 0 M iM kM ⟨by omega, by omega⟩ ⟨by omega, by omega⟩ ⟨by omega, by omega⟩ ⟨by omega, by omega⟩ ⟨by omega, by omega⟩ (by omega) (by omega) (by omega)
    · skip
      have w_11 : (jm_w (l4 + 1)) = (l4 + 1) := jm_wid (by omega) (by omega)
      refine wp_e (by exact (jm_w_in _)) (fun v6 e_12 hv6 => ?_)
      have b_13 : -2147483648 ≤ v6 ∧ v6 ≤ 2147483647 := hv6
      have b_14 : 0 ≤ (M 26 0 l1) ∧ (M 26 0 l1) ≤ 5 := iM 26 0 l1
      have b_15 : 0 ≤ (M 73 0 l1) ∧ (M 73 0 l1) ≤ 5 := iM 73 0 l1
      exact s_fX12_bests_47 fu hfu M0 w0 k13 N13 hk13 fu l1 l2 l3 l4 v6 M iM kM ⟨by omega, by omega⟩ ⟨by omega, by omega⟩ ⟨by omega, by omega⟩ ⟨by omega, by omega⟩ ⟨by omega, by omega⟩ (by omega) (by omega) (by omega)
set_option maxHeartbeats 4000000 in
set_option maxRecDepth 100000 in
theorem s_gX12_bests_13 (fu : Nat) (hfu : 4000 ≤ fu) (M0 : jm_M) (w0 : WF M0) (k13 : jm_M → Int → Int → Int → Int → jm_R) (N13 : Int) (hk13 : ∀ (l1 l2 l3 l4 : Int) (M : jm_M) (iM : bI bx2 M) (kM : Kp (TB2 l1) M0 M) (hl1 : 0 ≤ l1 ∧ l1 ≤ 5) (hl2 : 0 ≤ l2 ∧ l2 ≤ 2) (hl3 : 0 ≤ l3 ∧ l3 ≤ 99) (hl4 : 0 ≤ l4 ∧ l4 ≤ 11) (z0 : M 73 0 l1 = M0 26 0 l1), 12 - l4 < N13 → wp (k13 M l1 l2 l3 l4) (fun r M1 => bI bx2 M1 ∧ Kp (TB2 l1) M0 M1 ∧ (0 ≤ r ∧ r ≤ 1 ∧ (M1 26 0 l1 = M0 26 0 l1)))) : ∀ (l1 l2 l3 l4 : Int) (M : jm_M) (iM : bI bx2 M) (kM : Kp (TB2 l1) M0 M) (hl1 : 0 ≤ l1 ∧ l1 ≤ 5) (hl2 : 0 ≤ l2 ∧ l2 ≤ 2) (hl3 : 0 ≤ l3 ∧ l3 ≤ 99) (hl4 : 0 ≤ l4 ∧ l4 ≤ 11) (z0 : M 73 0 l1 = M0 26 0 l1), 12 - l4 < N13 + 1 → wp (gX12_bests_13 fu k13 M l1 l2 l3 l4) (fun r M1 => bI bx2 M1 ∧ Kp (TB2 l1) M0 M1 ∧ (0 ≤ r ∧ r ≤ 1 ∧ (M1 26 0 l1 = M0 26 0 l1))) := by
  intro l1 l2 l3 l4 M iM kM hl1 hl2 hl3 hl4 z0 m13
  unfold gX12_bests_13
  refine wp_ite (fun c_1 => ?_) (fun c_1 => ?_)
  · skip
    have b_2 : 0 ≤ (M 26 0 l1) ∧ (M 26 0 l1) ≤ 5 := iM 26 0 l1
    have b_3 : 0 ≤ (M 73 0 l1) ∧ (M 73 0 l1) ≤ 5 := iM 73 0 l1
    exact s_gX12_bests_29 fu hfu M0 w0 k13 N13 hk13 l1 l2 l3 l4 1 l4 M iM kM ⟨by omega, by omega⟩ ⟨by omega, by omega⟩ ⟨by omega, by omega⟩ ⟨by omega, by omega⟩ ⟨by omega, by omega⟩ ⟨by omega, by omega⟩ (by omega) (by omega) (by omega)
  · skip
    have b_4 : 1 ≤ (M 0 0 2) ∧ (M 0 0 2) ≤ 12 := iM 0 0 2
    have w_5 : (jm_w ((M 0 0 2) - 1)) = ((M 0 0 2) - 1) := jm_wid (by omega) (by omega)
    have b_6 : 0 ≤ (M 26 0 l1) ∧ (M 26 0 l1) ≤ 5 := iM 26 0 l1
    have b_7 : 0 ≤ (M 73 0 l1) ∧ (M 73 0 l1) ≤ 5 := iM 73 0 l1
    exact s_gX12_bests_29 fu hfu M0 w0 k13 N13 hk13 l1 l2 l3 l4 (jm_w ((M 0 0 2) - 1)) l4 M iM kM ⟨by omega, by omega⟩ ⟨by omega, by omega⟩ ⟨by omega, by omega⟩ ⟨by omega, by omega⟩ ⟨by omega, by omega⟩ ⟨by omega, by omega⟩ (by omega) (by omega) (by omega)
set_option maxHeartbeats 4000000 in
set_option maxRecDepth 100000 in
theorem s_fX12_bests_13 (fu : Nat) (hfu : 4000 ≤ fu) (M0 : jm_M) (w0 : WF M0) : ∀ (n : Nat) (l1 l2 l3 l4 : Int) (M : jm_M) (iM : bI bx2 M) (kM : Kp (TB2 l1) M0 M) (hl1 : 0 ≤ l1 ∧ l1 ≤ 5) (hl2 : 0 ≤ l2 ∧ l2 ≤ 2) (hl3 : 0 ≤ l3 ∧ l3 ≤ 99) (hl4 : 0 ≤ l4 ∧ l4 ≤ 11) (z0 : M 73 0 l1 = M0 26 0 l1), 12 - l4 < (n : Int) → wp (fX12_bests_13 fu  n M l1 l2 l3 l4) (fun r M1 => bI bx2 M1 ∧ Kp (TB2 l1) M0 M1 ∧ (0 ≤ r ∧ r ≤ 1 ∧ (M1 26 0 l1 = M0 26 0 l1))) := by
  intro n
  induction n with
  | zero => intro l1 l2 l3 l4 M iM kM hl1 hl2 hl3 hl4 z0 hm; exfalso; omega
  | succ n ih =>
    intro l1 l2 l3 l4 M iM kM hl1 hl2 hl3 hl4 z0 hm
    exact s_gX12_bests_13 fu hfu M0 w0 (fX12_bests_13 fu  n) (n : Int) ih l1 l2 l3 l4 M iM kM hl1 hl2 hl3 hl4 z0 (by omega)
set_option maxHeartbeats 4000000 in
set_option maxRecDepth 100000 in
theorem s0_fX12_bests (fu : Nat) (hfu : 4000 ≤ fu) (M : jm_M) (iM : bI bx2 M) (l1 l2 l3 : Int) (hl1 : 0 ≤ l1 ∧ l1 ≤ 5) (hl2 : 0 ≤ l2 ∧ l2 ≤ 2) (hl3 : 0 ≤ l3 ∧ l3 ≤ 99) (wM : WF M) : wp (fX12_bests fu M l1 l2 l3) (fun r M1 => bI bx2 M1 ∧ Kp (TB2 l1) M M1 ∧ (0 ≤ r ∧ r ≤ 1 ∧ (M1 26 0 l1 = M 26 0 l1))) := by
  have kM : Kp (TB2 l1) M M := Kp.rf
  unfold fX12_bests
  refine wp_sk iM (show 0 ≤ 0 ∧ 0 ≤ 1 by omega) kM (by unfold TB2 RC2; omega) (fun M1 u_1 iM1 kM1 => ?_)
  have q_2 : (M1 73 0 l1) = (M 73 0 l1) := by rw [u_1]; exact jm_une_f (by decide)
  have b_3 : 0 ≤ (M 73 0 l1) ∧ (M 73 0 l1) ≤ 5 := iM 73 0 l1
  have q_4 : (M1 26 0 l1) = (M 26 0 l1) := by rw [u_1]; exact jm_une_f (by decide)
  have b_5 : 0 ≤ (M 26 0 l1) ∧ (M 26 0 l1) ≤ 5 := iM 26 0 l1
  refine wp_bk (s_fX12_clears fu hfu M1 iM1 l1 ⟨by omega, by omega⟩ ) (fun v2 M3 iM3 jM3 hv2 => ?_)
  have kM3 := kM1.tr jM3 tt_TB2_TK2
  have b_6 : 0 ≤ (M3 26 0 l1) ∧ (M3 26 0 l1) ≤ 5 := iM3 26 0 l1
  have b_7 : 0 ≤ (M3 73 0 l1) ∧ (M3 73 0 l1) ≤ 5 := iM3 73 0 l1
  exact s_fX12_bests_13 fu hfu M wM    fu l1 l2 l3 0 M3 iM3 kM3 ⟨by omega, by omega⟩ ⟨by omega, by omega⟩ ⟨by omega, by omega⟩ ⟨by omega, by omega⟩ (by omega)  (by omega)
theorem s_fX12_bests (fu : Nat) (hfu : 4000 ≤ fu) (M : jm_M) (iM : bI bx2 M) (l1 l2 l3 : Int) (hl1 : 0 ≤ l1 ∧ l1 ≤ 5) (hl2 : 0 ≤ l2 ∧ l2 ≤ 2) (hl3 : 0 ≤ l3 ∧ l3 ≤ 99) (wM : WF M) : wp (fX12_bests fu M l1 l2 l3) (fun r M1 => bI bx2 M1 ∧ Kp RC2 M M1 ∧ (0 ≤ r ∧ r ≤ 1 ∧ (M1 26 0 l1 = M 26 0 l1))) :=
  wp_mono (s0_fX12_bests fu hfu M iM l1 l2 l3 hl1 hl2 hl3 wM) fun r M1 q => ⟨q.1, fun f i k h => by
    by_cases z : f = 26 ∧ k = l1
    · obtain ⟨rfl, rfl⟩ := z
      have : i = 0 := h.1
      subst this
      exact q.2.2.2.2
    · exact q.2.1 f i k ⟨h, fun e1 e2 => z ⟨e1, e2⟩⟩, q.2.2⟩
set_option maxHeartbeats 4000000 in
set_option maxRecDepth 100000 in
theorem s_gX12_best_37 (fu : Nat) (hfu : 4000 ≤ fu) (M0 : jm_M) (w0 : WF M0) (k37 : jm_M → Int → Int → jm_R) (N37 : Int) (hk37 : ∀ (l2 l4 : Int) (M : jm_M) (iM : bI bx2 M) (kM : Kp RC2 M0 M) (hl2 : 0 ≤ l2 ∧ l2 ≤ 2) (hl4 : 0 ≤ l4 ∧ l4 ≤ 2), 3 - l4 < N37 → wp (k37 M l2 l4) (fun r M1 => bI bx2 M1 ∧ Kp RC2 M0 M1 ∧ ((-2) ≤ r ∧ r ≤ 2147483647))) : ∀ (l2 l4 : Int) (M : jm_M) (iM : bI bx2 M) (kM : Kp RC2 M0 M) (hl2 : 0 ≤ l2 ∧ l2 ≤ 2) (hl4 : 0 ≤ l4 ∧ l4 ≤ 2), 3 - l4 < N37 + 1 → wp (gX12_best_37 fu k37 M l2 l4) (fun r M1 => bI bx2 M1 ∧ Kp RC2 M0 M1 ∧ ((-2) ≤ r ∧ r ≤ 2147483647)) := by
  intro l2 l4 M iM kM hl2 hl4 m37
  unfold gX12_best_37
  refine wp_ite (fun c_1 => ?_) (fun c_1 => ?_)
  · skip
    have b_3 : (-2147483648) ≤ (M 0 0 89) ∧ (M 0 0 89) ≤ 2147483647 := iM 0 0 89
    refine wp_ite (fun c_2 => ?_) (fun c_2 => ?_)
    · skip
      exact wp_ret ⟨iM, kM, by omega⟩
    · skip
      exact wp_ret ⟨iM, kM, by omega⟩
  · skip
    refine wp_T ⟨by omega, by omega⟩ ?_
    have w_4 : (jm_w (2 * l4)) = (2 * l4) := jm_wid (by omega) (by omega)
    refine wp_T ⟨by omega, by omega⟩ ?_
    refine wp_sk iM (iM 74 0 l4) kM (by unfold RC2; omega) (fun M8 u_5 iM8 kM8 => ?_)
    refine wp_T ⟨by omega, by omega⟩ ?_
    have w_6 : (jm_w ((jm_w (2 * l4)) + 1)) = ((jm_w (2 * l4)) + 1) := jm_wid (by omega) (by omega)
    refine wp_T ⟨by omega, by omega⟩ ?_
    have q_7 : (M8 75 0 l4) = (M 75 0 l4) := by rw [u_5]; exact jm_une_f (by decide)
    refine wp_sk iM8 (bx2_in (iM8 75 0 l4)) kM8 (by unfold RC2; omega) (fun M12 u_8 iM12 kM12 => ?_)
    have w_9 : (jm_w (l4 + 1)) = (l4 + 1) := jm_wid (by omega) (by omega)
    refine wp_e (by exact (jm_w_in _)) (fun v13 e_10 hv13 => ?_)
    have b_11 : -2147483648 ≤ v13 ∧ v13 ≤ 2147483647 := hv13
    exact hk37 l2 v13 M12 iM12 kM12 ⟨by omega, by omega⟩ ⟨by omega, by omega⟩  (by omega)
set_option maxHeartbeats 4000000 in
set_option maxRecDepth 100000 in
theorem s_fX12_best_37 (fu : Nat) (hfu : 4000 ≤ fu) (M0 : jm_M) (w0 : WF M0) : ∀ (n : Nat) (l2 l4 : Int) (M : jm_M) (iM : bI bx2 M) (kM : Kp RC2 M0 M) (hl2 : 0 ≤ l2 ∧ l2 ≤ 2) (hl4 : 0 ≤ l4 ∧ l4 ≤ 2), 3 - l4 < (n : Int) → wp (fX12_best_37 fu  n M l2 l4) (fun r M1 => bI bx2 M1 ∧ Kp RC2 M0 M1 ∧ ((-2) ≤ r ∧ r ≤ 2147483647)) := by
  intro n
  induction n with
  | zero => intro l2 l4 M iM kM hl2 hl4 hm; exfalso; omega
  | succ n ih =>
    intro l2 l4 M iM kM hl2 hl4 hm
    exact s_gX12_best_37 fu hfu M0 w0 (fX12_best_37 fu  n) (n : Int) ih l2 l4 M iM kM hl2 hl4 (by omega)
set_option maxHeartbeats 4000000 in
set_option maxRecDepth 100000 in
theorem s_fX12_best (fu : Nat) (hfu : 4000 ≤ fu) (M : jm_M) (iM : bI bx2 M) (l1 l2 l3 : Int) (hl1 : jm_in l1) (hl2 : jm_in l2) (hl3 : jm_in l3) (wM : WF M) : wp (fX12_best fu M l1 l2 l3) (fun r M1 => bI bx2 M1 ∧ Kp RC2 M M1 ∧ ((-2) ≤ r ∧ r ≤ 2147483647)) := by
  have kM : Kp RC2 M M := Kp.rf
  unfold fX12_best
  refine wp_sk iM (jm_inL (by decide) (by decide)) kM (by unfold RC2; omega) (fun M1 u_1 iM1 kM1 => ?_)
  refine wp_bp (s_fX12_isAsked M1 iM1 l1 l2 l3 hl1 hl2 hl3 ) (fun v2 hv2 => ?_)
  have b_2 : -2147483648 ≤ l1 ∧ l1 ≤ 2147483647 := hl1
  have q_3 : (M1 0 0 17) = (M 0 0 17) := by rw [u_1]; exact jm_une_k (by decide)
  have b_4 : 0 ≤ (M 0 0 17) ∧ (M 0 0 17) ≤ 6 := iM 0 0 17
  have b_5 : -2147483648 ≤ l2 ∧ l2 ≤ 2147483647 := hl2
  have b_6 : -2147483648 ≤ l3 ∧ l3 ≤ 2147483647 := hl3
  refine wp_ite (fun c_7 => ?_) (fun c_7 => ?_)
  · skip
    exact wp_ret ⟨iM1, kM1, by omega⟩
  · skip
    have q_8 : (M1 26 0 l1) = (M 26 0 l1) := by rw [u_1]; exact jm_une_f (by decide)
    have b_9 : 0 ≤ (M 26 0 l1) ∧ (M 26 0 l1) ≤ 5 := iM 26 0 l1
    have q_10 : (M1 73 0 l1) = (M 73 0 l1) := by rw [u_1]; exact jm_une_f (by decide)
    have b_11 : 0 ≤ (M 73 0 l1) ∧ (M 73 0 l1) ≤ 5 := iM 73 0 l1
    refine wp_bk (s_fX12_bests fu hfu M1 iM1 l1 l2 l3 ⟨by omega, by omega⟩ ⟨by omega, by omega⟩ ⟨by omega, by omega⟩ (WF.kp kM1 wM wf_RC2) ) (fun v6 M7 iM7 jM7 hv6 => ?_)
    have kM7 := kM1.tr jM7 (fun _ _ _ h => h)
    refine wp_ite (fun c_12 => ?_) (fun c_12 => ?_)
    · skip
      exact wp_ret ⟨iM7, kM7, by omega⟩
    · skip
      have w_13 : (jm_w (2 * l2)) = (2 * l2) := jm_wid (by omega) (by omega)
      refine wp_sk iM7 (show 0 ≤ (jm_w (2 * l2)) ∧ (jm_w (2 * l2)) ≤ 6 by omega) kM7 (by unfold RC2; omega) (fun M10 u_14 iM10 kM10 => ?_)
      exact s_fX12_best_37 fu hfu M wM    fu l2 0 M10 iM10 kM10 ⟨by omega, by omega⟩ ⟨by omega, by omega⟩   (by omega)
set_option maxHeartbeats 4000000 in
set_option maxRecDepth 100000 in
theorem s_fX12_chooses (M : jm_M) (iM : bI bx2 M) (l1 l2 : Int) (hl1 : 0 ≤ l1 ∧ l1 ≤ 5) (hl2 : 0 ≤ l2 ∧ l2 ≤ 3) : wp (fX12_chooses M l1 l2) (fun r M1 => bI bx2 M1 ∧ Kp (TU2 l1) M M1 ∧ (0 ≤ r ∧ r ≤ 0)) := by
  have kM : Kp (TU2 l1) M M := Kp.rf
  unfold fX12_chooses
  refine wp_T ⟨by omega, by omega⟩ ?_
  refine wp_sk iM (show 0 ≤ 0 ∧ 0 ≤ 5 by omega) kM (by unfold TU2; omega) (fun M2 u_1 iM2 kM2 => ?_)
  have w_2 : (jm_w (4 * l1)) = (4 * l1) := jm_wid (by omega) (by omega)
  have w_3 : (jm_w ((jm_w (4 * l1)) + l2)) = ((jm_w (4 * l1)) + l2) := jm_wid (by omega) (by omega)
  refine wp_T ⟨by omega, by omega⟩ ?_
  have q_4 : (M2 32 0 (jm_w ((jm_w (4 * l1)) + l2))) = (M 32 0 (jm_w ((jm_w (4 * l1)) + l2))) := by rw [u_1]; exact jm_une_f (by decide)
  have b_6 : (-2147483648) ≤ (M 32 0 (jm_w ((jm_w (4 * l1)) + l2))) ∧ (M 32 0 (jm_w ((jm_w (4 * l1)) + l2))) ≤ 2147483647 := iM 32 0 (jm_w ((jm_w (4 * l1)) + l2))
  refine wp_ite (fun c_5 => ?_) (fun c_5 => ?_)
  · skip
    exact wp_ret ⟨iM2, kM2, by omega⟩
  · skip
    refine wp_T ⟨by omega, by omega⟩ ?_
    refine wp_T ⟨by omega, by omega⟩ ?_
    have q_7 : (M2 33 0 (jm_w ((jm_w (4 * l1)) + l2))) = (M 33 0 (jm_w ((jm_w (4 * l1)) + l2))) := by rw [u_1]; exact jm_une_f (by decide)
    have q_8 : (M2 26 0 l1) = 0 := by rw [u_1]; exact jm_ueq
    refine wp_bk (s_fX12_puts M2 iM2 l1 (M2 32 0 (jm_w ((jm_w (4 * l1)) + l2))) (M2 33 0 (jm_w ((jm_w (4 * l1)) + l2))) 200 ⟨by omega, by omega⟩ (bx2_in (iM2 32 0 (jm_w ((jm_w (4 * l1)) + l2)))) (bx2_in (iM2 33 0 (jm_w ((jm_w (4 * l1)) + l2)))) (jm_inL (by decide) (by decide)) (by omega)) (fun v10 M11 iM11 jM11 hv10 => ?_)
    have kM11 := kM2.tr jM11 (fun _ _ _ h => h)
    exact wp_ret ⟨iM11, kM11, by omega⟩
set_option maxHeartbeats 4000000 in
set_option maxRecDepth 100000 in
theorem s_gX12_count_9 (fu : Nat) (hfu : 4000 ≤ fu) (M0 : jm_M) (k9 : jm_M → Int → Int → Int → jm_R) (N9 : Int) (hk9 : ∀ (l1 l2 l3 : Int) (M : jm_M) (iM : bI bx2 M) (kM : Kp TA2 M0 M) (hl1 : jm_in l1) (hl2 : jm_in l2) (hl3 : 0 ≤ l3 ∧ l3 ≤ 6), 7 - l3 < N9 → wp (k9 M l1 l2 l3) (fun r M1 => bI bx2 M1 ∧ Kp TA2 M0 M1 ∧ (jm_in r))) : ∀ (l1 l2 l3 : Int) (M : jm_M) (iM : bI bx2 M) (kM : Kp TA2 M0 M) (hl1 : jm_in l1) (hl2 : jm_in l2) (hl3 : 0 ≤ l3 ∧ l3 ≤ 6), 7 - l3 < N9 + 1 → wp (gX12_count_9 fu k9 M l1 l2 l3) (fun r M1 => bI bx2 M1 ∧ Kp TA2 M0 M1 ∧ (jm_in r)) := by
  intro l1 l2 l3 M iM kM hl1 hl2 hl3 m9
  unfold gX12_count_9
  have b_2 : 0 ≤ (M 0 0 17) ∧ (M 0 0 17) ≤ 6 := iM 0 0 17
  refine wp_ite (fun c_1 => ?_) (fun c_1 => ?_)
  · skip
    have b_4 : -2147483648 ≤ l1 ∧ l1 ≤ 2147483647 := hl1
    refine wp_ite (fun c_3 => ?_) (fun c_3 => ?_)
    · skip
      have b_5 : 2 ≤ (M 0 0 1) ∧ (M 0 0 1) ≤ 5 := iM 0 0 1
      exact wp_ret ⟨iM, kM, (jm_inL (by omega) (by omega))⟩
    · skip
      refine wp_ite (fun c_6 => ?_) (fun c_6 => ?_)
      · skip
        have b_7 : 1 ≤ (M 0 0 2) ∧ (M 0 0 2) ≤ 12 := iM 0 0 2
        exact wp_ret ⟨iM, kM, (jm_inL (by omega) (by omega))⟩
      · skip
        refine wp_ite (fun c_8 => ?_) (fun c_8 => ?_)
        · skip
          exact wp_ret ⟨iM, kM, (jm_inL (by omega) (by omega))⟩
        · skip
          refine wp_ite (fun c_9 => ?_) (fun c_9 => ?_)
          · skip
            have b_10 : 0 ≤ (M 0 0 8) ∧ (M 0 0 8) ≤ 30 := iM 0 0 8
            exact wp_ret ⟨iM, kM, (jm_inL (by omega) (by omega))⟩
          · skip
            refine wp_ite (fun c_11 => ?_) (fun c_11 => ?_)
            · skip
              have b_12 : 0 ≤ (M 0 0 12) ∧ (M 0 0 12) ≤ 20 := iM 0 0 12
              exact wp_ret ⟨iM, kM, (jm_inL (by omega) (by omega))⟩
            · skip
              refine wp_ite (fun c_13 => ?_) (fun c_13 => ?_)
              · skip
                have b_14 : 0 ≤ (M 0 0 72) ∧ (M 0 0 72) ≤ 10 := iM 0 0 72
                exact wp_ret ⟨iM, kM, (jm_inL (by omega) (by omega))⟩
              · skip
                refine wp_ite (fun c_15 => ?_) (fun c_15 => ?_)
                · skip
                  have b_16 : 0 ≤ (M 0 0 75) ∧ (M 0 0 75) ≤ 20 := iM 0 0 75
                  exact wp_ret ⟨iM, kM, (jm_inL (by omega) (by omega))⟩
                · skip
                  refine wp_ite (fun c_17 => ?_) (fun c_17 => ?_)
                  · skip
                    have b_18 : 0 ≤ (M 0 0 82) ∧ (M 0 0 82) ≤ 6 := iM 0 0 82
                    exact wp_ret ⟨iM, kM, (jm_inL (by omega) (by omega))⟩
                  · skip
                    refine wp_ite (fun c_19 => ?_) (fun c_19 => ?_)
                    · skip
                      have b_20 : 0 ≤ (M 0 0 40) ∧ (M 0 0 40) ≤ 100 := iM 0 0 40
                      exact wp_ret ⟨iM, kM, (jm_inL (by omega) (by omega))⟩
                    · skip
                      refine wp_ite (fun c_21 => ?_) (fun c_21 => ?_)
                      · skip
                        have b_22 : -2147483648 ≤ l2 ∧ l2 ≤ 2147483647 := hl2
                        exact wp_ret ⟨iM, kM, hl2⟩
                      · skip
                        exact wp_ret ⟨iM, kM, (jm_inL (by decide) (by decide))⟩
  · skip
    refine wp_T ⟨by omega, by omega⟩ ?_
    have b_23 : -2147483648 ≤ l2 ∧ l2 ≤ 2147483647 := hl2
    have b_24 : 0 ≤ (M 31 0 l3) ∧ (M 31 0 l3) ≤ 4 := iM 31 0 l3
    have w_25 : -2147483648 ≤ (jm_w (l2 + (M 31 0 l3))) ∧ (jm_w (l2 + (M 31 0 l3))) ≤ 2147483647 := jm_w_in _
    refine wp_e (by exact (jm_w_in _)) (fun v24 e_26 hv24 => ?_)
    have w_27 : (jm_w (l3 + 1)) = (l3 + 1) := jm_wid (by omega) (by omega)
    refine wp_e (by exact (jm_w_in _)) (fun v26 e_28 hv26 => ?_)
    have b_29 : -2147483648 ≤ v26 ∧ v26 ≤ 2147483647 := hv26
    have b_30 : -2147483648 ≤ l1 ∧ l1 ≤ 2147483647 := hl1
    have b_31 : -2147483648 ≤ v24 ∧ v24 ≤ 2147483647 := hv24
    exact hk9 l1 v24 v26 M iM kM hl1 hv24 ⟨by omega, by omega⟩  (by omega)
set_option maxHeartbeats 4000000 in
set_option maxRecDepth 100000 in
theorem s_fX12_count_9 (fu : Nat) (hfu : 4000 ≤ fu) (M0 : jm_M) : ∀ (n : Nat) (l1 l2 l3 : Int) (M : jm_M) (iM : bI bx2 M) (kM : Kp TA2 M0 M) (hl1 : jm_in l1) (hl2 : jm_in l2) (hl3 : 0 ≤ l3 ∧ l3 ≤ 6), 7 - l3 < (n : Int) → wp (fX12_count_9 fu  n M l1 l2 l3) (fun r M1 => bI bx2 M1 ∧ Kp TA2 M0 M1 ∧ (jm_in r)) := by
  intro n
  induction n with
  | zero => intro l1 l2 l3 M iM kM hl1 hl2 hl3 hm; exfalso; omega
  | succ n ih =>
    intro l1 l2 l3 M iM kM hl1 hl2 hl3 hm
    exact s_gX12_count_9 fu hfu M0 (fX12_count_9 fu  n) (n : Int) ih l1 l2 l3 M iM kM hl1 hl2 hl3 (by omega)
set_option maxHeartbeats 4000000 in
set_option maxRecDepth 100000 in
theorem s_fX12_count (fu : Nat) (hfu : 4000 ≤ fu) (M : jm_M) (iM : bI bx2 M) (l1 : Int) (hl1 : jm_in l1) : wp (fX12_count fu M l1) (fun r M1 => bI bx2 M1 ∧ Kp TA2 M M1 ∧ (jm_in r)) := by
  have kM : Kp TA2 M M := Kp.rf
  unfold fX12_count
  refine wp_sk iM (jm_inL (by decide) (by decide)) kM (by unfold TA2; omega) (fun M1 u_1 iM1 kM1 => ?_)
  have b_2 : -2147483648 ≤ l1 ∧ l1 ≤ 2147483647 := hl1
  exact s_fX12_count_9 fu hfu M    fu l1 0 0 M1 iM1 kM1 hl1 (jm_inL (by decide) (by decide)) ⟨by omega, by omega⟩   (by omega)
set_option maxHeartbeats 4000000 in
set_option maxRecDepth 100000 in
theorem s_gX12_drop_39 (fu : Nat) (hfu : 4000 ≤ fu) (M0 : jm_M) (k39 : jm_M → Int → Int → jm_R) (N39 : Int) (hk39 : ∀ (l1 l3 : Int) (M : jm_M) (iM : bI bx2 M) (kM : Kp (TM2 26 l1) M0 M) (hl1 : 0 ≤ l1 ∧ l1 ≤ 5) (hl3 : 0 ≤ l3 ∧ l3 ≤ 29) (y0 : (5 * l1 ≤ l3 ∧ l3 ≤ 5 * l1 + M 26 0 l1 - 1)) (z0 : M 26 0 l1 = M0 26 0 l1), 30 - l3 < N39 → wp (k39 M l1 l3) (fun r M1 => bI bx2 M1 ∧ Kp (TM2 26 l1) M0 M1 ∧ ((-1) ≤ r ∧ r ≤ 5 ∧ (M1 26 0 l1 = M0 26 0 l1 - 1 ∧ r = M1 26 0 l1)))) : ∀ (l1 l3 : Int) (M : jm_M) (iM : bI bx2 M) (kM : Kp (TM2 26 l1) M0 M) (hl1 : 0 ≤ l1 ∧ l1 ≤ 5) (hl3 : 0 ≤ l3 ∧ l3 ≤ 29) (y0 : (5 * l1 ≤ l3 ∧ l3 ≤ 5 * l1 + M 26 0 l1 - 1)) (z0 : M 26 0 l1 = M0 26 0 l1), 30 - l3 < N39 + 1 → wp (gX12_drop_39 fu k39 M l1 l3) (fun r M1 => bI bx2 M1 ∧ Kp (TM2 26 l1) M0 M1 ∧ ((-1) ≤ r ∧ r ≤ 5 ∧ (M1 26 0 l1 = M0 26 0 l1 - 1 ∧ r = M1 26 0 l1))) := by
  intro l1 l3 M iM kM hl1 hl3 y0 z0 m39
  unfold gX12_drop_39
  refine wp_T ⟨by omega, by omega⟩ ?_
  have w_2 : (jm_w (5 * l1)) = (5 * l1) := jm_wid (by omega) (by omega)
  have b_3 : 0 ≤ (M 26 0 l1) ∧ (M 26 0 l1) ≤ 5 := iM 26 0 l1
  have w_4 : (jm_w ((jm_w (5 * l1)) + (M 26 0 l1))) = ((jm_w (5 * l1)) + (M 26 0 l1)) := jm_wid (by omega) (by omega)
  have w_5 : (jm_w ((jm_w ((jm_w (5 * l1)) + (M 26 0 l1))) - 1)) = ((jm_w ((jm_w (5 * l1)) + (M 26 0 l1))) - 1) := jm_wid (by omega) (by omega)
  refine wp_ite (fun c_1 => ?_) (fun c_1 => ?_)
  · skip
    refine wp_T ⟨by omega, by omega⟩ ?_
    refine wp_T ⟨by omega, by omega⟩ ?_
    have w_6 : (jm_w ((M 26 0 l1) - 1)) = ((M 26 0 l1) - 1) := jm_wid (by omega) (by omega)
    refine wp_sk iM (show 0 ≤ (jm_w ((M 26 0 l1) - 1)) ∧ (jm_w ((M 26 0 l1) - 1)) ≤ 5 by omega) kM (by unfold TM2 RC2; omega) (fun M7 u_7 iM7 kM7 => ?_)
    refine wp_T ⟨by omega, by omega⟩ ?_
    have q_8 : (M7 26 0 l1) = (jm_w ((M 26 0 l1) - 1)) := by rw [u_7]; exact jm_ueq
    exact wp_ret ⟨iM7, kM7, by omega, by omega, by omega⟩
  · skip
    have w_9 : (jm_w (l3 + 1)) = (l3 + 1) := jm_wid (by omega) (by omega)
    refine wp_T ⟨by omega, by omega⟩ ?_
    refine wp_T ⟨by omega, by omega⟩ ?_
    refine wp_sk iM (iM 27 0 (jm_w (l3 + 1))) kM (by unfold TM2 RC2; omega) (fun M13 u_10 iM13 kM13 => ?_)
    refine wp_T ⟨by omega, by omega⟩ ?_
    refine wp_T ⟨by omega, by omega⟩ ?_
    have q_11 : (M13 28 0 (jm_w (l3 + 1))) = (M 28 0 (jm_w (l3 + 1))) := by rw [u_10]; exact jm_une_f (by decide)
    refine wp_sk iM13 (bx2_in (iM13 28 0 (jm_w (l3 + 1)))) kM13 (by unfold TM2 RC2; omega) (fun M17 u_12 iM17 kM17 => ?_)
    refine wp_T ⟨by omega, by omega⟩ ?_
    refine wp_T ⟨by omega, by omega⟩ ?_
    have q_13 : (M17 29 0 (jm_w (l3 + 1))) = (M13 29 0 (jm_w (l3 + 1))) := by rw [u_12]; exact jm_une_f (by decide)
    have q_14 : (M13 29 0 (jm_w (l3 + 1))) = (M 29 0 (jm_w (l3 + 1))) := by rw [u_10]; exact jm_une_f (by decide)
    refine wp_sk iM17 (bx2_in (iM17 29 0 (jm_w (l3 + 1)))) kM17 (by unfold TM2 RC2; omega) (fun M21 u_15 iM21 kM21 => ?_)
    refine wp_e (by exact (jm_w_in _)) (fun v22 e_16 hv22 => ?_)
    have b_17 : -2147483648 ≤ v22 ∧ v22 ≤ 2147483647 := hv22
    have q_18 : (M21 26 0 l1) = (M17 26 0 l1) := by rw [u_15]; exact jm_une_f (by decide)
    have q_19 : (M17 26 0 l1) = (M13 26 0 l1) := by rw [u_12]; exact jm_une_f (by decide)
    have q_20 : (M13 26 0 l1) = (M 26 0 l1) := by rw [u_10]; exact jm_une_f (by decide)
    exact hk39 l1 v22 M21 iM21 kM21 ⟨by omega, by omega⟩ ⟨by omega, by omega⟩ (by omega) (by omega) (by omega)
set_option maxHeartbeats 4000000 in
set_option maxRecDepth 100000 in
theorem s_fX12_drop_39 (fu : Nat) (hfu : 4000 ≤ fu) (M0 : jm_M) : ∀ (n : Nat) (l1 l3 : Int) (M : jm_M) (iM : bI bx2 M) (kM : Kp (TM2 26 l1) M0 M) (hl1 : 0 ≤ l1 ∧ l1 ≤ 5) (hl3 : 0 ≤ l3 ∧ l3 ≤ 29) (y0 : (5 * l1 ≤ l3 ∧ l3 ≤ 5 * l1 + M 26 0 l1 - 1)) (z0 : M 26 0 l1 = M0 26 0 l1), 30 - l3 < (n : Int) → wp (fX12_drop_39 fu  n M l1 l3) (fun r M1 => bI bx2 M1 ∧ Kp (TM2 26 l1) M0 M1 ∧ ((-1) ≤ r ∧ r ≤ 5 ∧ (M1 26 0 l1 = M0 26 0 l1 - 1 ∧ r = M1 26 0 l1))) := by
  intro n
  induction n with
  | zero => intro l1 l3 M iM kM hl1 hl3 y0 z0 hm; exfalso; omega
  | succ n ih =>
    intro l1 l3 M iM kM hl1 hl3 y0 z0 hm
    exact s_gX12_drop_39 fu hfu M0 (fX12_drop_39 fu  n) (n : Int) ih l1 l3 M iM kM hl1 hl3 y0 z0 (by omega)
set_option maxHeartbeats 4000000 in
set_option maxRecDepth 100000 in
theorem s_fX12_drop (fu : Nat) (hfu : 4000 ≤ fu) (M : jm_M) (iM : bI bx2 M) (l1 l2 : Int) (hl1 : jm_in l1) (hl2 : jm_in l2) : wp (fX12_drop fu M l1 l2) (fun r M1 => bI bx2 M1 ∧ Kp (TM2 26 l1) M M1 ∧ ((-1) ≤ r ∧ r ≤ 5 ∧ (((0 ≤ l1 ∧ l1 < M 0 0 17 ∧ 0 ≤ l2 ∧ l2 < M 26 0 l1) ∧ M1 26 0 l1 = M 26 0 l1 - 1 ∧ r = M1 26 0 l1) ∨ (¬ (0 ≤ l1 ∧ l1 < M 0 0 17 ∧ 0 ≤ l2 ∧ l2 < M 26 0 l1) ∧ r = -1 ∧ M1 26 0 l1 = M 26 0 l1)))) := by
  have kM : Kp (TM2 26 l1) M M := Kp.rf
  unfold fX12_drop
  refine wp_sk iM (jm_inL (by decide) (by decide)) kM (by unfold TM2 RC2; omega) (fun M1 u_1 iM1 kM1 => ?_)
  refine wp_bp (s_fX12_isCar M1 iM1 l1 hl1 ) (fun v2 hv2 => ?_)
  have b_2 : -2147483648 ≤ l1 ∧ l1 ≤ 2147483647 := hl1
  have q_3 : (M1 0 0 17) = (M 0 0 17) := by rw [u_1]; exact jm_une_k (by decide)
  have b_4 : 0 ≤ (M 0 0 17) ∧ (M 0 0 17) ≤ 6 := iM 0 0 17
  refine wp_ite (fun c_5 => ?_) (fun c_5 => ?_)
  · skip
    have q_6 : (M1 26 0 l1) = (M 26 0 l1) := by rw [u_1]; exact jm_une_f (by decide)
    have b_7 : 0 ≤ (M 26 0 l1) ∧ (M 26 0 l1) ≤ 5 := iM 26 0 l1
    exact wp_ret ⟨iM1, kM1, by omega, by omega, by omega⟩
  · skip
    refine wp_T ⟨by omega, by omega⟩ ?_
    have q_8 : (M1 26 0 l1) = (M 26 0 l1) := by rw [u_1]; exact jm_une_f (by decide)
    have r_9 : (jm_w ((M1 26 0 l1) - 1)) = (jm_w ((M 26 0 l1) - 1)) := congrArg jm_w (by omega)
    have b_10 : 0 ≤ (M 26 0 l1) ∧ (M 26 0 l1) ≤ 5 := iM 26 0 l1
    have w_11 : (jm_w ((M 26 0 l1) - 1)) = ((M 26 0 l1) - 1) := jm_wid (by omega) (by omega)
    refine wp_bp (s_fX12_in M1 iM1 l2 0 (jm_w ((M1 26 0 l1) - 1)) hl2 ⟨by omega, by omega⟩ ⟨by omega, by omega⟩ ) (fun v8 hv8 => ?_)
    have b_12 : -2147483648 ≤ l2 ∧ l2 ≤ 2147483647 := hl2
    refine wp_ite (fun c_13 => ?_) (fun c_13 => ?_)
    · skip
      exact wp_ret ⟨iM1, kM1, by omega, by omega, by omega⟩
    · skip
      have w_14 : (jm_w (5 * l1)) = (5 * l1) := jm_wid (by omega) (by omega)
      have w_15 : (jm_w ((jm_w (5 * l1)) + l2)) = ((jm_w (5 * l1)) + l2) := jm_wid (by omega) (by omega)
      refine wp_e (by exact (jm_w_in _)) (fun v12 e_16 hv12 => ?_)
      have b_17 : -2147483648 ≤ v12 ∧ v12 ≤ 2147483647 := hv12
      exact wp_mono (s_fX12_drop_39 fu hfu M    fu l1 v12 M1 iM1 kM1 ⟨by omega, by omega⟩ ⟨by omega, by omega⟩ (by omega) (by omega)  (by omega)) (fun r M1 q => ⟨q.1, q.2.1, by have := q.2.2; omega⟩)
set_option maxHeartbeats 4000000 in
set_option maxRecDepth 100000 in
theorem s_fX12_end (M : jm_M) (iM : bI bx2 M) (l1 : Int) (hl1 : jm_in l1) : wp (fX12_end M l1) (fun r M1 => bI bx2 M1 ∧ Kp (TM2 0 40) M M1 ∧ (0 ≤ r ∧ r ≤ 1 ∧ (((0 ≤ l1 ∧ l1 ≤ M 0 0 40) ∧ r = 1 ∧ M1 0 0 40 = l1) ∨ (¬ (0 ≤ l1 ∧ l1 ≤ M 0 0 40) ∧ r = 0 ∧ M1 0 0 40 = M 0 0 40)))) := by
  have kM : Kp (TM2 0 40) M M := Kp.rf
  unfold fX12_end
  refine wp_sk iM (jm_inL (by decide) (by decide)) kM (by unfold TM2 RC2; omega) (fun M1 u_1 iM1 kM1 => ?_)
  have q_2 : (M1 0 0 40) = (M 0 0 40) := by rw [u_1]; exact jm_une_k (by decide)
  have b_3 : 0 ≤ (M 0 0 40) ∧ (M 0 0 40) ≤ 100 := iM 0 0 40
  refine wp_bp (s_fX12_in M1 iM1 l1 0 (M1 0 0 40) hl1 ⟨by omega, by omega⟩ ⟨by omega, by omega⟩ ) (fun v3 hv3 => ?_)
  have b_4 : -2147483648 ≤ l1 ∧ l1 ≤ 2147483647 := hl1
  refine wp_ite (fun c_5 => ?_) (fun c_5 => ?_)
  · skip
    exact wp_ret ⟨iM1, kM1, by omega, by omega, by omega⟩
  · skip
    refine wp_sk iM1 (show 0 ≤ l1 ∧ l1 ≤ 100 by omega) kM1 (by unfold TM2 RC2; omega) (fun M7 u_6 iM7 kM7 => ?_)
    have q_7 : (M7 0 0 40) = l1 := by rw [u_6]; exact jm_ueq
    exact wp_ret ⟨iM7, kM7, by omega, by omega, by omega⟩
set_option maxHeartbeats 4000000 in
set_option maxRecDepth 100000 in
theorem s_gX12_finding_71 (fu : Nat) (hfu : 4000 ≤ fu) (M0 : jm_M) : ∀ (l1 l2 l3 l4 s0 : Int) (M : jm_M) (iM : bI bx2 M) (kM : Kp (TM2 0 75) M0 M) (hl1 : jm_in l1) (hl2 : jm_in l2) (hl3 : jm_in l3) (hl4 : jm_in l4) (hs0 : 0 ≤ s0 ∧ s0 ≤ 1) (y0 : ((s0 = 0 ∧ ¬ (0 ≤ l1 ∧ l1 ≤ 99 ∧ 0 ≤ l2 ∧ l2 < M 0 0 17 ∧ ((l3 = 0 ∧ 0 ≤ l4 ∧ l4 ≤ 999) ∨ (l3 = 1 ∧ -60000 ≤ l4 ∧ l4 ≤ 60000)) ∧ M 0 0 75 < 20)) ∨ (s0 = 1 ∧ 0 ≤ l1 ∧ l1 ≤ 99 ∧ 0 ≤ l2 ∧ l2 < M 0 0 17 ∧ ((l3 = 0 ∧ 0 ≤ l4 ∧ l4 ≤ 999) ∨ (l3 = 1 ∧ -60000 ≤ l4 ∧ l4 ≤ 60000)) ∧ M 0 0 75 < 20))) (z0 : M 0 0 75 = M0 0 0 75 ∧ M 0 0 1 = M0 0 0 1 ∧ M 0 0 2 = M0 0 0 2 ∧ M 0 0 17 = M0 0 0 17), wp (gX12_finding_71 fu  M l1 l2 l3 l4 s0) (fun r M1 => bI bx2 M1 ∧ Kp (TM2 0 75) M0 M1 ∧ ((-1) ≤ r ∧ r ≤ 20 ∧ ((r = -1 ∧ ¬ (0 ≤ l1 ∧ l1 ≤ 99 ∧ 0 ≤ l2 ∧ l2 < M0 0 0 17 ∧ ((l3 = 0 ∧ 0 ≤ l4 ∧ l4 ≤ 999) ∨ (l3 = 1 ∧ -60000 ≤ l4 ∧ l4 ≤ 60000)) ∧ M0 0 0 75 < 20) ∧ M1 0 0 75 = M0 0 0 75) ∨ ((0 ≤ l1 ∧ l1 ≤ 99 ∧ 0 ≤ l2 ∧ l2 < M0 0 0 17 ∧ ((l3 = 0 ∧ 0 ≤ l4 ∧ l4 ≤ 999) ∨ (l3 = 1 ∧ -60000 ≤ l4 ∧ l4 ≤ 60000))) ∧ M0 0 0 75 < 20 ∧ M1 0 0 75 = M0 0 0 75 + 1 ∧ r = M1 0 0 75)))) := by
  intro l1 l2 l3 l4 s0 M iM kM hl1 hl2 hl3 hl4 hs0 y0 z0
  unfold gX12_finding_71
  refine wp_ite (fun c_1 => ?_) (fun c_1 => ?_)
  · skip
    have b_2 : 0 ≤ (M 0 0 75) ∧ (M 0 0 75) ≤ 20 := iM 0 0 75
    have b_3 : 2 ≤ (M 0 0 1) ∧ (M 0 0 1) ≤ 5 := iM 0 0 1
    have b_4 : 1 ≤ (M 0 0 2) ∧ (M 0 0 2) ≤ 12 := iM 0 0 2
    have b_5 : 0 ≤ (M 0 0 17) ∧ (M 0 0 17) ≤ 6 := iM 0 0 17
    exact wp_ret ⟨iM, kM, by omega, by omega, by omega⟩
  · skip
    have b_6 : 0 ≤ (M 0 0 75) ∧ (M 0 0 75) ≤ 20 := iM 0 0 75
    refine wp_T ⟨by omega, by omega⟩ ?_
    refine wp_sk iM hl1 kM (by unfold TM2 RC2; omega) (fun M4 u_7 iM4 kM4 => ?_)
    have q_8 : (M4 0 0 75) = (M 0 0 75) := by rw [u_7]; exact jm_une_f (by decide)
    refine wp_T ⟨by omega, by omega⟩ ?_
    refine wp_sk iM4 hl2 kM4 (by unfold TM2 RC2; omega) (fun M7 u_9 iM7 kM7 => ?_)
    have q_10 : (M7 0 0 75) = (M4 0 0 75) := by rw [u_9]; exact jm_une_f (by decide)
    refine wp_T ⟨by omega, by omega⟩ ?_
    refine wp_sk iM7 hl3 kM7 (by unfold TM2 RC2; omega) (fun M10 u_11 iM10 kM10 => ?_)
    have q_12 : (M10 0 0 75) = (M7 0 0 75) := by rw [u_11]; exact jm_une_f (by decide)
    refine wp_T ⟨by omega, by omega⟩ ?_
    refine wp_sk iM10 hl4 kM10 (by unfold TM2 RC2; omega) (fun M13 u_13 iM13 kM13 => ?_)
    have q_14 : (M13 0 0 75) = (M10 0 0 75) := by rw [u_13]; exact jm_une_f (by decide)
    have r_15 : (jm_w ((M13 0 0 75) + 1)) = (jm_w ((M 0 0 75) + 1)) := congrArg jm_w (by omega)
    have w_16 : (jm_w ((M 0 0 75) + 1)) = ((M 0 0 75) + 1) := jm_wid (by omega) (by omega)
    refine wp_sk iM13 (show 0 ≤ (jm_w ((M13 0 0 75) + 1)) ∧ (jm_w ((M13 0 0 75) + 1)) ≤ 20 by omega) kM13 (by unfold TM2 RC2; omega) (fun M15 u_17 iM15 kM15 => ?_)
    have q_18 : (M15 0 0 75) = (jm_w ((M13 0 0 75) + 1)) := by rw [u_17]; exact jm_ueq
    have q_19 : (M15 0 0 1) = (M13 0 0 1) := by rw [u_17]; exact jm_une_k (by decide)
    have q_20 : (M13 0 0 1) = (M10 0 0 1) := by rw [u_13]; exact jm_une_f (by decide)
    have q_21 : (M10 0 0 1) = (M7 0 0 1) := by rw [u_11]; exact jm_une_f (by decide)
    have q_22 : (M7 0 0 1) = (M4 0 0 1) := by rw [u_9]; exact jm_une_f (by decide)
    have q_23 : (M4 0 0 1) = (M 0 0 1) := by rw [u_7]; exact jm_une_f (by decide)
    have b_24 : 2 ≤ (M 0 0 1) ∧ (M 0 0 1) ≤ 5 := iM 0 0 1
    have q_25 : (M15 0 0 2) = (M13 0 0 2) := by rw [u_17]; exact jm_une_k (by decide)
    have q_26 : (M13 0 0 2) = (M10 0 0 2) := by rw [u_13]; exact jm_une_f (by decide)
    have q_27 : (M10 0 0 2) = (M7 0 0 2) := by rw [u_11]; exact jm_une_f (by decide)
    have q_28 : (M7 0 0 2) = (M4 0 0 2) := by rw [u_9]; exact jm_une_f (by decide)
    have q_29 : (M4 0 0 2) = (M 0 0 2) := by rw [u_7]; exact jm_une_f (by decide)
    have b_30 : 1 ≤ (M 0 0 2) ∧ (M 0 0 2) ≤ 12 := iM 0 0 2
    have q_31 : (M15 0 0 17) = (M13 0 0 17) := by rw [u_17]; exact jm_une_k (by decide)
    have q_32 : (M13 0 0 17) = (M10 0 0 17) := by rw [u_13]; exact jm_une_f (by decide)
    have q_33 : (M10 0 0 17) = (M7 0 0 17) := by rw [u_11]; exact jm_une_f (by decide)
    have q_34 : (M7 0 0 17) = (M4 0 0 17) := by rw [u_9]; exact jm_une_f (by decide)
    have q_35 : (M4 0 0 17) = (M 0 0 17) := by rw [u_7]; exact jm_une_f (by decide)
    have b_36 : 0 ≤ (M 0 0 17) ∧ (M 0 0 17) ≤ 6 := iM 0 0 17
    exact wp_ret ⟨iM15, kM15, by omega, by omega, by omega⟩
set_option maxHeartbeats 4000000 in
set_option maxRecDepth 100000 in
theorem s_gX12_finding_57 (fu : Nat) (hfu : 4000 ≤ fu) (M0 : jm_M) : ∀ (l1 l2 l3 l4 : Int) (M : jm_M) (iM : bI bx2 M) (kM : Kp (TM2 0 75) M0 M) (hl1 : 0 ≤ l1 ∧ l1 ≤ 99) (hl2 : 0 ≤ l2 ∧ l2 ≤ 5) (hl3 : 0 ≤ l3 ∧ l3 ≤ 1) (hl4 : (-60000) ≤ l4 ∧ l4 ≤ 60000) (y0 : (0 ≤ l1 ∧ l1 ≤ 99 ∧ 0 ≤ l2 ∧ l2 < M 0 0 17 ∧ ((l3 = 0 ∧ 0 ≤ l4 ∧ l4 ≤ 999) ∨ (l3 = 1 ∧ -60000 ≤ l4 ∧ l4 ≤ 60000)))) (z0 : M 0 0 75 = M0 0 0 75 ∧ M 0 0 1 = M0 0 0 1 ∧ M 0 0 2 = M0 0 0 2 ∧ M 0 0 17 = M0 0 0 17), wp (gX12_finding_57 fu  M l1 l2 l3 l4) (fun r M1 => bI bx2 M1 ∧ Kp (TM2 0 75) M0 M1 ∧ ((-1) ≤ r ∧ r ≤ 20 ∧ ((r = -1 ∧ ¬ (0 ≤ l1 ∧ l1 ≤ 99 ∧ 0 ≤ l2 ∧ l2 < M0 0 0 17 ∧ ((l3 = 0 ∧ 0 ≤ l4 ∧ l4 ≤ 999) ∨ (l3 = 1 ∧ -60000 ≤ l4 ∧ l4 ≤ 60000)) ∧ M0 0 0 75 < 20) ∧ M1 0 0 75 = M0 0 0 75) ∨ ((0 ≤ l1 ∧ l1 ≤ 99 ∧ 0 ≤ l2 ∧ l2 < M0 0 0 17 ∧ ((l3 = 0 ∧ 0 ≤ l4 ∧ l4 ≤ 999) ∨ (l3 = 1 ∧ -60000 ≤ l4 ∧ l4 ≤ 60000))) ∧ M0 0 0 75 < 20 ∧ M1 0 0 75 = M0 0 0 75 + 1 ∧ r = M1 0 0 75)))) := by
  intro l1 l2 l3 l4 M iM kM hl1 hl2 hl3 hl4 y0 z0
  unfold gX12_finding_57
  have b_2 : 0 ≤ (M 0 0 75) ∧ (M 0 0 75) ≤ 20 := iM 0 0 75
  refine wp_ite (fun c_1 => ?_) (fun c_1 => ?_)
  · skip
    have b_3 : 0 ≤ (M 0 0 17) ∧ (M 0 0 17) ≤ 6 := iM 0 0 17
    have b_4 : 2 ≤ (M 0 0 1) ∧ (M 0 0 1) ≤ 5 := iM 0 0 1
    have b_5 : 1 ≤ (M 0 0 2) ∧ (M 0 0 2) ≤ 12 := iM 0 0 2
    exact s_gX12_finding_71 fu hfu M0    l1 l2 l3 l4 0 M iM kM (jm_inL (by omega) (by omega)) (jm_inL (by omega) (by omega)) (jm_inL (by omega) (by omega)) (jm_inL (by omega) (by omega)) ⟨by omega, by omega⟩ (by omega) (by omega) 
  · skip
    have b_6 : 0 ≤ (M 0 0 17) ∧ (M 0 0 17) ≤ 6 := iM 0 0 17
    have b_7 : 2 ≤ (M 0 0 1) ∧ (M 0 0 1) ≤ 5 := iM 0 0 1
    have b_8 : 1 ≤ (M 0 0 2) ∧ (M 0 0 2) ≤ 12 := iM 0 0 2
    exact s_gX12_finding_71 fu hfu M0    l1 l2 l3 l4 1 M iM kM (jm_inL (by omega) (by omega)) (jm_inL (by omega) (by omega)) (jm_inL (by omega) (by omega)) (jm_inL (by omega) (by omega)) ⟨by omega, by omega⟩ (by omega) (by omega) 
set_option maxHeartbeats 4000000 in
set_option maxRecDepth 100000 in
theorem s_gX12_finding_37 (fu : Nat) (hfu : 4000 ≤ fu) (M0 : jm_M) : ∀ (l1 l2 l3 l4 : Int) (M : jm_M) (iM : bI bx2 M) (kM : Kp (TM2 0 75) M0 M) (hl1 : 0 ≤ l1 ∧ l1 ≤ 99) (hl2 : 0 ≤ l2 ∧ l2 ≤ 5) (hl3 : jm_in l3) (hl4 : jm_in l4) (y0 : (0 ≤ l1 ∧ l1 ≤ 99 ∧ 0 ≤ l2 ∧ l2 < M 0 0 17 ∧ ¬ (l3 = 0 ∧ 0 ≤ l4 ∧ l4 ≤ 999))) (z0 : M 0 0 75 = M0 0 0 75 ∧ M 0 0 1 = M0 0 0 1 ∧ M 0 0 2 = M0 0 0 2 ∧ M 0 0 17 = M0 0 0 17), wp (gX12_finding_37 fu  M l1 l2 l3 l4) (fun r M1 => bI bx2 M1 ∧ Kp (TM2 0 75) M0 M1 ∧ ((-1) ≤ r ∧ r ≤ 20 ∧ ((r = -1 ∧ ¬ (0 ≤ l1 ∧ l1 ≤ 99 ∧ 0 ≤ l2 ∧ l2 < M0 0 0 17 ∧ ((l3 = 0 ∧ 0 ≤ l4 ∧ l4 ≤ 999) ∨ (l3 = 1 ∧ -60000 ≤ l4 ∧ l4 ≤ 60000)) ∧ M0 0 0 75 < 20) ∧ M1 0 0 75 = M0 0 0 75) ∨ ((0 ≤ l1 ∧ l1 ≤ 99 ∧ 0 ≤ l2 ∧ l2 < M0 0 0 17 ∧ ((l3 = 0 ∧ 0 ≤ l4 ∧ l4 ≤ 999) ∨ (l3 = 1 ∧ -60000 ≤ l4 ∧ l4 ≤ 60000))) ∧ M0 0 0 75 < 20 ∧ M1 0 0 75 = M0 0 0 75 + 1 ∧ r = M1 0 0 75)))) := by
  intro l1 l2 l3 l4 M iM kM hl1 hl2 hl3 hl4 y0 z0
  unfold gX12_finding_37
  have b_2 : -2147483648 ≤ l3 ∧ l3 ≤ 2147483647 := hl3
  refine wp_ite (fun c_1 => ?_) (fun c_1 => ?_)
  · skip
    refine wp_bp (s_fX12_in M iM l4 (-60000) 60000 hl4 ⟨by omega, by omega⟩ ⟨by omega, by omega⟩ ) (fun v2 hv2 => ?_)
    have b_3 : -2147483648 ≤ l4 ∧ l4 ≤ 2147483647 := hl4
    refine wp_ite (fun c_4 => ?_) (fun c_4 => ?_)
    · skip
      have b_5 : 0 ≤ (M 0 0 17) ∧ (M 0 0 17) ≤ 6 := iM 0 0 17
      have b_6 : 0 ≤ (M 0 0 75) ∧ (M 0 0 75) ≤ 20 := iM 0 0 75
      have b_7 : 2 ≤ (M 0 0 1) ∧ (M 0 0 1) ≤ 5 := iM 0 0 1
      have b_8 : 1 ≤ (M 0 0 2) ∧ (M 0 0 2) ≤ 12 := iM 0 0 2
      exact s_gX12_finding_71 fu hfu M0    l1 l2 l3 l4 0 M iM kM (jm_inL (by omega) (by omega)) (jm_inL (by omega) (by omega)) hl3 hl4 ⟨by omega, by omega⟩ (by omega) (by omega) 
    · skip
      have b_9 : 0 ≤ (M 0 0 17) ∧ (M 0 0 17) ≤ 6 := iM 0 0 17
      have b_10 : 0 ≤ (M 0 0 75) ∧ (M 0 0 75) ≤ 20 := iM 0 0 75
      have b_11 : 2 ≤ (M 0 0 1) ∧ (M 0 0 1) ≤ 5 := iM 0 0 1
      have b_12 : 1 ≤ (M 0 0 2) ∧ (M 0 0 2) ≤ 12 := iM 0 0 2
      exact s_gX12_finding_57 fu hfu M0    l1 l2 l3 l4 M iM kM ⟨by omega, by omega⟩ ⟨by omega, by omega⟩ ⟨by omega, by omega⟩ ⟨by omega, by omega⟩ (by omega) (by omega) 
  · skip
    have b_13 : -2147483648 ≤ l4 ∧ l4 ≤ 2147483647 := hl4
    have b_14 : 0 ≤ (M 0 0 17) ∧ (M 0 0 17) ≤ 6 := iM 0 0 17
    have b_15 : 0 ≤ (M 0 0 75) ∧ (M 0 0 75) ≤ 20 := iM 0 0 75
    have b_16 : 2 ≤ (M 0 0 1) ∧ (M 0 0 1) ≤ 5 := iM 0 0 1
    have b_17 : 1 ≤ (M 0 0 2) ∧ (M 0 0 2) ≤ 12 := iM 0 0 2
    exact s_gX12_finding_71 fu hfu M0    l1 l2 l3 l4 0 M iM kM (jm_inL (by omega) (by omega)) (jm_inL (by omega) (by omega)) hl3 hl4 ⟨by omega, by omega⟩ (by omega) (by omega) 
set_option maxHeartbeats 4000000 in
set_option maxRecDepth 100000 in
theorem s_fX12_finding (fu : Nat) (hfu : 4000 ≤ fu) (M : jm_M) (iM : bI bx2 M) (l1 l2 l3 l4 : Int) (hl1 : jm_in l1) (hl2 : jm_in l2) (hl3 : jm_in l3) (hl4 : jm_in l4) : wp (fX12_finding fu M l1 l2 l3 l4) (fun r M1 => bI bx2 M1 ∧ Kp (TM2 0 75) M M1 ∧ ((-1) ≤ r ∧ r ≤ 20 ∧ ((r = -1 ∧ ¬ (0 ≤ l1 ∧ l1 ≤ 99 ∧ 0 ≤ l2 ∧ l2 < M 0 0 17 ∧ ((l3 = 0 ∧ 0 ≤ l4 ∧ l4 ≤ 999) ∨ (l3 = 1 ∧ -60000 ≤ l4 ∧ l4 ≤ 60000)) ∧ M 0 0 75 < 20) ∧ M1 0 0 75 = M 0 0 75) ∨ ((0 ≤ l1 ∧ l1 ≤ 99 ∧ 0 ≤ l2 ∧ l2 < M 0 0 17 ∧ ((l3 = 0 ∧ 0 ≤ l4 ∧ l4 ≤ 999) ∨ (l3 = 1 ∧ -60000 ≤ l4 ∧ l4 ≤ 60000))) ∧ M 0 0 75 < 20 ∧ M1 0 0 75 = M 0 0 75 + 1 ∧ r = M1 0 0 75)))) := by
  have kM : Kp (TM2 0 75) M M := Kp.rf
  unfold fX12_finding
  refine wp_sk iM (jm_inL (by decide) (by decide)) kM (by unfold TM2 RC2; omega) (fun M1 u_1 iM1 kM1 => ?_)
  refine wp_bp (s_fX12_isDay M1 iM1 l1 hl1 ) (fun v2 hv2 => ?_)
  have b_2 : -2147483648 ≤ l1 ∧ l1 ≤ 2147483647 := hl1
  refine wp_ite (fun c_3 => ?_) (fun c_3 => ?_)
  · skip
    have b_4 : -2147483648 ≤ l2 ∧ l2 ≤ 2147483647 := hl2
    have b_5 : -2147483648 ≤ l3 ∧ l3 ≤ 2147483647 := hl3
    have b_6 : -2147483648 ≤ l4 ∧ l4 ≤ 2147483647 := hl4
    have q_7 : (M1 0 0 17) = (M 0 0 17) := by rw [u_1]; exact jm_une_k (by decide)
    have q_8 : (M1 0 0 75) = (M 0 0 75) := by rw [u_1]; exact jm_une_k (by decide)
    have b_9 : 0 ≤ (M 0 0 17) ∧ (M 0 0 17) ≤ 6 := iM 0 0 17
    have b_10 : 0 ≤ (M 0 0 75) ∧ (M 0 0 75) ≤ 20 := iM 0 0 75
    have q_11 : (M1 0 0 1) = (M 0 0 1) := by rw [u_1]; exact jm_une_k (by decide)
    have b_12 : 2 ≤ (M 0 0 1) ∧ (M 0 0 1) ≤ 5 := iM 0 0 1
    have q_13 : (M1 0 0 2) = (M 0 0 2) := by rw [u_1]; exact jm_une_k (by decide)
    have b_14 : 1 ≤ (M 0 0 2) ∧ (M 0 0 2) ≤ 12 := iM 0 0 2
    exact s_gX12_finding_71 fu hfu M    l1 l2 l3 l4 0 M1 iM1 kM1 hl1 hl2 hl3 hl4 ⟨by omega, by omega⟩ (by omega) (by omega) 
  · skip
    refine wp_bp (s_fX12_isCar M1 iM1 l2 hl2 ) (fun v6 hv6 => ?_)
    have b_15 : -2147483648 ≤ l2 ∧ l2 ≤ 2147483647 := hl2
    have q_16 : (M1 0 0 17) = (M 0 0 17) := by rw [u_1]; exact jm_une_k (by decide)
    have b_17 : 0 ≤ (M 0 0 17) ∧ (M 0 0 17) ≤ 6 := iM 0 0 17
    refine wp_ite (fun c_18 => ?_) (fun c_18 => ?_)
    · skip
      have b_19 : -2147483648 ≤ l3 ∧ l3 ≤ 2147483647 := hl3
      have b_20 : -2147483648 ≤ l4 ∧ l4 ≤ 2147483647 := hl4
      have q_21 : (M1 0 0 75) = (M 0 0 75) := by rw [u_1]; exact jm_une_k (by decide)
      have b_22 : 0 ≤ (M 0 0 75) ∧ (M 0 0 75) ≤ 20 := iM 0 0 75
      have q_23 : (M1 0 0 1) = (M 0 0 1) := by rw [u_1]; exact jm_une_k (by decide)
      have b_24 : 2 ≤ (M 0 0 1) ∧ (M 0 0 1) ≤ 5 := iM 0 0 1
      have q_25 : (M1 0 0 2) = (M 0 0 2) := by rw [u_1]; exact jm_une_k (by decide)
      have b_26 : 1 ≤ (M 0 0 2) ∧ (M 0 0 2) ≤ 12 := iM 0 0 2
      exact s_gX12_finding_71 fu hfu M    l1 l2 l3 l4 0 M1 iM1 kM1 hl1 hl2 hl3 hl4 ⟨by omega, by omega⟩ (by omega) (by omega) 
    · skip
      have b_28 : -2147483648 ≤ l3 ∧ l3 ≤ 2147483647 := hl3
      refine wp_ite (fun c_27 => ?_) (fun c_27 => ?_)
      · skip
        refine wp_bp (s_fX12_in M1 iM1 l4 0 999 hl4 ⟨by omega, by omega⟩ ⟨by omega, by omega⟩ ) (fun v11 hv11 => ?_)
        have b_29 : -2147483648 ≤ l4 ∧ l4 ≤ 2147483647 := hl4
        refine wp_ite (fun c_30 => ?_) (fun c_30 => ?_)
        · skip
          have q_31 : (M1 0 0 75) = (M 0 0 75) := by rw [u_1]; exact jm_une_k (by decide)
          have b_32 : 0 ≤ (M 0 0 75) ∧ (M 0 0 75) ≤ 20 := iM 0 0 75
          have q_33 : (M1 0 0 1) = (M 0 0 1) := by rw [u_1]; exact jm_une_k (by decide)
          have b_34 : 2 ≤ (M 0 0 1) ∧ (M 0 0 1) ≤ 5 := iM 0 0 1
          have q_35 : (M1 0 0 2) = (M 0 0 2) := by rw [u_1]; exact jm_une_k (by decide)
          have b_36 : 1 ≤ (M 0 0 2) ∧ (M 0 0 2) ≤ 12 := iM 0 0 2
          exact s_gX12_finding_37 fu hfu M    l1 l2 l3 l4 M1 iM1 kM1 ⟨by omega, by omega⟩ ⟨by omega, by omega⟩ hl3 hl4 (by omega) (by omega) 
        · skip
          have q_37 : (M1 0 0 75) = (M 0 0 75) := by rw [u_1]; exact jm_une_k (by decide)
          have b_38 : 0 ≤ (M 0 0 75) ∧ (M 0 0 75) ≤ 20 := iM 0 0 75
          have q_39 : (M1 0 0 1) = (M 0 0 1) := by rw [u_1]; exact jm_une_k (by decide)
          have b_40 : 2 ≤ (M 0 0 1) ∧ (M 0 0 1) ≤ 5 := iM 0 0 1
          have q_41 : (M1 0 0 2) = (M 0 0 2) := by rw [u_1]; exact jm_une_k (by decide)
          have b_42 : 1 ≤ (M 0 0 2) ∧ (M 0 0 2) ≤ 12 := iM 0 0 2
          exact s_gX12_finding_57 fu hfu M    l1 l2 l3 l4 M1 iM1 kM1 ⟨by omega, by omega⟩ ⟨by omega, by omega⟩ ⟨by omega, by omega⟩ ⟨by omega, by omega⟩ (by omega) (by omega) 
      · skip
        have b_43 : -2147483648 ≤ l4 ∧ l4 ≤ 2147483647 := hl4
        have q_44 : (M1 0 0 75) = (M 0 0 75) := by rw [u_1]; exact jm_une_k (by decide)
        have b_45 : 0 ≤ (M 0 0 75) ∧ (M 0 0 75) ≤ 20 := iM 0 0 75
        have q_46 : (M1 0 0 1) = (M 0 0 1) := by rw [u_1]; exact jm_une_k (by decide)
        have b_47 : 2 ≤ (M 0 0 1) ∧ (M 0 0 1) ≤ 5 := iM 0 0 1
        have q_48 : (M1 0 0 2) = (M 0 0 2) := by rw [u_1]; exact jm_une_k (by decide)
        have b_49 : 1 ≤ (M 0 0 2) ∧ (M 0 0 2) ≤ 12 := iM 0 0 2
        exact s_gX12_finding_37 fu hfu M    l1 l2 l3 l4 M1 iM1 kM1 ⟨by omega, by omega⟩ ⟨by omega, by omega⟩ hl3 hl4 (by omega) (by omega) 
set_option maxHeartbeats 4000000 in
set_option maxRecDepth 100000 in
theorem s_gX12_flag_18 (fu : Nat) (hfu : 4000 ≤ fu) (M0 : jm_M) : ∀ (l1 l2 l3 l4 : Int) (M : jm_M) (iM : bI bx2 M) (kM : Kp (TM2 0 12) M0 M) (hl1 : (-1) ≤ l1 ∧ l1 ≤ 4) (hl2 : jm_in l2) (hl3 : jm_in l3) (hl4 : jm_in l4) (y0 : (l1 = -1 ∨ (0 ≤ l1 ∧ l1 < M 0 0 1))) (z0 : M 0 0 12 = M0 0 0 12 ∧ M 0 0 1 = M0 0 0 1 ∧ M 0 0 2 = M0 0 0 2 ∧ M 0 0 17 = M0 0 0 17), wp (gX12_flag_18 fu  M l1 l2 l3 l4) (fun r M1 => bI bx2 M1 ∧ Kp (TM2 0 12) M0 M1 ∧ ((-1) ≤ r ∧ r ≤ 20 ∧ ((r = -1 ∧ ¬ ((l1 = -1 ∨ (0 ≤ l1 ∧ l1 < M0 0 0 1)) ∧ 0 ≤ l2 ∧ l2 ≤ l3 ∧ 0 ≤ l4 ∧ l4 ≤ 1 ∧ M0 0 0 12 < 20) ∧ M1 0 0 12 = M0 0 0 12) ∨ (((l1 = -1 ∨ (0 ≤ l1 ∧ l1 < M0 0 0 1)) ∧ 0 ≤ l2 ∧ l2 ≤ l3 ∧ 0 ≤ l4 ∧ l4 ≤ 1) ∧ M0 0 0 12 < 20 ∧ M1 0 0 12 = M0 0 0 12 + 1 ∧ r = M1 0 0 12)))) := by
  intro l1 l2 l3 l4 M iM kM hl1 hl2 hl3 hl4 y0 z0
  unfold gX12_flag_18
  have b_2 : -2147483648 ≤ l2 ∧ l2 ≤ 2147483647 := hl2
  refine wp_ite (fun c_1 => ?_) (fun c_1 => ?_)
  · skip
    have b_3 : 0 ≤ (M 0 0 12) ∧ (M 0 0 12) ≤ 20 := iM 0 0 12
    have b_4 : 2 ≤ (M 0 0 1) ∧ (M 0 0 1) ≤ 5 := iM 0 0 1
    have b_5 : 1 ≤ (M 0 0 2) ∧ (M 0 0 2) ≤ 12 := iM 0 0 2
    have b_6 : 0 ≤ (M 0 0 17) ∧ (M 0 0 17) ≤ 6 := iM 0 0 17
    exact wp_ret ⟨iM, kM, by omega, by omega, by omega⟩
  · skip
    have b_8 : -2147483648 ≤ l3 ∧ l3 ≤ 2147483647 := hl3
    refine wp_ite (fun c_7 => ?_) (fun c_7 => ?_)
    · skip
      have b_9 : 0 ≤ (M 0 0 12) ∧ (M 0 0 12) ≤ 20 := iM 0 0 12
      have b_10 : 2 ≤ (M 0 0 1) ∧ (M 0 0 1) ≤ 5 := iM 0 0 1
      have b_11 : 1 ≤ (M 0 0 2) ∧ (M 0 0 2) ≤ 12 := iM 0 0 2
      have b_12 : 0 ≤ (M 0 0 17) ∧ (M 0 0 17) ≤ 6 := iM 0 0 17
      exact wp_ret ⟨iM, kM, by omega, by omega, by omega⟩
    · skip
      refine wp_bp (s_fX12_in M iM l4 0 1 hl4 ⟨by omega, by omega⟩ ⟨by omega, by omega⟩ ) (fun v3 hv3 => ?_)
      have b_13 : -2147483648 ≤ l4 ∧ l4 ≤ 2147483647 := hl4
      refine wp_ite (fun c_14 => ?_) (fun c_14 => ?_)
      · skip
        have b_15 : 0 ≤ (M 0 0 12) ∧ (M 0 0 12) ≤ 20 := iM 0 0 12
        have b_16 : 2 ≤ (M 0 0 1) ∧ (M 0 0 1) ≤ 5 := iM 0 0 1
        have b_17 : 1 ≤ (M 0 0 2) ∧ (M 0 0 2) ≤ 12 := iM 0 0 2
        have b_18 : 0 ≤ (M 0 0 17) ∧ (M 0 0 17) ≤ 6 := iM 0 0 17
        exact wp_ret ⟨iM, kM, by omega, by omega, by omega⟩
      · skip
        have b_20 : 0 ≤ (M 0 0 12) ∧ (M 0 0 12) ≤ 20 := iM 0 0 12
        refine wp_ite (fun c_19 => ?_) (fun c_19 => ?_)
        · skip
          have b_21 : 2 ≤ (M 0 0 1) ∧ (M 0 0 1) ≤ 5 := iM 0 0 1
          have b_22 : 1 ≤ (M 0 0 2) ∧ (M 0 0 2) ≤ 12 := iM 0 0 2
          have b_23 : 0 ≤ (M 0 0 17) ∧ (M 0 0 17) ≤ 6 := iM 0 0 17
          exact wp_ret ⟨iM, kM, by omega, by omega, by omega⟩
        · skip
          refine wp_T ⟨by omega, by omega⟩ ?_
          refine wp_sk iM (jm_inL (by omega) (by omega)) kM (by unfold TM2 RC2; omega) (fun M11 u_24 iM11 kM11 => ?_)
          have q_25 : (M11 0 0 12) = (M 0 0 12) := by rw [u_24]; exact jm_une_f (by decide)
          refine wp_T ⟨by omega, by omega⟩ ?_
          refine wp_sk iM11 hl2 kM11 (by unfold TM2 RC2; omega) (fun M14 u_26 iM14 kM14 => ?_)
          have q_27 : (M14 0 0 12) = (M11 0 0 12) := by rw [u_26]; exact jm_une_f (by decide)
          refine wp_T ⟨by omega, by omega⟩ ?_
          refine wp_sk iM14 hl3 kM14 (by unfold TM2 RC2; omega) (fun M17 u_28 iM17 kM17 => ?_)
          have q_29 : (M17 0 0 12) = (M14 0 0 12) := by rw [u_28]; exact jm_une_f (by decide)
          refine wp_T ⟨by omega, by omega⟩ ?_
          refine wp_sk iM17 hl4 kM17 (by unfold TM2 RC2; omega) (fun M20 u_30 iM20 kM20 => ?_)
          have q_31 : (M20 0 0 12) = (M17 0 0 12) := by rw [u_30]; exact jm_une_f (by decide)
          have r_32 : (jm_w ((M20 0 0 12) + 1)) = (jm_w ((M 0 0 12) + 1)) := congrArg jm_w (by omega)
          have w_33 : (jm_w ((M 0 0 12) + 1)) = ((M 0 0 12) + 1) := jm_wid (by omega) (by omega)
          refine wp_sk iM20 (show 0 ≤ (jm_w ((M20 0 0 12) + 1)) ∧ (jm_w ((M20 0 0 12) + 1)) ≤ 20 by omega) kM20 (by unfold TM2 RC2; omega) (fun M22 u_34 iM22 kM22 => ?_)
          have q_35 : (M22 0 0 12) = (jm_w ((M20 0 0 12) + 1)) := by rw [u_34]; exact jm_ueq
          have q_36 : (M22 0 0 1) = (M20 0 0 1) := by rw [u_34]; exact jm_une_k (by decide)
          have q_37 : (M20 0 0 1) = (M17 0 0 1) := by rw [u_30]; exact jm_une_f (by decide)
          have q_38 : (M17 0 0 1) = (M14 0 0 1) := by rw [u_28]; exact jm_une_f (by decide)
          have q_39 : (M14 0 0 1) = (M11 0 0 1) := by rw [u_26]; exact jm_une_f (by decide)
          have q_40 : (M11 0 0 1) = (M 0 0 1) := by rw [u_24]; exact jm_une_f (by decide)
          have b_41 : 2 ≤ (M 0 0 1) ∧ (M 0 0 1) ≤ 5 := iM 0 0 1
          have q_42 : (M22 0 0 2) = (M20 0 0 2) := by rw [u_34]; exact jm_une_k (by decide)
          have q_43 : (M20 0 0 2) = (M17 0 0 2) := by rw [u_30]; exact jm_une_f (by decide)
          have q_44 : (M17 0 0 2) = (M14 0 0 2) := by rw [u_28]; exact jm_une_f (by decide)
          have q_45 : (M14 0 0 2) = (M11 0 0 2) := by rw [u_26]; exact jm_une_f (by decide)
          have q_46 : (M11 0 0 2) = (M 0 0 2) := by rw [u_24]; exact jm_une_f (by decide)
          have b_47 : 1 ≤ (M 0 0 2) ∧ (M 0 0 2) ≤ 12 := iM 0 0 2
          have q_48 : (M22 0 0 17) = (M20 0 0 17) := by rw [u_34]; exact jm_une_k (by decide)
          have q_49 : (M20 0 0 17) = (M17 0 0 17) := by rw [u_30]; exact jm_une_f (by decide)
          have q_50 : (M17 0 0 17) = (M14 0 0 17) := by rw [u_28]; exact jm_une_f (by decide)
          have q_51 : (M14 0 0 17) = (M11 0 0 17) := by rw [u_26]; exact jm_une_f (by decide)
          have q_52 : (M11 0 0 17) = (M 0 0 17) := by rw [u_24]; exact jm_une_f (by decide)
          have b_53 : 0 ≤ (M 0 0 17) ∧ (M 0 0 17) ≤ 6 := iM 0 0 17
          exact wp_ret ⟨iM22, kM22, by omega, by omega, by omega⟩
set_option maxHeartbeats 4000000 in
set_option maxRecDepth 100000 in
theorem s_fX12_flag (fu : Nat) (hfu : 4000 ≤ fu) (M : jm_M) (iM : bI bx2 M) (l1 l2 l3 l4 : Int) (hl1 : jm_in l1) (hl2 : jm_in l2) (hl3 : jm_in l3) (hl4 : jm_in l4) : wp (fX12_flag fu M l1 l2 l3 l4) (fun r M1 => bI bx2 M1 ∧ Kp (TM2 0 12) M M1 ∧ ((-1) ≤ r ∧ r ≤ 20 ∧ ((r = -1 ∧ ¬ ((l1 = -1 ∨ (0 ≤ l1 ∧ l1 < M 0 0 1)) ∧ 0 ≤ l2 ∧ l2 ≤ l3 ∧ 0 ≤ l4 ∧ l4 ≤ 1 ∧ M 0 0 12 < 20) ∧ M1 0 0 12 = M 0 0 12) ∨ (((l1 = -1 ∨ (0 ≤ l1 ∧ l1 < M 0 0 1)) ∧ 0 ≤ l2 ∧ l2 ≤ l3 ∧ 0 ≤ l4 ∧ l4 ≤ 1) ∧ M 0 0 12 < 20 ∧ M1 0 0 12 = M 0 0 12 + 1 ∧ r = M1 0 0 12)))) := by
  have kM : Kp (TM2 0 12) M M := Kp.rf
  unfold fX12_flag
  refine wp_sk iM (jm_inL (by decide) (by decide)) kM (by unfold TM2 RC2; omega) (fun M1 u_1 iM1 kM1 => ?_)
  have b_3 : -2147483648 ≤ l1 ∧ l1 ≤ 2147483647 := hl1
  refine wp_ite (fun c_2 => ?_) (fun c_2 => ?_)
  · skip
    have b_4 : -2147483648 ≤ l2 ∧ l2 ≤ 2147483647 := hl2
    have b_5 : -2147483648 ≤ l3 ∧ l3 ≤ 2147483647 := hl3
    have b_6 : -2147483648 ≤ l4 ∧ l4 ≤ 2147483647 := hl4
    have q_7 : (M1 0 0 1) = (M 0 0 1) := by rw [u_1]; exact jm_une_k (by decide)
    have b_8 : 2 ≤ (M 0 0 1) ∧ (M 0 0 1) ≤ 5 := iM 0 0 1
    have q_9 : (M1 0 0 12) = (M 0 0 12) := by rw [u_1]; exact jm_une_k (by decide)
    have b_10 : 0 ≤ (M 0 0 12) ∧ (M 0 0 12) ≤ 20 := iM 0 0 12
    have q_11 : (M1 0 0 2) = (M 0 0 2) := by rw [u_1]; exact jm_une_k (by decide)
    have b_12 : 1 ≤ (M 0 0 2) ∧ (M 0 0 2) ≤ 12 := iM 0 0 2
    have q_13 : (M1 0 0 17) = (M 0 0 17) := by rw [u_1]; exact jm_une_k (by decide)
    have b_14 : 0 ≤ (M 0 0 17) ∧ (M 0 0 17) ≤ 6 := iM 0 0 17
    exact s_gX12_flag_18 fu hfu M    l1 l2 l3 l4 M1 iM1 kM1 ⟨by omega, by omega⟩ hl2 hl3 hl4 (by omega) (by omega) 
  · skip
    refine wp_bp (s_fX12_isSector M1 iM1 l1 hl1 ) (fun v3 hv3 => ?_)
    have q_15 : (M1 0 0 1) = (M 0 0 1) := by rw [u_1]; exact jm_une_k (by decide)
    have b_16 : 2 ≤ (M 0 0 1) ∧ (M 0 0 1) ≤ 5 := iM 0 0 1
    refine wp_ite (fun c_17 => ?_) (fun c_17 => ?_)
    · skip
      have q_18 : (M1 0 0 12) = (M 0 0 12) := by rw [u_1]; exact jm_une_k (by decide)
      have b_19 : 0 ≤ (M 0 0 12) ∧ (M 0 0 12) ≤ 20 := iM 0 0 12
      have q_20 : (M1 0 0 2) = (M 0 0 2) := by rw [u_1]; exact jm_une_k (by decide)
      have b_21 : 1 ≤ (M 0 0 2) ∧ (M 0 0 2) ≤ 12 := iM 0 0 2
      have q_22 : (M1 0 0 17) = (M 0 0 17) := by rw [u_1]; exact jm_une_k (by decide)
      have b_23 : 0 ≤ (M 0 0 17) ∧ (M 0 0 17) ≤ 6 := iM 0 0 17
      exact wp_ret ⟨iM1, kM1, by omega, by omega, by omega⟩
    · skip
      have b_24 : -2147483648 ≤ l2 ∧ l2 ≤ 2147483647 := hl2
      have b_25 : -2147483648 ≤ l3 ∧ l3 ≤ 2147483647 := hl3
      have b_26 : -2147483648 ≤ l4 ∧ l4 ≤ 2147483647 := hl4
      have q_27 : (M1 0 0 12) = (M 0 0 12) := by rw [u_1]; exact jm_une_k (by decide)
      have b_28 : 0 ≤ (M 0 0 12) ∧ (M 0 0 12) ≤ 20 := iM 0 0 12
      have q_29 : (M1 0 0 2) = (M 0 0 2) := by rw [u_1]; exact jm_une_k (by decide)
      have b_30 : 1 ≤ (M 0 0 2) ∧ (M 0 0 2) ≤ 12 := iM 0 0 2
      have q_31 : (M1 0 0 17) = (M 0 0 17) := by rw [u_1]; exact jm_une_k (by decide)
      have b_32 : 0 ≤ (M 0 0 17) ∧ (M 0 0 17) ≤ 6 := iM 0 0 17
      exact s_gX12_flag_18 fu hfu M    l1 l2 l3 l4 M1 iM1 kM1 ⟨by omega, by omega⟩ hl2 hl3 hl4 (by omega) (by omega) 
set_option maxHeartbeats 4000000 in
set_option maxRecDepth 100000 in
theorem s_gX12_gain_45 (fu : Nat) (hfu : 4000 ≤ fu) (M0 : jm_M) (w0 : WF M0) : ∀ (l1 l3 s0 : Int) (M : jm_M) (iM : bI bx2 M) (kM : Kp RC2 M0 M) (hl1 : 0 ≤ l1 ∧ l1 ≤ 5) (hl3 : 0 ≤ l3 ∧ l3 ≤ 99) (hs0 : 0 ≤ s0 ∧ s0 ≤ 2147483647), wp (gX12_gain_45 fu  M l1 l3 s0) (fun r M1 => bI bx2 M1 ∧ Kp RC2 M0 M1 ∧ ((-1) ≤ r ∧ r ≤ 6)) := by
  intro l1 l3 s0 M iM kM hl1 hl3 hs0
  unfold gX12_gain_45
  refine wp_bk (s_fX12_judges fu hfu M iM l3 ⟨by omega, by omega⟩ (WF.kp kM w0 wf_RC2) ) (fun v1 M2 iM2 jM2 hv1 => ?_)
  have kM2 := kM.tr jM2 tt_RC2_TA2
  refine wp_bp (s_fX12_placeOf fu hfu M2 iM2 l1 0 ⟨by omega, by omega⟩ ⟨by omega, by omega⟩ ) (fun v3 hv3 => ?_)
  refine wp_ite (fun c_1 => ?_) (fun c_1 => ?_)
  · skip
    have w_2 : (jm_w (v3 - s0)) = (v3 - s0) := jm_wid (by omega) (by omega)
    have f_3 := jm_max_f 0 (jm_w (v3 - s0))
    exact wp_ret ⟨iM2, kM2, by omega⟩
  · skip
    have q_4 : (M2 0 0 17) = (M 0 0 17) := jM2 0 0 17 (by unfold TA2; omega)
    have r_5 : (jm_w ((M2 0 0 17) - s0)) = (jm_w ((M 0 0 17) - s0)) := congrArg jm_w (by omega)
    have r_6 : (jm_max 0 (jm_w ((M2 0 0 17) - s0))) = (jm_max 0 (jm_w ((M 0 0 17) - s0))) := by rw [show (jm_w ((M2 0 0 17) - s0)) = (jm_w ((M 0 0 17) - s0)) by omega]
    have b_7 : 0 ≤ (M 0 0 17) ∧ (M 0 0 17) ≤ 6 := iM 0 0 17
    have w_8 : (jm_w ((M 0 0 17) - s0)) = ((M 0 0 17) - s0) := jm_wid (by omega) (by omega)
    have f_9 := jm_max_f 0 (jm_w ((M 0 0 17) - s0))
    exact wp_ret ⟨iM2, kM2, by omega⟩
set_option maxHeartbeats 4000000 in
set_option maxRecDepth 100000 in
theorem s_fX12_gain (fu : Nat) (hfu : 4000 ≤ fu) (M : jm_M) (iM : bI bx2 M) (l1 l2 l3 : Int) (hl1 : jm_in l1) (hl2 : jm_in l2) (hl3 : jm_in l3) (wM : WF M) : wp (fX12_gain fu M l1 l2 l3) (fun r M1 => bI bx2 M1 ∧ Kp RC2 M M1 ∧ ((-1) ≤ r ∧ r ≤ 6)) := by
  have kM : Kp RC2 M M := Kp.rf
  unfold fX12_gain
  refine wp_sk iM (jm_inL (by decide) (by decide)) kM (by unfold RC2; omega) (fun M1 u_1 iM1 kM1 => ?_)
  refine wp_bp (s_fX12_isAsked M1 iM1 l1 l2 l3 hl1 hl2 hl3 ) (fun v2 hv2 => ?_)
  have b_2 : -2147483648 ≤ l1 ∧ l1 ≤ 2147483647 := hl1
  have q_3 : (M1 0 0 17) = (M 0 0 17) := by rw [u_1]; exact jm_une_k (by decide)
  have b_4 : 0 ≤ (M 0 0 17) ∧ (M 0 0 17) ≤ 6 := iM 0 0 17
  have b_5 : -2147483648 ≤ l2 ∧ l2 ≤ 2147483647 := hl2
  have b_6 : -2147483648 ≤ l3 ∧ l3 ≤ 2147483647 := hl3
  refine wp_ite (fun c_7 => ?_) (fun c_7 => ?_)
  · skip
    exact wp_ret ⟨iM1, kM1, by omega⟩
  · skip
    have q_8 : (M1 26 0 l1) = (M 26 0 l1) := by rw [u_1]; exact jm_une_f (by decide)
    have b_9 : 0 ≤ (M 26 0 l1) ∧ (M 26 0 l1) ≤ 5 := iM 26 0 l1
    have q_10 : (M1 73 0 l1) = (M 73 0 l1) := by rw [u_1]; exact jm_une_f (by decide)
    have b_11 : 0 ≤ (M 73 0 l1) ∧ (M 73 0 l1) ≤ 5 := iM 73 0 l1
    refine wp_bk (s_fX12_bests fu hfu M1 iM1 l1 l2 l3 ⟨by omega, by omega⟩ ⟨by omega, by omega⟩ ⟨by omega, by omega⟩ (WF.kp kM1 wM wf_RC2) ) (fun v6 M7 iM7 jM7 hv6 => ?_)
    have kM7 := kM1.tr jM7 (fun _ _ _ h => h)
    refine wp_ite (fun c_12 => ?_) (fun c_12 => ?_)
    · skip
      exact wp_ret ⟨iM7, kM7, by omega⟩
    · skip
      have b_14 : (-2147483648) ≤ (M7 0 0 89) ∧ (M7 0 0 89) ≤ 2147483647 := iM7 0 0 89
      refine wp_ite (fun c_13 => ?_) (fun c_13 => ?_)
      · skip
        exact s_gX12_gain_45 fu hfu M wM    l1 l3 (M7 0 0 89) M7 iM7 kM7 ⟨by omega, by omega⟩ ⟨by omega, by omega⟩ ⟨by omega, by omega⟩  
      · skip
        have q_15 : (M7 0 0 17) = (M1 0 0 17) := jM7 0 0 17 (by unfold RC2; omega)
        exact s_gX12_gain_45 fu hfu M wM    l1 l3 (M7 0 0 17) M7 iM7 kM7 ⟨by omega, by omega⟩ ⟨by omega, by omega⟩ ⟨by omega, by omega⟩  
set_option maxHeartbeats 4000000 in
set_option maxRecDepth 100000 in
theorem s_fX12_isOf (M : jm_M) (iM : bI bx2 M) (l1 w2 : Int) (hl1 : 0 ≤ l1 ∧ l1 ≤ 60) (hw2 : 0 ≤ w2 ∧ w2 ≤ 10) : wp (fX12_isOf M l1 w2) (fun r M1 => M1 = M ∧ (0 ≤ r ∧ r ≤ 1)) := by
  unfold fX12_isOf
  have b_2 : 0 ≤ (M 0 0 41) ∧ (M 0 0 41) ≤ 60 := iM 0 0 41
  refine wp_ite (fun c_1 => ?_) (fun c_1 => ?_)
  · skip
    exact wp_ret ⟨rfl, by omega⟩
  · skip
    refine wp_T ⟨by omega, by omega⟩ ?_
    have b_4 : (-2147483648) ≤ (M 34 0 (M 0 0 41)) ∧ (M 34 0 (M 0 0 41)) ≤ 2147483647 := iM 34 0 (M 0 0 41)
    refine wp_ite (fun c_3 => ?_) (fun c_3 => ?_)
    · skip
      exact wp_ret ⟨rfl, by omega⟩
    · skip
      refine wp_T ⟨by omega, by omega⟩ ?_
      refine wp_bp (s_fS_indexOf M w2 (M 34 0 (M 0 0 41))) (fun v10 hv10 => ?_)
      refine wp_ite (fun c_5 => ?_) (fun c_5 => ?_)
      · skip
        exact wp_ret ⟨rfl, by omega⟩
      · skip
        exact wp_ret ⟨rfl, by omega⟩
set_option maxHeartbeats 4000000 in
set_option maxRecDepth 100000 in
theorem s_fX12_isSet (M : jm_M) (iM : bI bx2 M) (l0 : Int) (hl0 : jm_in l0) : wp (fX12_isSet M l0) (fun r M1 => M1 = M ∧ ((r = 1 ∧ (-1) ≤ l0 ∧ l0 ≤ 3) ∨ (r = 0 ∧ ¬ ((-1) ≤ l0 ∧ l0 ≤ 3)))) := by
  unfold fX12_isSet
  refine wp_bp (s_fX12_in M iM l0 (-1) 3 hl0 ⟨by omega, by omega⟩ ⟨by omega, by omega⟩ ) (fun v1 hv1 => ?_)
  have b_1 : -2147483648 ≤ l0 ∧ l0 ≤ 2147483647 := hl0
  refine wp_T (by omega) ?_
  exact wp_ret ⟨rfl, by omega⟩
set_option maxHeartbeats 4000000 in
set_option maxRecDepth 100000 in
theorem s_gX12_isSettled_82 (fu : Nat) (hfu : 4000 ≤ fu) (M : jm_M) (iM : bI bx2 M) (k82 : jm_M → Int → Int → Int → Int → Int → jm_R) (N82 : Int) (hk82 : ∀ (l1 l4 l5 l6 l7 : Int) (hl1 : 0 ≤ l1 ∧ l1 ≤ 3) (hl4 : 1 ≤ l4 ∧ l4 ≤ 4) (hl5 : 0 ≤ l5 ∧ l5 ≤ 15) (hl6 : 0 ≤ l6 ∧ l6 ≤ 1) (hl7 : 0 ≤ l7 ∧ l7 ≤ 4), 5 - l7 < N82 → wp (k82 M l1 l4 l5 l6 l7) (fun r M1 => M1 = M ∧ (0 ≤ r ∧ r ≤ 1))) : ∀ (l1 l4 l5 l6 l7 : Int) (hl1 : 0 ≤ l1 ∧ l1 ≤ 3) (hl4 : 1 ≤ l4 ∧ l4 ≤ 4) (hl5 : 0 ≤ l5 ∧ l5 ≤ 15) (hl6 : 0 ≤ l6 ∧ l6 ≤ 1) (hl7 : 0 ≤ l7 ∧ l7 ≤ 4), 5 - l7 < N82 + 1 → wp (gX12_isSettled_82 fu k82 M l1 l4 l5 l6 l7) (fun r M1 => M1 = M ∧ (0 ≤ r ∧ r ≤ 1)) := by
  intro l1 l4 l5 l6 l7 hl1 hl4 hl5 hl6 hl7 m82
  unfold gX12_isSettled_82
  refine wp_ite (fun c_1 => ?_) (fun c_1 => ?_)
  · skip
    refine wp_T (by omega) ?_
    exact wp_ret ⟨rfl, by omega⟩
  · skip
    refine wp_ite (fun c_2 => ?_) (fun c_2 => ?_)
    · skip
      have w_3 : (jm_w (l7 + 1)) = (l7 + 1) := jm_wid (by omega) (by omega)
      refine wp_e (by exact (jm_w_in _)) (fun v3 e_4 hv3 => ?_)
      have b_5 : -2147483648 ≤ v3 ∧ v3 ≤ 2147483647 := hv3
      exact hk82 l1 l4 l5 0 v3  ⟨by omega, by omega⟩ ⟨by omega, by omega⟩ ⟨by omega, by omega⟩ ⟨by omega, by omega⟩ ⟨by omega, by omega⟩  (by omega)
    · skip
      have w_6 : (jm_w (4 * l1)) = (4 * l1) := jm_wid (by omega) (by omega)
      have w_7 : (jm_w ((jm_w (4 * l1)) + l7)) = ((jm_w (4 * l1)) + l7) := jm_wid (by omega) (by omega)
      refine wp_T ⟨by omega, by omega⟩ ?_
      refine wp_T ⟨by omega, by omega⟩ ?_
      refine wp_T ⟨by omega, by omega⟩ ?_
      refine wp_T ⟨by omega, by omega⟩ ?_
      refine wp_bp (s_fX12_isAhead M iM (M 78 0 (jm_w ((jm_w (4 * l1)) + l7))) (M 79 0 (jm_w ((jm_w (4 * l1)) + l7))) (M 78 0 l5) (M 79 0 l5) (iM 78 0 (jm_w ((jm_w (4 * l1)) + l7))) (iM 79 0 (jm_w ((jm_w (4 * l1)) + l7))) (iM 78 0 l5) (iM 79 0 l5) ) (fun v13 hv13 => ?_)
      refine wp_ite (fun c_8 => ?_) (fun c_8 => ?_)
      · skip
        have w_9 : (jm_w (l7 + 1)) = (l7 + 1) := jm_wid (by omega) (by omega)
        refine wp_e (by exact (jm_w_in _)) (fun v17 e_10 hv17 => ?_)
        have b_11 : -2147483648 ≤ v17 ∧ v17 ≤ 2147483647 := hv17
        exact hk82 l1 l4 l5 1 v17  ⟨by omega, by omega⟩ ⟨by omega, by omega⟩ ⟨by omega, by omega⟩ ⟨by omega, by omega⟩ ⟨by omega, by omega⟩  (by omega)
      · skip
        have w_12 : (jm_w (l7 + 1)) = (l7 + 1) := jm_wid (by omega) (by omega)
        refine wp_e (by exact (jm_w_in _)) (fun v19 e_13 hv19 => ?_)
        have b_14 : -2147483648 ≤ v19 ∧ v19 ≤ 2147483647 := hv19
        exact hk82 l1 l4 l5 0 v19  ⟨by omega, by omega⟩ ⟨by omega, by omega⟩ ⟨by omega, by omega⟩ ⟨by omega, by omega⟩ ⟨by omega, by omega⟩  (by omega)
set_option maxHeartbeats 4000000 in
set_option maxRecDepth 100000 in
theorem s_fX12_isSettled_82 (fu : Nat) (hfu : 4000 ≤ fu) (M : jm_M) (iM : bI bx2 M) : ∀ (n : Nat) (l1 l4 l5 l6 l7 : Int) (hl1 : 0 ≤ l1 ∧ l1 ≤ 3) (hl4 : 1 ≤ l4 ∧ l4 ≤ 4) (hl5 : 0 ≤ l5 ∧ l5 ≤ 15) (hl6 : 0 ≤ l6 ∧ l6 ≤ 1) (hl7 : 0 ≤ l7 ∧ l7 ≤ 4), 5 - l7 < (n : Int) → wp (fX12_isSettled_82 fu  n M l1 l4 l5 l6 l7) (fun r M1 => M1 = M ∧ (0 ≤ r ∧ r ≤ 1)) := by
  intro n
  induction n with
  | zero => intro l1 l4 l5 l6 l7 hl1 hl4 hl5 hl6 hl7 hm; exfalso; omega
  | succ n ih =>
    intro l1 l4 l5 l6 l7 hl1 hl4 hl5 hl6 hl7 hm
    exact s_gX12_isSettled_82 fu hfu M iM (fX12_isSettled_82 fu  n) (n : Int) ih l1 l4 l5 l6 l7 hl1 hl4 hl5 hl6 hl7 (by omega)
set_option maxHeartbeats 4000000 in
set_option maxRecDepth 100000 in
theorem s_gX12_isSettled_13 (fu : Nat) (hfu : 4000 ≤ fu) (M : jm_M) (iM : bI bx2 M) (k13 : jm_M → Int → Int → Int → Int → Int → Int → Int → jm_R) (N13 : Int) (hk13 : ∀ (l1 l2 l3 l4 l5 l6 l7 : Int) (hl1 : 0 ≤ l1 ∧ l1 ≤ 3) (hl2 : 0 ≤ l2 ∧ l2 ≤ 3) (hl3 : 0 ≤ l3 ∧ l3 ≤ 4) (hl4 : 1 ≤ l4 ∧ l4 ≤ 4) (hl5 : 0 ≤ l5 ∧ l5 ≤ 15) (hl6 : 0 ≤ l6 ∧ l6 ≤ 1) (hl7 : 0 ≤ l7 ∧ l7 ≤ 4), 5 - l7 < N13 → wp (k13 M l1 l2 l3 l4 l5 l6 l7) (fun r M1 => M1 = M ∧ (0 ≤ r ∧ r ≤ 1))) : ∀ (l1 l2 l3 l4 l5 l6 l7 : Int) (hl1 : 0 ≤ l1 ∧ l1 ≤ 3) (hl2 : 0 ≤ l2 ∧ l2 ≤ 3) (hl3 : 0 ≤ l3 ∧ l3 ≤ 4) (hl4 : 1 ≤ l4 ∧ l4 ≤ 4) (hl5 : 0 ≤ l5 ∧ l5 ≤ 15) (hl6 : 0 ≤ l6 ∧ l6 ≤ 1) (hl7 : 0 ≤ l7 ∧ l7 ≤ 4), 5 - l7 < N13 + 1 → wp (gX12_isSettled_13 fu k13 M l1 l2 l3 l4 l5 l6 l7) (fun r M1 => M1 = M ∧ (0 ≤ r ∧ r ≤ 1)) := by
  intro l1 l2 l3 l4 l5 l6 l7 hl1 hl2 hl3 hl4 hl5 hl6 hl7 m13
  unfold gX12_isSettled_13
  refine wp_ite (fun c_1 => ?_) (fun c_1 => ?_)
  · skip
    exact s_fX12_isSettled_82 fu hfu M iM    fu l1 l4 l5 l6 0  ⟨by omega, by omega⟩ ⟨by omega, by omega⟩ ⟨by omega, by omega⟩ ⟨by omega, by omega⟩ ⟨by omega, by omega⟩   (by omega)
  · skip
    refine wp_ite (fun c_2 => ?_) (fun c_2 => ?_)
    · skip
      have w_3 : (jm_w (l7 + 1)) = (l7 + 1) := jm_wid (by omega) (by omega)
      refine wp_e (by exact (jm_w_in _)) (fun v3 e_4 hv3 => ?_)
      have b_5 : -2147483648 ≤ v3 ∧ v3 ≤ 2147483647 := hv3
      exact hk13 l1 l2 l3 l4 l5 0 v3  ⟨by omega, by omega⟩ ⟨by omega, by omega⟩ ⟨by omega, by omega⟩ ⟨by omega, by omega⟩ ⟨by omega, by omega⟩ ⟨by omega, by omega⟩ ⟨by omega, by omega⟩  (by omega)
    · skip
      have w_6 : (jm_w (4 * l7)) = (4 * l7) := jm_wid (by omega) (by omega)
      have w_7 : (jm_w ((jm_w (4 * l7)) + l2)) = ((jm_w (4 * l7)) + l2) := jm_wid (by omega) (by omega)
      refine wp_T ⟨by omega, by omega⟩ ?_
      refine wp_T ⟨by omega, by omega⟩ ?_
      refine wp_T ⟨by omega, by omega⟩ ?_
      refine wp_T ⟨by omega, by omega⟩ ?_
      refine wp_bp (s_fX12_isAhead M iM (M 76 0 (jm_w ((jm_w (4 * l7)) + l2))) (M 77 0 (jm_w ((jm_w (4 * l7)) + l2))) (M 76 0 l5) (M 77 0 l5) (iM 76 0 (jm_w ((jm_w (4 * l7)) + l2))) (iM 77 0 (jm_w ((jm_w (4 * l7)) + l2))) (iM 76 0 l5) (iM 77 0 l5) ) (fun v13 hv13 => ?_)
      refine wp_ite (fun c_8 => ?_) (fun c_8 => ?_)
      · skip
        have w_9 : (jm_w (l7 + 1)) = (l7 + 1) := jm_wid (by omega) (by omega)
        refine wp_e (by exact (jm_w_in _)) (fun v17 e_10 hv17 => ?_)
        have b_11 : -2147483648 ≤ v17 ∧ v17 ≤ 2147483647 := hv17
        exact hk13 l1 l2 l3 l4 l5 1 v17  ⟨by omega, by omega⟩ ⟨by omega, by omega⟩ ⟨by omega, by omega⟩ ⟨by omega, by omega⟩ ⟨by omega, by omega⟩ ⟨by omega, by omega⟩ ⟨by omega, by omega⟩  (by omega)
      · skip
        have w_12 : (jm_w (l7 + 1)) = (l7 + 1) := jm_wid (by omega) (by omega)
        refine wp_e (by exact (jm_w_in _)) (fun v19 e_13 hv19 => ?_)
        have b_14 : -2147483648 ≤ v19 ∧ v19 ≤ 2147483647 := hv19
        exact hk13 l1 l2 l3 l4 l5 0 v19  ⟨by omega, by omega⟩ ⟨by omega, by omega⟩ ⟨by omega, by omega⟩ ⟨by omega, by omega⟩ ⟨by omega, by omega⟩ ⟨by omega, by omega⟩ ⟨by omega, by omega⟩  (by omega)
set_option maxHeartbeats 4000000 in
set_option maxRecDepth 100000 in
theorem s_fX12_isSettled_13 (fu : Nat) (hfu : 4000 ≤ fu) (M : jm_M) (iM : bI bx2 M) : ∀ (n : Nat) (l1 l2 l3 l4 l5 l6 l7 : Int) (hl1 : 0 ≤ l1 ∧ l1 ≤ 3) (hl2 : 0 ≤ l2 ∧ l2 ≤ 3) (hl3 : 0 ≤ l3 ∧ l3 ≤ 4) (hl4 : 1 ≤ l4 ∧ l4 ≤ 4) (hl5 : 0 ≤ l5 ∧ l5 ≤ 15) (hl6 : 0 ≤ l6 ∧ l6 ≤ 1) (hl7 : 0 ≤ l7 ∧ l7 ≤ 4), 5 - l7 < (n : Int) → wp (fX12_isSettled_13 fu  n M l1 l2 l3 l4 l5 l6 l7) (fun r M1 => M1 = M ∧ (0 ≤ r ∧ r ≤ 1)) := by
  intro n
  induction n with
  | zero => intro l1 l2 l3 l4 l5 l6 l7 hl1 hl2 hl3 hl4 hl5 hl6 hl7 hm; exfalso; omega
  | succ n ih =>
    intro l1 l2 l3 l4 l5 l6 l7 hl1 hl2 hl3 hl4 hl5 hl6 hl7 hm
    exact s_gX12_isSettled_13 fu hfu M iM (fX12_isSettled_13 fu  n) (n : Int) ih l1 l2 l3 l4 l5 l6 l7 hl1 hl2 hl3 hl4 hl5 hl6 hl7 (by omega)
set_option maxHeartbeats 4000000 in
set_option maxRecDepth 100000 in
theorem s_fX12_isSettled (fu : Nat) (hfu : 4000 ≤ fu) (M : jm_M) (iM : bI bx2 M) (l1 l2 l3 l4 : Int) (hl1 : 0 ≤ l1 ∧ l1 ≤ 3) (hl2 : 0 ≤ l2 ∧ l2 ≤ 3) (hl3 : 0 ≤ l3 ∧ l3 ≤ 4) (hl4 : 1 ≤ l4 ∧ l4 ≤ 4) : wp (fX12_isSettled fu M l1 l2 l3 l4) (fun r M1 => M1 = M ∧ (0 ≤ r ∧ r ≤ 1)) := by
  unfold fX12_isSettled
  have w_1 : (jm_w (4 * l1)) = (4 * l1) := jm_wid (by omega) (by omega)
  have w_2 : (jm_w ((jm_w (4 * l1)) + l2)) = ((jm_w (4 * l1)) + l2) := jm_wid (by omega) (by omega)
  refine wp_e (by exact (jm_w_in _)) (fun v1 e_3 hv1 => ?_)
  have b_4 : -2147483648 ≤ v1 ∧ v1 ≤ 2147483647 := hv1
  exact s_fX12_isSettled_13 fu hfu M iM    fu l1 l2 l3 l4 v1 1 0  ⟨by omega, by omega⟩ ⟨by omega, by omega⟩ ⟨by omega, by omega⟩ ⟨by omega, by omega⟩ ⟨by omega, by omega⟩ ⟨by omega, by omega⟩ ⟨by omega, by omega⟩   (by omega)
set_option maxHeartbeats 4000000 in
set_option maxRecDepth 100000 in
theorem s_fX12_isSign (M : jm_M) (iM : bI bx2 M) (l1 l2 : Int) (hl1 : 0 ≤ l1 ∧ l1 ≤ 60) (hl2 : jm_in l2) : wp (fX12_isSign M l1 l2) (fun r M1 => M1 = M ∧ ((r = 1 ∧ (M 0 0 41) < l1 ∧ (M 34 0 (M 0 0 41)) = l2) ∨ (r = 0 ∧ ¬ ((M 0 0 41) < l1 ∧ (M 34 0 (M 0 0 41)) = l2)))) := by
  unfold fX12_isSign
  have b_2 : 0 ≤ (M 0 0 41) ∧ (M 0 0 41) ≤ 60 := iM 0 0 41
  refine wp_ite (fun c_1 => ?_) (fun c_1 => ?_)
  · skip
    exact wp_ret ⟨rfl, by omega⟩
  · skip
    refine wp_T ⟨by omega, by omega⟩ ?_
    have b_4 : (-2147483648) ≤ (M 34 0 (M 0 0 41)) ∧ (M 34 0 (M 0 0 41)) ≤ 2147483647 := iM 34 0 (M 0 0 41)
    have b_5 : -2147483648 ≤ l2 ∧ l2 ≤ 2147483647 := hl2
    refine wp_ite (fun c_3 => ?_) (fun c_3 => ?_)
    · skip
      exact wp_ret ⟨rfl, by omega⟩
    · skip
      exact wp_ret ⟨rfl, by omega⟩
set_option maxHeartbeats 4000000 in
set_option maxRecDepth 100000 in
theorem s_fX12_isStopLap (M : jm_M) (iM : bI bx2 M) (l1 : Int) (hl1 : jm_in l1) : wp (fX12_isStopLap M l1) (fun r M1 => M1 = M ∧ ((r = 1 ∧ 0 ≤ l1 ∧ l1 ≤ ((M 0 0 2) - 2)) ∨ (r = 0 ∧ ¬ (0 ≤ l1 ∧ l1 ≤ ((M 0 0 2) - 2))))) := by
  unfold fX12_isStopLap
  have b_1 : 1 ≤ (M 0 0 2) ∧ (M 0 0 2) ≤ 12 := iM 0 0 2
  have w_2 : (jm_w ((M 0 0 2) - 2)) = ((M 0 0 2) - 2) := jm_wid (by omega) (by omega)
  refine wp_bp (s_fX12_in M iM l1 0 (jm_w ((M 0 0 2) - 2)) hl1 ⟨by omega, by omega⟩ ⟨by omega, by omega⟩ ) (fun v2 hv2 => ?_)
  have b_3 : -2147483648 ≤ l1 ∧ l1 ≤ 2147483647 := hl1
  refine wp_T (by omega) ?_
  exact wp_ret ⟨rfl, by omega⟩
set_option maxHeartbeats 4000000 in
set_option maxRecDepth 100000 in
theorem s_fX12_known (fu : Nat) (hfu : 4000 ≤ fu) (M : jm_M) (iM : bI bx2 M) (l1 l2 l3 l4 : Int) (hl1 : jm_in l1) (hl2 : jm_in l2) (hl3 : jm_in l3) (hl4 : jm_in l4) (wM : WF M) : wp (fX12_known fu M l1 l2 l3 l4) (fun r M1 => bI bx2 M1 ∧ Kp TA2 M M1 ∧ (jm_in r)) := by
  have kM : Kp TA2 M M := Kp.rf
  unfold fX12_known
  refine wp_sk iM (jm_inL (by decide) (by decide)) kM (by unfold TA2; omega) (fun M1 u_1 iM1 kM1 => ?_)
  refine wp_bp (s_fX12_isCar M1 iM1 l1 hl1 ) (fun v2 hv2 => ?_)
  have b_2 : -2147483648 ≤ l1 ∧ l1 ≤ 2147483647 := hl1
  have q_3 : (M1 0 0 17) = (M 0 0 17) := by rw [u_1]; exact jm_une_k (by decide)
  have b_4 : 0 ≤ (M 0 0 17) ∧ (M 0 0 17) ≤ 6 := iM 0 0 17
  refine wp_ite (fun c_5 => ?_) (fun c_5 => ?_)
  · skip
    exact wp_ret ⟨iM1, kM1, (jm_inL (by decide) (by decide))⟩
  · skip
    refine wp_bp (s_fX12_isLap M1 iM1 l2 hl2 ) (fun v6 hv6 => ?_)
    have b_6 : -2147483648 ≤ l2 ∧ l2 ≤ 2147483647 := hl2
    have q_7 : (M1 0 0 2) = (M 0 0 2) := by rw [u_1]; exact jm_une_k (by decide)
    have b_8 : 1 ≤ (M 0 0 2) ∧ (M 0 0 2) ≤ 12 := iM 0 0 2
    refine wp_ite (fun c_9 => ?_) (fun c_9 => ?_)
    · skip
      exact wp_ret ⟨iM1, kM1, (jm_inL (by decide) (by decide))⟩
    · skip
      refine wp_bp (s_fX12_isSector M1 iM1 l3 hl3 ) (fun v10 hv10 => ?_)
      have b_10 : -2147483648 ≤ l3 ∧ l3 ≤ 2147483647 := hl3
      have q_11 : (M1 0 0 1) = (M 0 0 1) := by rw [u_1]; exact jm_une_k (by decide)
      have b_12 : 2 ≤ (M 0 0 1) ∧ (M 0 0 1) ≤ 5 := iM 0 0 1
      refine wp_ite (fun c_13 => ?_) (fun c_13 => ?_)
      · skip
        exact wp_ret ⟨iM1, kM1, (jm_inL (by decide) (by decide))⟩
      · skip
        refine wp_bp (s_fX12_in M1 iM1 l4 0 1 hl4 ⟨by omega, by omega⟩ ⟨by omega, by omega⟩ ) (fun v14 hv14 => ?_)
        have b_14 : -2147483648 ≤ l4 ∧ l4 ≤ 2147483647 := hl4
        refine wp_ite (fun c_15 => ?_) (fun c_15 => ?_)
        · skip
          exact wp_ret ⟨iM1, kM1, (jm_inL (by decide) (by decide))⟩
        · skip
          refine wp_bk (s_fX12_runs fu hfu M1 iM1   (WF.kp kM1 wM wf_TA2) ) (fun v18 M19 iM19 jM19 hv18 => ?_)
          have kM19 := kM1.tr jM19 (fun _ _ _ h => h)
          have q_16 : (M19 0 0 1) = (M1 0 0 1) := jM19 0 0 1 (by unfold TA2; omega)
          have r_17 : ((M19 0 0 1) * l2) = ((M 0 0 1) * l2) := by rw [show (M19 0 0 1) = (M 0 0 1) by omega]
          have r_18 : (jm_w ((M19 0 0 1) * l2)) = (jm_w ((M 0 0 1) * l2)) := congrArg jm_w (by omega)
          have r_19 : (jm_w ((jm_w ((M19 0 0 1) * l2)) + l3)) = (jm_w ((jm_w ((M 0 0 1) * l2)) + l3)) := congrArg jm_w (by omega)
          have p_20 : 0 ≤ ((M 0 0 1) * l2) ∧ ((M 0 0 1) * l2) ≤ 55 := jm_mulb (A := 5) (B := 11) (by omega) (by omega) (by omega) (by omega) (by decide)
          have w_21 : (jm_w ((M 0 0 1) * l2)) = ((M 0 0 1) * l2) := jm_wid (by omega) (by omega)
          have w_22 : (jm_w ((jm_w ((M 0 0 1) * l2)) + l3)) = ((jm_w ((M 0 0 1) * l2)) + l3) := jm_wid (by omega) (by omega)
          have q_23 : (M19 0 0 2) = (M1 0 0 2) := jM19 0 0 2 (by unfold TA2; omega)
          have r_24 : ((M19 0 0 1) * (M19 0 0 2)) = ((M 0 0 1) * (M 0 0 2)) := by rw [show (M19 0 0 1) = (M 0 0 1) by omega, show (M19 0 0 2) = (M 0 0 2) by omega]
          have p_25 : 0 ≤ ((M 0 0 1) * (M 0 0 2)) ∧ ((M 0 0 1) * (M 0 0 2)) ≤ 60 := jm_mulb (A := 5) (B := 12) (by omega) (by omega) (by omega) (by omega) (by decide)
          have p_26 : 2 ≤ ((M 0 0 1) * (M 0 0 2)) := jm_mull (A := 2) (B := 1) (by omega) (by omega) (by omega) (by omega) (by decide)
          have ms_27 := jm_mulstep (s := (M 0 0 1)) (a := l2) (b := (M 0 0 2)) (by omega) (by omega)
          refine wp_bp (s_fX12_knownOf fu hfu M19 iM19 l1 (jm_w ((jm_w ((M19 0 0 1) * l2)) + l3)) l4 ⟨by omega, by omega⟩ ⟨by omega, by omega⟩ ⟨by omega, by omega⟩ (by omega)) (fun v21 hv21 => ?_)
          have b_28 : -2147483648 ≤ v21 ∧ v21 ≤ 2147483647 := hv21
          exact wp_ret ⟨iM19, kM19, hv21⟩
set_option maxHeartbeats 4000000 in
set_option maxRecDepth 100000 in
theorem s_gX12_ledBy_43 (fu : Nat) (hfu : 4000 ≤ fu) (M : jm_M) (iM : bI bx2 M) (k14 : jm_M → Int → Int → Int → jm_R) (k43 : jm_M → Int → Int → Int → Int → Int → Int → jm_R) (N14 N43 : Int) (hk14 : ∀ (l2 l3 l4 : Int) (hl2 : 0 ≤ l2 ∧ l2 ≤ 2147483647) (hl3 : 1 ≤ l3 ∧ l3 ≤ 59) (hl4 : 0 ≤ l4 ∧ l4 ≤ 6), 7 - l4 < N14 → wp (k14 M l2 l3 l4) (fun r M1 => M1 = M ∧ ((-1) ≤ r ∧ r ≤ 5))) (hk43 : ∀ (l2 l3 l4 l5 l6 l7 : Int) (hl2 : 0 ≤ l2 ∧ l2 ≤ 2147483647) (hl3 : 1 ≤ l3 ∧ l3 ≤ 59) (hl4 : 0 ≤ l4 ∧ l4 ≤ 5) (hl5 : jm_in l5) (hl6 : jm_in l6) (hl7 : 0 ≤ l7 ∧ l7 ≤ 6), 7 - l4 < N14 + 1 → 7 - l7 < N43 → wp (k43 M l2 l3 l4 l5 l6 l7) (fun r M1 => M1 = M ∧ ((-1) ≤ r ∧ r ≤ 5))) : ∀ (l2 l3 l4 l5 l6 l7 : Int) (hl2 : 0 ≤ l2 ∧ l2 ≤ 2147483647) (hl3 : 1 ≤ l3 ∧ l3 ≤ 59) (hl4 : 0 ≤ l4 ∧ l4 ≤ 5) (hl5 : jm_in l5) (hl6 : jm_in l6) (hl7 : 0 ≤ l7 ∧ l7 ≤ 6), 7 - l4 < N14 + 1 → 7 - l7 < N43 + 1 → wp (gX12_ledBy_43 fu k14 k43 M l2 l3 l4 l5 l6 l7) (fun r M1 => M1 = M ∧ ((-1) ≤ r ∧ r ≤ 5)) := by
  intro l2 l3 l4 l5 l6 l7 hl2 hl3 hl4 hl5 hl6 hl7 m14 m43
  unfold gX12_ledBy_43
  have b_2 : 0 ≤ (M 0 0 17) ∧ (M 0 0 17) ≤ 6 := iM 0 0 17
  refine wp_ite (fun c_1 => ?_) (fun c_1 => ?_)
  · skip
    have b_4 : -2147483648 ≤ l5 ∧ l5 ≤ 2147483647 := hl5
    refine wp_ite (fun c_3 => ?_) (fun c_3 => ?_)
    · skip
      have w_5 : (jm_w (l4 + 1)) = (l4 + 1) := jm_wid (by omega) (by omega)
      refine wp_e (by exact (jm_w_in _)) (fun v4 e_6 hv4 => ?_)
      have b_7 : -2147483648 ≤ v4 ∧ v4 ≤ 2147483647 := hv4
      exact hk14 l2 l3 v4  ⟨by omega, by omega⟩ ⟨by omega, by omega⟩ ⟨by omega, by omega⟩  (by omega)
    · skip
      have b_9 : -2147483648 ≤ l6 ∧ l6 ≤ 2147483647 := hl6
      refine wp_ite (fun c_8 => ?_) (fun c_8 => ?_)
      · skip
        exact wp_ret ⟨rfl, by omega⟩
      · skip
        have w_10 : (jm_w (l4 + 1)) = (l4 + 1) := jm_wid (by omega) (by omega)
        refine wp_e (by exact (jm_w_in _)) (fun v7 e_11 hv7 => ?_)
        have b_12 : -2147483648 ≤ v7 ∧ v7 ≤ 2147483647 := hv7
        exact hk14 l2 l3 v7  ⟨by omega, by omega⟩ ⟨by omega, by omega⟩ ⟨by omega, by omega⟩  (by omega)
  · skip
    have w_13 : (jm_w (60 * l7)) = (60 * l7) := jm_wid (by omega) (by omega)
    have w_14 : (jm_w ((jm_w (60 * l7)) + l3)) = ((jm_w (60 * l7)) + l3) := jm_wid (by omega) (by omega)
    refine wp_T ⟨by omega, by omega⟩ ?_
    have b_15 : (-2147483648) ≤ (M 55 0 (jm_w ((jm_w (60 * l7)) + l3))) ∧ (M 55 0 (jm_w ((jm_w (60 * l7)) + l3))) ≤ 2147483647 := iM 55 0 (jm_w ((jm_w (60 * l7)) + l3))
    refine wp_e (by exact (iM 55 0 (jm_w ((jm_w (60 * l7)) + l3)))) (fun v11 e_16 hv11 => ?_)
    have b_18 : -2147483648 ≤ v11 ∧ v11 ≤ 2147483647 := hv11
    refine wp_ite (fun c_17 => ?_) (fun c_17 => ?_)
    · skip
      have b_19 : -2147483648 ≤ l6 ∧ l6 ≤ 2147483647 := hl6
      have w_20 : (jm_w (l6 + 0)) = (l6 + 0) := jm_wid (by omega) (by omega)
      refine wp_e (by exact (jm_w_in _)) (fun v14 e_21 hv14 => ?_)
      have w_22 : (jm_w (l7 + 1)) = (l7 + 1) := jm_wid (by omega) (by omega)
      refine wp_e (by exact (jm_w_in _)) (fun v16 e_23 hv16 => ?_)
      have b_24 : -2147483648 ≤ v16 ∧ v16 ≤ 2147483647 := hv16
      have b_25 : -2147483648 ≤ l5 ∧ l5 ≤ 2147483647 := hl5
      have b_26 : -2147483648 ≤ v14 ∧ v14 ≤ 2147483647 := hv14
      exact hk43 l2 l3 l4 l5 v14 v16  ⟨by omega, by omega⟩ ⟨by omega, by omega⟩ ⟨by omega, by omega⟩ hl5 hv14 ⟨by omega, by omega⟩  (by omega) (by omega)
    · skip
      have b_28 : -2147483648 ≤ l5 ∧ l5 ≤ 2147483647 := hl5
      refine wp_ite (fun c_27 => ?_) (fun c_27 => ?_)
      · skip
        have b_29 : -2147483648 ≤ l6 ∧ l6 ≤ 2147483647 := hl6
        have w_30 : -2147483648 ≤ (jm_w (l6 + 1)) ∧ (jm_w (l6 + 1)) ≤ 2147483647 := jm_w_in _
        refine wp_e (by exact (jm_w_in _)) (fun v19 e_31 hv19 => ?_)
        have w_32 : (jm_w (l7 + 1)) = (l7 + 1) := jm_wid (by omega) (by omega)
        refine wp_e (by exact (jm_w_in _)) (fun v21 e_33 hv21 => ?_)
        have b_34 : -2147483648 ≤ v21 ∧ v21 ≤ 2147483647 := hv21
        have b_35 : -2147483648 ≤ v19 ∧ v19 ≤ 2147483647 := hv19
        exact hk43 l2 l3 l4 l5 v19 v21  ⟨by omega, by omega⟩ ⟨by omega, by omega⟩ ⟨by omega, by omega⟩ hl5 hv19 ⟨by omega, by omega⟩  (by omega) (by omega)
      · skip
        refine wp_ite (fun c_36 => ?_) (fun c_36 => ?_)
        · skip
          refine wp_ite (fun c_37 => ?_) (fun c_37 => ?_)
          · skip
            have b_38 : -2147483648 ≤ l6 ∧ l6 ≤ 2147483647 := hl6
            have w_39 : (jm_w (l6 + 0)) = (l6 + 0) := jm_wid (by omega) (by omega)
            refine wp_e (by exact (jm_w_in _)) (fun v25 e_40 hv25 => ?_)
            have w_41 : (jm_w (l7 + 1)) = (l7 + 1) := jm_wid (by omega) (by omega)
            refine wp_e (by exact (jm_w_in _)) (fun v27 e_42 hv27 => ?_)
            have b_43 : -2147483648 ≤ v27 ∧ v27 ≤ 2147483647 := hv27
            have b_44 : -2147483648 ≤ v25 ∧ v25 ≤ 2147483647 := hv25
            exact hk43 l2 l3 l4 l5 v25 v27  ⟨by omega, by omega⟩ ⟨by omega, by omega⟩ ⟨by omega, by omega⟩ hl5 hv25 ⟨by omega, by omega⟩  (by omega) (by omega)
          · skip
            have b_45 : -2147483648 ≤ l6 ∧ l6 ≤ 2147483647 := hl6
            have w_46 : -2147483648 ≤ (jm_w (l6 + 1)) ∧ (jm_w (l6 + 1)) ≤ 2147483647 := jm_w_in _
            refine wp_e (by exact (jm_w_in _)) (fun v29 e_47 hv29 => ?_)
            have w_48 : (jm_w (l7 + 1)) = (l7 + 1) := jm_wid (by omega) (by omega)
            refine wp_e (by exact (jm_w_in _)) (fun v31 e_49 hv31 => ?_)
            have b_50 : -2147483648 ≤ v31 ∧ v31 ≤ 2147483647 := hv31
            have b_51 : -2147483648 ≤ v29 ∧ v29 ≤ 2147483647 := hv29
            exact hk43 l2 l3 l4 l5 v29 v31  ⟨by omega, by omega⟩ ⟨by omega, by omega⟩ ⟨by omega, by omega⟩ hl5 hv29 ⟨by omega, by omega⟩  (by omega) (by omega)
        · skip
          have b_52 : -2147483648 ≤ l6 ∧ l6 ≤ 2147483647 := hl6
          have w_53 : (jm_w (l6 + 0)) = (l6 + 0) := jm_wid (by omega) (by omega)
          refine wp_e (by exact (jm_w_in _)) (fun v33 e_54 hv33 => ?_)
          have w_55 : (jm_w (l7 + 1)) = (l7 + 1) := jm_wid (by omega) (by omega)
          refine wp_e (by exact (jm_w_in _)) (fun v35 e_56 hv35 => ?_)
          have b_57 : -2147483648 ≤ v35 ∧ v35 ≤ 2147483647 := hv35
          have b_58 : -2147483648 ≤ v33 ∧ v33 ≤ 2147483647 := hv33
          exact hk43 l2 l3 l4 l5 v33 v35  ⟨by omega, by omega⟩ ⟨by omega, by omega⟩ ⟨by omega, by omega⟩ hl5 hv33 ⟨by omega, by omega⟩  (by omega) (by omega)
set_option maxHeartbeats 4000000 in
set_option maxRecDepth 100000 in
theorem s_fX12_ledBy_43 (fu : Nat) (hfu : 4000 ≤ fu) (M : jm_M) (iM : bI bx2 M) (k14 : jm_M → Int → Int → Int → jm_R) (N14 : Int) (hk14 : ∀ (l2 l3 l4 : Int) (hl2 : 0 ≤ l2 ∧ l2 ≤ 2147483647) (hl3 : 1 ≤ l3 ∧ l3 ≤ 59) (hl4 : 0 ≤ l4 ∧ l4 ≤ 6), 7 - l4 < N14 → wp (k14 M l2 l3 l4) (fun r M1 => M1 = M ∧ ((-1) ≤ r ∧ r ≤ 5))) : ∀ (n : Nat) (l2 l3 l4 l5 l6 l7 : Int) (hl2 : 0 ≤ l2 ∧ l2 ≤ 2147483647) (hl3 : 1 ≤ l3 ∧ l3 ≤ 59) (hl4 : 0 ≤ l4 ∧ l4 ≤ 5) (hl5 : jm_in l5) (hl6 : jm_in l6) (hl7 : 0 ≤ l7 ∧ l7 ≤ 6), 7 - l4 < N14 + 1 → 7 - l7 < (n : Int) → wp (fX12_ledBy_43 fu k14 n M l2 l3 l4 l5 l6 l7) (fun r M1 => M1 = M ∧ ((-1) ≤ r ∧ r ≤ 5)) := by
  intro n
  induction n with
  | zero => intro l2 l3 l4 l5 l6 l7 hl2 hl3 hl4 hl5 hl6 hl7 m14 hm; exfalso; omega
  | succ n ih =>
    intro l2 l3 l4 l5 l6 l7 hl2 hl3 hl4 hl5 hl6 hl7 m14 hm
    exact s_gX12_ledBy_43 fu hfu M iM k14 (fX12_ledBy_43 fu k14 n) N14 (n : Int) hk14 ih l2 l3 l4 l5 l6 l7 hl2 hl3 hl4 hl5 hl6 hl7 m14 (by omega)
set_option maxHeartbeats 4000000 in
set_option maxRecDepth 100000 in
theorem s_gX12_ledBy_14 (fu : Nat) (hfu : 4000 ≤ fu) (M : jm_M) (iM : bI bx2 M) (k14 : jm_M → Int → Int → Int → jm_R) (N14 : Int) (hk14 : ∀ (l2 l3 l4 : Int) (hl2 : 0 ≤ l2 ∧ l2 ≤ 2147483647) (hl3 : 1 ≤ l3 ∧ l3 ≤ 59) (hl4 : 0 ≤ l4 ∧ l4 ≤ 6), 7 - l4 < N14 → wp (k14 M l2 l3 l4) (fun r M1 => M1 = M ∧ ((-1) ≤ r ∧ r ≤ 5))) : ∀ (l2 l3 l4 : Int) (hl2 : 0 ≤ l2 ∧ l2 ≤ 2147483647) (hl3 : 1 ≤ l3 ∧ l3 ≤ 59) (hl4 : 0 ≤ l4 ∧ l4 ≤ 6), 7 - l4 < N14 + 1 → wp (gX12_ledBy_14 fu k14 M l2 l3 l4) (fun r M1 => M1 = M ∧ ((-1) ≤ r ∧ r ≤ 5)) := by
  intro l2 l3 l4 hl2 hl3 hl4 m14
  unfold gX12_ledBy_14
  have b_2 : 0 ≤ (M 0 0 17) ∧ (M 0 0 17) ≤ 6 := iM 0 0 17
  refine wp_ite (fun c_1 => ?_) (fun c_1 => ?_)
  · skip
    exact wp_ret ⟨rfl, by omega⟩
  · skip
    have w_3 : (jm_w (60 * l4)) = (60 * l4) := jm_wid (by omega) (by omega)
    have w_4 : (jm_w ((jm_w (60 * l4)) + l3)) = ((jm_w (60 * l4)) + l3) := jm_wid (by omega) (by omega)
    refine wp_T ⟨by omega, by omega⟩ ?_
    have b_5 : (-2147483648) ≤ (M 55 0 (jm_w ((jm_w (60 * l4)) + l3))) ∧ (M 55 0 (jm_w ((jm_w (60 * l4)) + l3))) ≤ 2147483647 := iM 55 0 (jm_w ((jm_w (60 * l4)) + l3))
    refine wp_e (by exact (iM 55 0 (jm_w ((jm_w (60 * l4)) + l3)))) (fun v5 e_6 hv5 => ?_)
    have b_7 : -2147483648 ≤ v5 ∧ v5 ≤ 2147483647 := hv5
    exact s_fX12_ledBy_43 fu hfu M iM k14 N14 hk14 fu l2 l3 l4 v5 0 0  ⟨by omega, by omega⟩ ⟨by omega, by omega⟩ ⟨by omega, by omega⟩ hv5 (jm_inL (by decide) (by decide)) ⟨by omega, by omega⟩  (by omega) (by omega)
set_option maxHeartbeats 4000000 in
set_option maxRecDepth 100000 in
theorem s_fX12_ledBy_14 (fu : Nat) (hfu : 4000 ≤ fu) (M : jm_M) (iM : bI bx2 M) : ∀ (n : Nat) (l2 l3 l4 : Int) (hl2 : 0 ≤ l2 ∧ l2 ≤ 2147483647) (hl3 : 1 ≤ l3 ∧ l3 ≤ 59) (hl4 : 0 ≤ l4 ∧ l4 ≤ 6), 7 - l4 < (n : Int) → wp (fX12_ledBy_14 fu  n M l2 l3 l4) (fun r M1 => M1 = M ∧ ((-1) ≤ r ∧ r ≤ 5)) := by
  intro n
  induction n with
  | zero => intro l2 l3 l4 hl2 hl3 hl4 hm; exfalso; omega
  | succ n ih =>
    intro l2 l3 l4 hl2 hl3 hl4 hm
    exact s_gX12_ledBy_14 fu hfu M iM (fX12_ledBy_14 fu  n) (n : Int) ih l2 l3 l4 hl2 hl3 hl4 (by omega)
set_option maxHeartbeats 4000000 in
set_option maxRecDepth 100000 in
theorem s_fX12_ledBy (fu : Nat) (hfu : 4000 ≤ fu) (M : jm_M) (iM : bI bx2 M) (l1 l2 : Int) (hl1 : 0 ≤ l1 ∧ l1 ≤ 11) (hl2 : 0 ≤ l2 ∧ l2 ≤ 2147483647) : wp (fX12_ledBy fu M l1 l2) (fun r M1 => M1 = M ∧ ((-1) ≤ r ∧ r ≤ 5)) := by
  unfold fX12_ledBy
  have b_1 : 2 ≤ (M 0 0 1) ∧ (M 0 0 1) ≤ 5 := iM 0 0 1
  have w_2 : (jm_w (l1 + 1)) = (l1 + 1) := jm_wid (by omega) (by omega)
  have p_3 : 0 ≤ ((M 0 0 1) * (jm_w (l1 + 1))) ∧ ((M 0 0 1) * (jm_w (l1 + 1))) ≤ 60 := jm_mulb (A := 5) (B := 12) (by omega) (by omega) (by omega) (by omega) (by decide)
  have p_4 : 2 ≤ ((M 0 0 1) * (jm_w (l1 + 1))) := jm_mull (A := 2) (B := 1) (by omega) (by omega) (by omega) (by omega) (by decide)
  have w_5 : (jm_w ((M 0 0 1) * (jm_w (l1 + 1)))) = ((M 0 0 1) * (jm_w (l1 + 1))) := jm_wid (by omega) (by omega)
  have w_6 : (jm_w ((jm_w ((M 0 0 1) * (jm_w (l1 + 1)))) - 1)) = ((jm_w ((M 0 0 1) * (jm_w (l1 + 1)))) - 1) := jm_wid (by omega) (by omega)
  refine wp_e (by exact (jm_w_in _)) (fun v2 e_7 hv2 => ?_)
  have b_8 : -2147483648 ≤ v2 ∧ v2 ≤ 2147483647 := hv2
  exact s_fX12_ledBy_14 fu hfu M iM    fu l2 v2 0  ⟨by omega, by omega⟩ ⟨by omega, by omega⟩ ⟨by omega, by omega⟩   (by omega)
set_option maxHeartbeats 4000000 in
set_option maxRecDepth 100000 in
theorem s_gX12_leads_13 (fu : Nat) (hfu : 4000 ≤ fu) (M0 : jm_M) (w0 : WF M0) (k13 : jm_M → Int → Int → jm_R) (N13 : Int) (hk13 : ∀ (l1 l2 : Int) (M : jm_M) (iM : bI bx2 M) (kM : Kp TA2 M0 M) (hl1 : jm_in l1) (hl2 : 1 ≤ l2 ∧ l2 ≤ 12), 13 - l2 < N13 → wp (k13 M l1 l2) (fun r M1 => bI bx2 M1 ∧ Kp TA2 M0 M1 ∧ (jm_in r))) : ∀ (l1 l2 : Int) (M : jm_M) (iM : bI bx2 M) (kM : Kp TA2 M0 M) (hl1 : jm_in l1) (hl2 : 1 ≤ l2 ∧ l2 ≤ 12), 13 - l2 < N13 + 1 → wp (gX12_leads_13 fu k13 M l1 l2) (fun r M1 => bI bx2 M1 ∧ Kp TA2 M0 M1 ∧ (jm_in r)) := by
  intro l1 l2 M iM kM hl1 hl2 m13
  unfold gX12_leads_13
  have b_2 : 1 ≤ (M 0 0 2) ∧ (M 0 0 2) ≤ 12 := iM 0 0 2
  refine wp_ite (fun c_1 => ?_) (fun c_1 => ?_)
  · skip
    have b_3 : -2147483648 ≤ l1 ∧ l1 ≤ 2147483647 := hl1
    exact wp_ret ⟨iM, kM, hl1⟩
  · skip
    refine wp_bp (s_fX12_ledBy fu hfu M iM l2 0 ⟨by omega, by omega⟩ ⟨by omega, by omega⟩ ) (fun v3 hv3 => ?_)
    refine wp_ite (fun c_4 => ?_) (fun c_4 => ?_)
    · skip
      have b_5 : -2147483648 ≤ l1 ∧ l1 ≤ 2147483647 := hl1
      have w_6 : (jm_w (l1 + 0)) = (l1 + 0) := jm_wid (by omega) (by omega)
      refine wp_e (by exact (jm_w_in _)) (fun v7 e_7 hv7 => ?_)
      have w_8 : (jm_w (l2 + 1)) = (l2 + 1) := jm_wid (by omega) (by omega)
      refine wp_e (by exact (jm_w_in _)) (fun v9 e_9 hv9 => ?_)
      have b_10 : -2147483648 ≤ v9 ∧ v9 ≤ 2147483647 := hv9
      have b_11 : -2147483648 ≤ v7 ∧ v7 ≤ 2147483647 := hv7
      exact hk13 v7 v9 M iM kM hv7 ⟨by omega, by omega⟩  (by omega)
    · skip
      refine wp_bp (s_fX12_ledBy fu hfu M iM l2 0 ⟨by omega, by omega⟩ ⟨by omega, by omega⟩ ) (fun v11 hv11 => ?_)
      have w_12 : (jm_w (l2 - 1)) = (l2 - 1) := jm_wid (by omega) (by omega)
      refine wp_bp (s_fX12_ledBy fu hfu M iM (jm_w (l2 - 1)) 0 ⟨by omega, by omega⟩ ⟨by omega, by omega⟩ ) (fun v14 hv14 => ?_)
      refine wp_ite (fun c_13 => ?_) (fun c_13 => ?_)
      · skip
        have b_14 : -2147483648 ≤ l1 ∧ l1 ≤ 2147483647 := hl1
        have w_15 : (jm_w (l1 + 0)) = (l1 + 0) := jm_wid (by omega) (by omega)
        refine wp_e (by exact (jm_w_in _)) (fun v18 e_16 hv18 => ?_)
        have w_17 : (jm_w (l2 + 1)) = (l2 + 1) := jm_wid (by omega) (by omega)
        refine wp_e (by exact (jm_w_in _)) (fun v20 e_18 hv20 => ?_)
        have b_19 : -2147483648 ≤ v20 ∧ v20 ≤ 2147483647 := hv20
        have b_20 : -2147483648 ≤ v18 ∧ v18 ≤ 2147483647 := hv18
        exact hk13 v18 v20 M iM kM hv18 ⟨by omega, by omega⟩  (by omega)
      · skip
        have b_21 : -2147483648 ≤ l1 ∧ l1 ≤ 2147483647 := hl1
        have w_22 : -2147483648 ≤ (jm_w (l1 + 1)) ∧ (jm_w (l1 + 1)) ≤ 2147483647 := jm_w_in _
        refine wp_e (by exact (jm_w_in _)) (fun v22 e_23 hv22 => ?_)
        have w_24 : (jm_w (l2 + 1)) = (l2 + 1) := jm_wid (by omega) (by omega)
        refine wp_e (by exact (jm_w_in _)) (fun v24 e_25 hv24 => ?_)
        have b_26 : -2147483648 ≤ v24 ∧ v24 ≤ 2147483647 := hv24
        have b_27 : -2147483648 ≤ v22 ∧ v22 ≤ 2147483647 := hv22
        exact hk13 v22 v24 M iM kM hv22 ⟨by omega, by omega⟩  (by omega)
set_option maxHeartbeats 4000000 in
set_option maxRecDepth 100000 in
theorem s_fX12_leads_13 (fu : Nat) (hfu : 4000 ≤ fu) (M0 : jm_M) (w0 : WF M0) : ∀ (n : Nat) (l1 l2 : Int) (M : jm_M) (iM : bI bx2 M) (kM : Kp TA2 M0 M) (hl1 : jm_in l1) (hl2 : 1 ≤ l2 ∧ l2 ≤ 12), 13 - l2 < (n : Int) → wp (fX12_leads_13 fu  n M l1 l2) (fun r M1 => bI bx2 M1 ∧ Kp TA2 M0 M1 ∧ (jm_in r)) := by
  intro n
  induction n with
  | zero => intro l1 l2 M iM kM hl1 hl2 hm; exfalso; omega
  | succ n ih =>
    intro l1 l2 M iM kM hl1 hl2 hm
    exact s_gX12_leads_13 fu hfu M0 w0 (fX12_leads_13 fu  n) (n : Int) ih l1 l2 M iM kM hl1 hl2 (by omega)
set_option maxHeartbeats 4000000 in
set_option maxRecDepth 100000 in
theorem s_fX12_leads (fu : Nat) (hfu : 4000 ≤ fu) (M : jm_M) (iM : bI bx2 M) (wM : WF M) : wp (fX12_leads fu M ) (fun r M1 => bI bx2 M1 ∧ Kp TA2 M M1 ∧ (jm_in r)) := by
  have kM : Kp TA2 M M := Kp.rf
  unfold fX12_leads
  refine wp_sk iM (jm_inL (by decide) (by decide)) kM (by unfold TA2; omega) (fun M1 u_1 iM1 kM1 => ?_)
  refine wp_bk (s_fX12_runs fu hfu M1 iM1   (WF.kp kM1 wM wf_TA2) ) (fun v2 M3 iM3 jM3 hv2 => ?_)
  have kM3 := kM1.tr jM3 (fun _ _ _ h => h)
  exact s_fX12_leads_13 fu hfu M wM    fu 0 1 M3 iM3 kM3 (jm_inL (by decide) (by decide)) ⟨by omega, by omega⟩   (by omega)
set_option maxHeartbeats 4000000 in
set_option maxRecDepth 100000 in
theorem s_fX12_led (fu : Nat) (hfu : 4000 ≤ fu) (M : jm_M) (iM : bI bx2 M) (l1 l2 : Int) (hl1 : jm_in l1) (hl2 : jm_in l2) (wM : WF M) : wp (fX12_led fu M l1 l2) (fun r M1 => bI bx2 M1 ∧ Kp TA2 M M1 ∧ ((-1) ≤ r ∧ r ≤ 5)) := by
  have kM : Kp TA2 M M := Kp.rf
  unfold fX12_led
  refine wp_sk iM (jm_inL (by decide) (by decide)) kM (by unfold TA2; omega) (fun M1 u_1 iM1 kM1 => ?_)
  refine wp_bp (s_fX12_isLap M1 iM1 l1 hl1 ) (fun v2 hv2 => ?_)
  have b_2 : -2147483648 ≤ l1 ∧ l1 ≤ 2147483647 := hl1
  have q_3 : (M1 0 0 2) = (M 0 0 2) := by rw [u_1]; exact jm_une_k (by decide)
  have b_4 : 1 ≤ (M 0 0 2) ∧ (M 0 0 2) ≤ 12 := iM 0 0 2
  refine wp_ite (fun c_5 => ?_) (fun c_5 => ?_)
  · skip
    exact wp_ret ⟨iM1, kM1, by omega⟩
  · skip
    have b_7 : -2147483648 ≤ l2 ∧ l2 ≤ 2147483647 := hl2
    refine wp_ite (fun c_6 => ?_) (fun c_6 => ?_)
    · skip
      refine wp_bk (s_fX12_runs fu hfu M1 iM1   (WF.kp kM1 wM wf_TA2) ) (fun v7 M8 iM8 jM8 hv7 => ?_)
      have kM8 := kM1.tr jM8 (fun _ _ _ h => h)
      refine wp_bp (s_fX12_ledBy fu hfu M8 iM8 l1 l2 ⟨by omega, by omega⟩ ⟨by omega, by omega⟩ ) (fun v9 hv9 => ?_)
      exact wp_ret ⟨iM8, kM8, by omega⟩
    · skip
      exact wp_ret ⟨iM1, kM1, by omega⟩
set_option maxHeartbeats 4000000 in
set_option maxRecDepth 100000 in
theorem s_fX12_lost (M : jm_M) (iM : bI bx2 M) (l1 l2 : Int) (hl1 : jm_in l1) (hl2 : 0 ≤ l2 ∧ l2 ≤ 1) : wp (fX12_lost M l1 l2) (fun r M1 => bI bx2 M1 ∧ Kp RC2 M M1 ∧ (0 ≤ r ∧ r ≤ 1 ∧ (((0 ≤ l1 ∧ l1 < M 0 0 1 - 1) ∧ r = 1) ∨ (¬ (0 ≤ l1 ∧ l1 < M 0 0 1 - 1) ∧ r = 0)))) := by
  have kM : Kp RC2 M M := Kp.rf
  unfold fX12_lost
  refine wp_sk iM (jm_inL (by decide) (by decide)) kM (by unfold RC2; omega) (fun M1 u_1 iM1 kM1 => ?_)
  have q_2 : (M1 0 0 1) = (M 0 0 1) := by rw [u_1]; exact jm_une_k (by decide)
  have r_3 : (jm_w ((M1 0 0 1) - 2)) = (jm_w ((M 0 0 1) - 2)) := congrArg jm_w (by omega)
  have b_4 : 2 ≤ (M 0 0 1) ∧ (M 0 0 1) ≤ 5 := iM 0 0 1
  have w_5 : (jm_w ((M 0 0 1) - 2)) = ((M 0 0 1) - 2) := jm_wid (by omega) (by omega)
  refine wp_bp (s_fX12_in M1 iM1 l1 0 (jm_w ((M1 0 0 1) - 2)) hl1 ⟨by omega, by omega⟩ ⟨by omega, by omega⟩ ) (fun v3 hv3 => ?_)
  have b_6 : -2147483648 ≤ l1 ∧ l1 ≤ 2147483647 := hl1
  refine wp_ite (fun c_7 => ?_) (fun c_7 => ?_)
  · skip
    exact wp_ret ⟨iM1, kM1, by omega, by omega, by omega⟩
  · skip
    refine wp_T ⟨by omega, by omega⟩ ?_
    refine wp_T (by omega) ?_
    refine wp_sk iM1 (show 0 ≤ l2 ∧ l2 ≤ 1 by omega) kM1 (by unfold RC2; omega) (fun M8 u_8 iM8 kM8 => ?_)
    exact wp_ret ⟨iM8, kM8, by omega, by omega, by omega⟩
set_option maxHeartbeats 4000000 in
set_option maxRecDepth 100000 in
theorem s_fX12_mostOf (M : jm_M) (iM : bI bx2 M) (l0 : Int) (hl0 : 0 ≤ l0 ∧ l0 ≤ 7) : wp (fX12_mostOf M l0) (fun r M1 => M1 = M ∧ ((l0 = 0 ∧ r = 2000) ∨ (l0 = 1 ∧ r = 50) ∨ (l0 = 2 ∧ r = 500) ∨ (l0 = 3 ∧ r = 60000) ∨ (l0 = 4 ∧ r = 20000) ∨ (l0 = 5 ∧ r = 200) ∨ (l0 = 6 ∧ r = 2000) ∨ (l0 = 7 ∧ r = 9))) := by
  unfold fX12_mostOf
  refine wp_ite (fun c_1 => ?_) (fun c_1 => ?_)
  · skip
    exact wp_ret ⟨rfl, by omega⟩
  · skip
    refine wp_ite (fun c_2 => ?_) (fun c_2 => ?_)
    · skip
      exact wp_ret ⟨rfl, by omega⟩
    · skip
      refine wp_ite (fun c_3 => ?_) (fun c_3 => ?_)
      · skip
        exact wp_ret ⟨rfl, by omega⟩
      · skip
        refine wp_ite (fun c_4 => ?_) (fun c_4 => ?_)
        · skip
          exact wp_ret ⟨rfl, by omega⟩
        · skip
          refine wp_ite (fun c_5 => ?_) (fun c_5 => ?_)
          · skip
            exact wp_ret ⟨rfl, by omega⟩
          · skip
            refine wp_ite (fun c_6 => ?_) (fun c_6 => ?_)
            · skip
              exact wp_ret ⟨rfl, by omega⟩
            · skip
              refine wp_ite (fun c_7 => ?_) (fun c_7 => ?_)
              · skip
                exact wp_ret ⟨rfl, by omega⟩
              · skip
                exact wp_ret ⟨rfl, by omega⟩
set_option maxHeartbeats 4000000 in
set_option maxRecDepth 100000 in
theorem s_fX12_mostOfTyres (M : jm_M) (iM : bI bx2 M) (l0 : Int) (hl0 : 0 ≤ l0 ∧ l0 ≤ 5) : wp (fX12_mostOfTyres M l0) (fun r M1 => M1 = M ∧ ((l0 = 0 ∧ r = 3000) ∨ (l0 = 1 ∧ r = 100) ∨ (l0 = 2 ∧ r = 200) ∨ (l0 = 3 ∧ r = 5000) ∨ (l0 = 4 ∧ r = 100) ∨ (l0 = 5 ∧ r = 100))) := by
  unfold fX12_mostOfTyres
  refine wp_ite (fun c_1 => ?_) (fun c_1 => ?_)
  · skip
    exact wp_ret ⟨rfl, by omega⟩
  · skip
    refine wp_ite (fun c_2 => ?_) (fun c_2 => ?_)
    · skip
      exact wp_ret ⟨rfl, by omega⟩
    · skip
      refine wp_ite (fun c_3 => ?_) (fun c_3 => ?_)
      · skip
        exact wp_ret ⟨rfl, by omega⟩
      · skip
        exact wp_ret ⟨rfl, by omega⟩
set_option maxHeartbeats 4000000 in
set_option maxRecDepth 100000 in
theorem s_fX12_move (fu : Nat) (hfu : 4000 ≤ fu) (M : jm_M) (iM : bI bx2 M) (l1 l2 l3 l4 : Int) (hl1 : jm_in l1) (hl2 : jm_in l2) (hl3 : jm_in l3) (hl4 : jm_in l4) (wM : WF M) : wp (fX12_move fu M l1 l2 l3 l4) (fun r M1 => bI bx2 M1 ∧ Kp RC2 M M1 ∧ ((-2) ≤ r ∧ r ≤ 5)) := by
  have kM : Kp RC2 M M := Kp.rf
  unfold fX12_move
  refine wp_sk iM (jm_inL (by decide) (by decide)) kM (by unfold RC2; omega) (fun M1 u_1 iM1 kM1 => ?_)
  refine wp_bp (s_fX12_isCar M1 iM1 l1 hl1 ) (fun v2 hv2 => ?_)
  have b_2 : -2147483648 ≤ l1 ∧ l1 ≤ 2147483647 := hl1
  have q_3 : (M1 0 0 17) = (M 0 0 17) := by rw [u_1]; exact jm_une_k (by decide)
  have b_4 : 0 ≤ (M 0 0 17) ∧ (M 0 0 17) ≤ 6 := iM 0 0 17
  refine wp_ite (fun c_5 => ?_) (fun c_5 => ?_)
  · skip
    exact wp_ret ⟨iM1, kM1, by omega⟩
  · skip
    refine wp_T ⟨by omega, by omega⟩ ?_
    have q_6 : (M1 26 0 l1) = (M 26 0 l1) := by rw [u_1]; exact jm_une_f (by decide)
    have r_7 : (jm_w ((M1 26 0 l1) - 1)) = (jm_w ((M 26 0 l1) - 1)) := congrArg jm_w (by omega)
    have b_8 : 0 ≤ (M 26 0 l1) ∧ (M 26 0 l1) ≤ 5 := iM 26 0 l1
    have w_9 : (jm_w ((M 26 0 l1) - 1)) = ((M 26 0 l1) - 1) := jm_wid (by omega) (by omega)
    refine wp_bp (s_fX12_in M1 iM1 l2 0 (jm_w ((M1 26 0 l1) - 1)) hl2 ⟨by omega, by omega⟩ ⟨by omega, by omega⟩ ) (fun v8 hv8 => ?_)
    have b_10 : -2147483648 ≤ l2 ∧ l2 ≤ 2147483647 := hl2
    refine wp_ite (fun c_11 => ?_) (fun c_11 => ?_)
    · skip
      exact wp_ret ⟨iM1, kM1, by omega⟩
    · skip
      refine wp_bp (s_fX12_isStopLap M1 iM1 l3 hl3 ) (fun v12 hv12 => ?_)
      have b_12 : -2147483648 ≤ l3 ∧ l3 ≤ 2147483647 := hl3
      have q_13 : (M1 0 0 2) = (M 0 0 2) := by rw [u_1]; exact jm_une_k (by decide)
      have b_14 : 1 ≤ (M 0 0 2) ∧ (M 0 0 2) ≤ 12 := iM 0 0 2
      refine wp_ite (fun c_15 => ?_) (fun c_15 => ?_)
      · skip
        exact wp_ret ⟨iM1, kM1, by omega⟩
      · skip
        refine wp_bp (s_fX12_isDay M1 iM1 l4 hl4 ) (fun v16 hv16 => ?_)
        have b_16 : -2147483648 ≤ l4 ∧ l4 ≤ 2147483647 := hl4
        refine wp_ite (fun c_17 => ?_) (fun c_17 => ?_)
        · skip
          exact wp_ret ⟨iM1, kM1, by omega⟩
        · skip
          have w_18 : (jm_w (5 * l1)) = (5 * l1) := jm_wid (by omega) (by omega)
          have w_19 : (jm_w ((jm_w (5 * l1)) + l2)) = ((jm_w (5 * l1)) + l2) := jm_wid (by omega) (by omega)
          refine wp_e (by exact (jm_w_in _)) (fun v20 e_20 hv20 => ?_)
          have b_21 : -2147483648 ≤ v20 ∧ v20 ≤ 2147483647 := hv20
          refine wp_T ⟨by omega, by omega⟩ ?_
          have q_22 : (M1 27 0 v20) = (M 27 0 v20) := by rw [u_1]; exact jm_une_f (by decide)
          have b_23 : (-2147483648) ≤ (M 27 0 v20) ∧ (M 27 0 v20) ≤ 2147483647 := iM 27 0 v20
          refine wp_e (by exact (bx2_in (iM1 27 0 v20))) (fun v24 e_24 hv24 => ?_)
          refine wp_T ⟨by omega, by omega⟩ ?_
          refine wp_sk iM1 hl3 kM1 (by unfold RC2; omega) (fun M27 u_25 iM27 kM27 => ?_)
          refine wp_bk (s_fX12_judges fu hfu M27 iM27 l4 ⟨by omega, by omega⟩ (WF.kp kM27 wM wf_RC2) ) (fun v28 M29 iM29 jM29 hv28 => ?_)
          have kM29 := kM27.tr jM29 tt_RC2_TA2
          refine wp_T ⟨by omega, by omega⟩ ?_
          refine wp_sk iM29 hv24 kM29 (by unfold RC2; omega) (fun M31 u_26 iM31 kM31 => ?_)
          refine wp_bp (s_fX12_placeOf fu hfu M31 iM31 l1 0 ⟨by omega, by omega⟩ ⟨by omega, by omega⟩ ) (fun v32 hv32 => ?_)
          refine wp_ite (fun c_27 => ?_) (fun c_27 => ?_)
          · skip
            exact wp_ret ⟨iM31, kM31, by omega⟩
          · skip
            exact wp_ret ⟨iM31, kM31, by omega⟩
set_option maxHeartbeats 4000000 in
set_option maxRecDepth 100000 in
theorem s_fX12_refuse (M : jm_M) (iM : bI bx2 M) : wp (fX12_refuse M ) (fun r M1 => bI bx2 M1 ∧ Kp TA2 M M1 ∧ (0 ≤ r ∧ r ≤ 0)) := by
  have kM : Kp TA2 M M := Kp.rf
  unfold fX12_refuse
  refine wp_sk iM (jm_inL (by decide) (by decide)) kM (by unfold TA2; omega) (fun M1 u_1 iM1 kM1 => ?_)
  exact wp_ret ⟨iM1, kM1, by omega⟩
set_option maxHeartbeats 4000000 in
set_option maxRecDepth 100000 in
theorem s_fX12_of (fu : Nat) (hfu : 4000 ≤ fu) (M : jm_M) (iM : bI bx2 M) (l1 l2 : Int) (hl1 : jm_in l1) (hl2 : jm_in l2) (wM : WF M) : wp (fX12_of fu M l1 l2) (fun r M1 => bI bx2 M1 ∧ Kp TA2 M M1 ∧ (jm_in r)) := by
  have kM : Kp TA2 M M := Kp.rf
  unfold fX12_of
  refine wp_sk iM (jm_inL (by decide) (by decide)) kM (by unfold TA2; omega) (fun M1 u_1 iM1 kM1 => ?_)
  refine wp_bp (s_fX12_isCar M1 iM1 l1 hl1 ) (fun v2 hv2 => ?_)
  have b_2 : -2147483648 ≤ l1 ∧ l1 ≤ 2147483647 := hl1
  have q_3 : (M1 0 0 17) = (M 0 0 17) := by rw [u_1]; exact jm_une_k (by decide)
  have b_4 : 0 ≤ (M 0 0 17) ∧ (M 0 0 17) ≤ 6 := iM 0 0 17
  refine wp_ite (fun c_5 => ?_) (fun c_5 => ?_)
  · skip
    refine wp_bk (s_fX12_refuse M1 iM1   ) (fun v6 M7 iM7 jM7 hv6 => ?_)
    have kM7 := kM1.tr jM7 (fun _ _ _ h => h)
    exact wp_ret ⟨iM7, kM7, (jm_inL (by omega) (by omega))⟩
  · skip
    refine wp_bp (s_fX12_in M1 iM1 l2 0 10 hl2 ⟨by omega, by omega⟩ ⟨by omega, by omega⟩ ) (fun v9 hv9 => ?_)
    have b_6 : -2147483648 ≤ l2 ∧ l2 ≤ 2147483647 := hl2
    refine wp_ite (fun c_7 => ?_) (fun c_7 => ?_)
    · skip
      refine wp_bk (s_fX12_refuse M1 iM1   ) (fun v13 M14 iM14 jM14 hv13 => ?_)
      have kM14 := kM1.tr jM14 (fun _ _ _ h => h)
      exact wp_ret ⟨iM14, kM14, (jm_inL (by omega) (by omega))⟩
    · skip
      refine wp_bk (s_fX12_runs fu hfu M1 iM1   (WF.kp kM1 wM wf_TA2) ) (fun v16 M17 iM17 jM17 hv16 => ?_)
      have kM17 := kM1.tr jM17 (fun _ _ _ h => h)
      refine wp_ite (fun c_8 => ?_) (fun c_8 => ?_)
      · skip
        refine wp_T ⟨by omega, by omega⟩ ?_
        have b_9 : (-2147483648) ≤ (M17 39 0 l1) ∧ (M17 39 0 l1) ≤ 2147483647 := iM17 39 0 l1
        exact wp_ret ⟨iM17, kM17, (iM17 39 0 l1)⟩
      · skip
        refine wp_ite (fun c_10 => ?_) (fun c_10 => ?_)
        · skip
          refine wp_T ⟨by omega, by omega⟩ ?_
          have b_11 : (-2147483648) ≤ (M17 40 0 l1) ∧ (M17 40 0 l1) ≤ 2147483647 := iM17 40 0 l1
          exact wp_ret ⟨iM17, kM17, (iM17 40 0 l1)⟩
        · skip
          refine wp_ite (fun c_12 => ?_) (fun c_12 => ?_)
          · skip
            refine wp_T ⟨by omega, by omega⟩ ?_
            have b_13 : (-2147483648) ≤ (M17 43 0 l1) ∧ (M17 43 0 l1) ≤ 2147483647 := iM17 43 0 l1
            exact wp_ret ⟨iM17, kM17, (iM17 43 0 l1)⟩
          · skip
            refine wp_ite (fun c_14 => ?_) (fun c_14 => ?_)
            · skip
              refine wp_T ⟨by omega, by omega⟩ ?_
              have b_15 : (-2147483648) ≤ (M17 49 0 l1) ∧ (M17 49 0 l1) ≤ 2147483647 := iM17 49 0 l1
              exact wp_ret ⟨iM17, kM17, (iM17 49 0 l1)⟩
            · skip
              refine wp_ite (fun c_16 => ?_) (fun c_16 => ?_)
              · skip
                refine wp_T ⟨by omega, by omega⟩ ?_
                refine wp_bp (s_fJ6_bitCount_0f7a4_w2 M17 iM17 (M17 50 0 l1) (iM17 50 0 l1) ) (fun v33 hv33 => ?_)
                have b_17 : -2147483648 ≤ v33 ∧ v33 ≤ 2147483647 := hv33
                exact wp_ret ⟨iM17, kM17, hv33⟩
              · skip
                refine wp_ite (fun c_18 => ?_) (fun c_18 => ?_)
                · skip
                  refine wp_T ⟨by omega, by omega⟩ ?_
                  have b_19 : (-2147483648) ≤ (M17 51 0 l1) ∧ (M17 51 0 l1) ≤ 2147483647 := iM17 51 0 l1
                  exact wp_ret ⟨iM17, kM17, (iM17 51 0 l1)⟩
                · skip
                  refine wp_ite (fun c_20 => ?_) (fun c_20 => ?_)
                  · skip
                    refine wp_T ⟨by omega, by omega⟩ ?_
                    have b_21 : (-2147483648) ≤ (M17 44 0 l1) ∧ (M17 44 0 l1) ≤ 2147483647 := iM17 44 0 l1
                    exact wp_ret ⟨iM17, kM17, (iM17 44 0 l1)⟩
                  · skip
                    refine wp_ite (fun c_22 => ?_) (fun c_22 => ?_)
                    · skip
                      refine wp_T ⟨by omega, by omega⟩ ?_
                      have b_23 : (-1) ≤ (M17 45 0 l1) ∧ (M17 45 0 l1) ≤ 3 := iM17 45 0 l1
                      exact wp_ret ⟨iM17, kM17, (jm_inL (by omega) (by omega))⟩
                    · skip
                      refine wp_ite (fun c_24 => ?_) (fun c_24 => ?_)
                      · skip
                        refine wp_T ⟨by omega, by omega⟩ ?_
                        have b_26 : (-1) ≤ (M17 45 0 l1) ∧ (M17 45 0 l1) ≤ 3 := iM17 45 0 l1
                        refine wp_ite (fun c_25 => ?_) (fun c_25 => ?_)
                        · skip
                          refine wp_T ⟨by omega, by omega⟩ ?_
                          have w_27 : (jm_w (4 * l1)) = (4 * l1) := jm_wid (by omega) (by omega)
                          have w_28 : (jm_w ((jm_w (4 * l1)) + (M17 45 0 l1))) = ((jm_w (4 * l1)) + (M17 45 0 l1)) := jm_wid (by omega) (by omega)
                          refine wp_T ⟨by omega, by omega⟩ ?_
                          have b_29 : (-2147483648) ≤ (M17 46 0 (jm_w ((jm_w (4 * l1)) + (M17 45 0 l1)))) ∧ (M17 46 0 (jm_w ((jm_w (4 * l1)) + (M17 45 0 l1)))) ≤ 2147483647 := iM17 46 0 (jm_w ((jm_w (4 * l1)) + (M17 45 0 l1)))
                          exact wp_ret ⟨iM17, kM17, (iM17 46 0 (jm_w ((jm_w (4 * l1)) + (M17 45 0 l1))))⟩
                        · skip
                          exact wp_ret ⟨iM17, kM17, (jm_inL (by decide) (by decide))⟩
                      · skip
                        refine wp_ite (fun c_30 => ?_) (fun c_30 => ?_)
                        · skip
                          refine wp_T ⟨by omega, by omega⟩ ?_
                          have b_31 : (-2147483648) ≤ (M17 52 0 l1) ∧ (M17 52 0 l1) ≤ 2147483647 := iM17 52 0 l1
                          exact wp_ret ⟨iM17, kM17, (iM17 52 0 l1)⟩
                        · skip
                          refine wp_T ⟨by omega, by omega⟩ ?_
                          have b_32 : (-2147483648) ≤ (M17 53 0 l1) ∧ (M17 53 0 l1) ≤ 2147483647 := iM17 53 0 l1
                          exact wp_ret ⟨iM17, kM17, (iM17 53 0 l1)⟩
set_option maxHeartbeats 4000000 in
set_option maxRecDepth 100000 in
theorem s_gX12_option_38 (fu : Nat) (hfu : 4000 ≤ fu) (M0 : jm_M) : ∀ (l1 l2 l3 s0 : Int) (M : jm_M) (iM : bI bx2 M) (kM : Kp (TM2 31 l1) M0 M) (hl1 : jm_in l1) (hl2 : jm_in l2) (hl3 : jm_in l3) (hs0 : 0 ≤ s0 ∧ s0 ≤ 1) (y0 : ((s0 = 0 ∧ ¬ (0 ≤ l1 ∧ l1 < M 0 0 17 ∧ -1 ≤ l2 ∧ l2 ≤ M 0 0 2 - 2 ∧ -1 ≤ l3 ∧ l3 ≤ 3)) ∨ (s0 = 1 ∧ 0 ≤ l1 ∧ l1 < M 0 0 17 ∧ -1 ≤ l2 ∧ l2 ≤ M 0 0 2 - 2 ∧ -1 ≤ l3 ∧ l3 ≤ 3))) (z0 : M 31 0 l1 = M0 31 0 l1 ∧ M 0 0 1 = M0 0 0 1 ∧ M 0 0 2 = M0 0 0 2 ∧ M 0 0 17 = M0 0 0 17), wp (gX12_option_38 fu  M l1 l2 l3 s0) (fun r M1 => bI bx2 M1 ∧ Kp (TM2 31 l1) M0 M1 ∧ ((-1) ≤ r ∧ r ≤ 4 ∧ ((r = -1 ∧ ¬ (0 ≤ l1 ∧ l1 < M0 0 0 17 ∧ -1 ≤ l2 ∧ l2 ≤ M0 0 0 2 - 2 ∧ -1 ≤ l3 ∧ l3 ≤ 3 ∧ M0 31 0 l1 < 4) ∧ M1 31 0 l1 = M0 31 0 l1) ∨ ((0 ≤ l1 ∧ l1 < M0 0 0 17 ∧ -1 ≤ l2 ∧ l2 ≤ M0 0 0 2 - 2 ∧ -1 ≤ l3 ∧ l3 ≤ 3) ∧ M0 31 0 l1 < 4 ∧ M1 31 0 l1 = M0 31 0 l1 + 1 ∧ r = M1 31 0 l1)))) := by
  intro l1 l2 l3 s0 M iM kM hl1 hl2 hl3 hs0 y0 z0
  have b17 : 0 ≤ M 0 0 17 ∧ M 0 0 17 ≤ 6 := iM 0 0 17
  unfold gX12_option_38
  refine wp_ite (fun c_1 => ?_) (fun c_1 => ?_)
  · skip
    have b_2 : -2147483648 ≤ l1 ∧ l1 ≤ 2147483647 := hl1
    have b_3 : 0 ≤ (M 31 0 l1) ∧ (M 31 0 l1) ≤ 4 := iM 31 0 l1
    have b_4 : 2 ≤ (M 0 0 1) ∧ (M 0 0 1) ≤ 5 := iM 0 0 1
    have b_5 : 1 ≤ (M 0 0 2) ∧ (M 0 0 2) ≤ 12 := iM 0 0 2
    have b_6 : 0 ≤ (M 0 0 17) ∧ (M 0 0 17) ≤ 6 := iM 0 0 17
    exact wp_ret ⟨iM, kM, by omega, by omega, by omega⟩
  · skip
    have b_7 : -2147483648 ≤ l1 ∧ l1 ≤ 2147483647 := hl1
    refine wp_T ⟨by omega, by omega⟩ ?_
    have b_9 : 0 ≤ (M 31 0 l1) ∧ (M 31 0 l1) ≤ 4 := iM 31 0 l1
    refine wp_ite (fun c_8 => ?_) (fun c_8 => ?_)
    · skip
      have b_10 : 2 ≤ (M 0 0 1) ∧ (M 0 0 1) ≤ 5 := iM 0 0 1
      have b_11 : 1 ≤ (M 0 0 2) ∧ (M 0 0 2) ≤ 12 := iM 0 0 2
      have b_12 : 0 ≤ (M 0 0 17) ∧ (M 0 0 17) ≤ 6 := iM 0 0 17
      exact wp_ret ⟨iM, kM, by omega, by omega, by omega⟩
    · skip
      refine wp_T ⟨by omega, by omega⟩ ?_
      have w_13 : (jm_w (4 * l1)) = (4 * l1) := jm_wid (by omega) (by omega)
      have w_14 : (jm_w ((jm_w (4 * l1)) + (M 31 0 l1))) = ((jm_w (4 * l1)) + (M 31 0 l1)) := jm_wid (by omega) (by omega)
      refine wp_T ⟨by omega, by omega⟩ ?_
      refine wp_sk iM hl2 kM (by unfold TM2 RC2; omega) (fun M8 u_15 iM8 kM8 => ?_)
      refine wp_T ⟨by omega, by omega⟩ ?_
      have q_16 : (M8 31 0 l1) = (M 31 0 l1) := by rw [u_15]; exact jm_une_f (by decide)
      have r_17 : (jm_w ((jm_w (4 * l1)) + (M8 31 0 l1))) = (jm_w ((jm_w (4 * l1)) + (M 31 0 l1))) := congrArg jm_w (by omega)
      refine wp_T ⟨by omega, by omega⟩ ?_
      refine wp_sk iM8 hl3 kM8 (by unfold TM2 RC2; omega) (fun M12 u_18 iM12 kM12 => ?_)
      refine wp_T ⟨by omega, by omega⟩ ?_
      refine wp_T ⟨by omega, by omega⟩ ?_
      have q_19 : (M12 31 0 l1) = (M8 31 0 l1) := by rw [u_18]; exact jm_une_f (by decide)
      have r_20 : (jm_w ((M12 31 0 l1) + 1)) = (jm_w ((M 31 0 l1) + 1)) := congrArg jm_w (by omega)
      have w_21 : (jm_w ((M 31 0 l1) + 1)) = ((M 31 0 l1) + 1) := jm_wid (by omega) (by omega)
      refine wp_sk iM12 (show 0 ≤ (jm_w ((M12 31 0 l1) + 1)) ∧ (jm_w ((M12 31 0 l1) + 1)) ≤ 4 by omega) kM12 (by unfold TM2 RC2; omega) (fun M16 u_22 iM16 kM16 => ?_)
      refine wp_T ⟨by omega, by omega⟩ ?_
      have q_23 : (M16 31 0 l1) = (jm_w ((M12 31 0 l1) + 1)) := by rw [u_22]; exact jm_ueq
      have q_24 : (M16 0 0 1) = (M12 0 0 1) := by rw [u_22]; exact jm_une_f (by decide)
      have q_25 : (M12 0 0 1) = (M8 0 0 1) := by rw [u_18]; exact jm_une_f (by decide)
      have q_26 : (M8 0 0 1) = (M 0 0 1) := by rw [u_15]; exact jm_une_f (by decide)
      have b_27 : 2 ≤ (M 0 0 1) ∧ (M 0 0 1) ≤ 5 := iM 0 0 1
      have q_28 : (M16 0 0 2) = (M12 0 0 2) := by rw [u_22]; exact jm_une_f (by decide)
      have q_29 : (M12 0 0 2) = (M8 0 0 2) := by rw [u_18]; exact jm_une_f (by decide)
      have q_30 : (M8 0 0 2) = (M 0 0 2) := by rw [u_15]; exact jm_une_f (by decide)
      have b_31 : 1 ≤ (M 0 0 2) ∧ (M 0 0 2) ≤ 12 := iM 0 0 2
      have q_32 : (M16 0 0 17) = (M12 0 0 17) := by rw [u_22]; exact jm_une_f (by decide)
      have q_33 : (M12 0 0 17) = (M8 0 0 17) := by rw [u_18]; exact jm_une_f (by decide)
      have q_34 : (M8 0 0 17) = (M 0 0 17) := by rw [u_15]; exact jm_une_f (by decide)
      have b_35 : 0 ≤ (M 0 0 17) ∧ (M 0 0 17) ≤ 6 := iM 0 0 17
      exact wp_ret ⟨iM16, kM16, by omega, by omega, by omega⟩
set_option maxHeartbeats 4000000 in
set_option maxRecDepth 100000 in
theorem s_fX12_option (fu : Nat) (hfu : 4000 ≤ fu) (M : jm_M) (iM : bI bx2 M) (l1 l2 l3 : Int) (hl1 : jm_in l1) (hl2 : jm_in l2) (hl3 : jm_in l3) : wp (fX12_option fu M l1 l2 l3) (fun r M1 => bI bx2 M1 ∧ Kp (TM2 31 l1) M M1 ∧ ((-1) ≤ r ∧ r ≤ 4 ∧ ((r = -1 ∧ ¬ (0 ≤ l1 ∧ l1 < M 0 0 17 ∧ -1 ≤ l2 ∧ l2 ≤ M 0 0 2 - 2 ∧ -1 ≤ l3 ∧ l3 ≤ 3 ∧ M 31 0 l1 < 4) ∧ M1 31 0 l1 = M 31 0 l1) ∨ ((0 ≤ l1 ∧ l1 < M 0 0 17 ∧ -1 ≤ l2 ∧ l2 ≤ M 0 0 2 - 2 ∧ -1 ≤ l3 ∧ l3 ≤ 3) ∧ M 31 0 l1 < 4 ∧ M1 31 0 l1 = M 31 0 l1 + 1 ∧ r = M1 31 0 l1)))) := by
  have kM : Kp (TM2 31 l1) M M := Kp.rf
  unfold fX12_option
  refine wp_sk iM (jm_inL (by decide) (by decide)) kM (by unfold TM2 RC2; omega) (fun M1 u_1 iM1 kM1 => ?_)
  refine wp_bp (s_fX12_isCar M1 iM1 l1 hl1 ) (fun v2 hv2 => ?_)
  have b_2 : -2147483648 ≤ l1 ∧ l1 ≤ 2147483647 := hl1
  have q_3 : (M1 0 0 17) = (M 0 0 17) := by rw [u_1]; exact jm_une_k (by decide)
  have b_4 : 0 ≤ (M 0 0 17) ∧ (M 0 0 17) ≤ 6 := iM 0 0 17
  refine wp_ite (fun c_5 => ?_) (fun c_5 => ?_)
  · skip
    have b_6 : -2147483648 ≤ l2 ∧ l2 ≤ 2147483647 := hl2
    have b_7 : -2147483648 ≤ l3 ∧ l3 ≤ 2147483647 := hl3
    have q_8 : (M1 0 0 2) = (M 0 0 2) := by rw [u_1]; exact jm_une_k (by decide)
    have b_9 : 1 ≤ (M 0 0 2) ∧ (M 0 0 2) ≤ 12 := iM 0 0 2
    have q_10 : (M1 31 0 l1) = (M 31 0 l1) := by rw [u_1]; exact jm_une_f (by decide)
    have b_11 : 0 ≤ (M 31 0 l1) ∧ (M 31 0 l1) ≤ 4 := iM 31 0 l1
    have q_12 : (M1 0 0 1) = (M 0 0 1) := by rw [u_1]; exact jm_une_k (by decide)
    have b_13 : 2 ≤ (M 0 0 1) ∧ (M 0 0 1) ≤ 5 := iM 0 0 1
    exact s_gX12_option_38 fu hfu M    l1 l2 l3 0 M1 iM1 kM1 hl1 hl2 hl3 ⟨by omega, by omega⟩ (by omega) (by omega) 
  · skip
    have b_15 : -2147483648 ≤ l2 ∧ l2 ≤ 2147483647 := hl2
    refine wp_ite (fun c_14 => ?_) (fun c_14 => ?_)
    · skip
      refine wp_bp (s_fX12_isSet M1 iM1 l3 hl3 ) (fun v7 hv7 => ?_)
      have b_16 : -2147483648 ≤ l3 ∧ l3 ≤ 2147483647 := hl3
      refine wp_ite (fun c_17 => ?_) (fun c_17 => ?_)
      · skip
        have q_18 : (M1 0 0 2) = (M 0 0 2) := by rw [u_1]; exact jm_une_k (by decide)
        have b_19 : 1 ≤ (M 0 0 2) ∧ (M 0 0 2) ≤ 12 := iM 0 0 2
        have q_20 : (M1 31 0 l1) = (M 31 0 l1) := by rw [u_1]; exact jm_une_f (by decide)
        have b_21 : 0 ≤ (M 31 0 l1) ∧ (M 31 0 l1) ≤ 4 := iM 31 0 l1
        have q_22 : (M1 0 0 1) = (M 0 0 1) := by rw [u_1]; exact jm_une_k (by decide)
        have b_23 : 2 ≤ (M 0 0 1) ∧ (M 0 0 1) ≤ 5 := iM 0 0 1
        exact s_gX12_option_38 fu hfu M    l1 l2 l3 0 M1 iM1 kM1 hl1 hl2 hl3 ⟨by omega, by omega⟩ (by omega) (by omega) 
      · skip
        have q_24 : (M1 0 0 2) = (M 0 0 2) := by rw [u_1]; exact jm_une_k (by decide)
        have b_25 : 1 ≤ (M 0 0 2) ∧ (M 0 0 2) ≤ 12 := iM 0 0 2
        have q_26 : (M1 31 0 l1) = (M 31 0 l1) := by rw [u_1]; exact jm_une_f (by decide)
        have b_27 : 0 ≤ (M 31 0 l1) ∧ (M 31 0 l1) ≤ 4 := iM 31 0 l1
        have q_28 : (M1 0 0 1) = (M 0 0 1) := by rw [u_1]; exact jm_une_k (by decide)
        have b_29 : 2 ≤ (M 0 0 1) ∧ (M 0 0 1) ≤ 5 := iM 0 0 1
        exact s_gX12_option_38 fu hfu M    l1 l2 l3 1 M1 iM1 kM1 hl1 hl2 hl3 ⟨by omega, by omega⟩ (by omega) (by omega) 
    · skip
      refine wp_bp (s_fX12_isStopLap M1 iM1 l2 hl2 ) (fun v11 hv11 => ?_)
      have q_30 : (M1 0 0 2) = (M 0 0 2) := by rw [u_1]; exact jm_une_k (by decide)
      have b_31 : 1 ≤ (M 0 0 2) ∧ (M 0 0 2) ≤ 12 := iM 0 0 2
      refine wp_ite (fun c_32 => ?_) (fun c_32 => ?_)
      · skip
        have b_33 : -2147483648 ≤ l3 ∧ l3 ≤ 2147483647 := hl3
        have q_34 : (M1 31 0 l1) = (M 31 0 l1) := by rw [u_1]; exact jm_une_f (by decide)
        have b_35 : 0 ≤ (M 31 0 l1) ∧ (M 31 0 l1) ≤ 4 := iM 31 0 l1
        have q_36 : (M1 0 0 1) = (M 0 0 1) := by rw [u_1]; exact jm_une_k (by decide)
        have b_37 : 2 ≤ (M 0 0 1) ∧ (M 0 0 1) ≤ 5 := iM 0 0 1
        exact s_gX12_option_38 fu hfu M    l1 l2 l3 0 M1 iM1 kM1 hl1 hl2 hl3 ⟨by omega, by omega⟩ (by omega) (by omega) 
      · skip
        refine wp_bp (s_fX12_isSet M1 iM1 l3 hl3 ) (fun v15 hv15 => ?_)
        have b_38 : -2147483648 ≤ l3 ∧ l3 ≤ 2147483647 := hl3
        refine wp_ite (fun c_39 => ?_) (fun c_39 => ?_)
        · skip
          have q_40 : (M1 31 0 l1) = (M 31 0 l1) := by rw [u_1]; exact jm_une_f (by decide)
          have b_41 : 0 ≤ (M 31 0 l1) ∧ (M 31 0 l1) ≤ 4 := iM 31 0 l1
          have q_42 : (M1 0 0 1) = (M 0 0 1) := by rw [u_1]; exact jm_une_k (by decide)
          have b_43 : 2 ≤ (M 0 0 1) ∧ (M 0 0 1) ≤ 5 := iM 0 0 1
          exact s_gX12_option_38 fu hfu M    l1 l2 l3 0 M1 iM1 kM1 hl1 hl2 hl3 ⟨by omega, by omega⟩ (by omega) (by omega) 
        · skip
          have q_44 : (M1 31 0 l1) = (M 31 0 l1) := by rw [u_1]; exact jm_une_f (by decide)
          have b_45 : 0 ≤ (M 31 0 l1) ∧ (M 31 0 l1) ≤ 4 := iM 31 0 l1
          have q_46 : (M1 0 0 1) = (M 0 0 1) := by rw [u_1]; exact jm_une_k (by decide)
          have b_47 : 2 ≤ (M 0 0 1) ∧ (M 0 0 1) ≤ 5 := iM 0 0 1
          exact s_gX12_option_38 fu hfu M    l1 l2 l3 1 M1 iM1 kM1 hl1 hl2 hl3 ⟨by omega, by omega⟩ (by omega) (by omega) 
