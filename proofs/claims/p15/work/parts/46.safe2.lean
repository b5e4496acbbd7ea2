set_option maxHeartbeats 4000000 in
set_option maxRecDepth 100000 in
theorem s_gX12_order_45 (fu : Nat) (hfu : 4000 ≤ fu) (M0 : jm_M) : ∀ (l1 l2 l3 l4 s0 s1 : Int) (M : jm_M) (iM : bI bx2 M) (kM : Kp (TM2 22 l1) M0 M) (hl1 : 0 ≤ l1 ∧ l1 ≤ 5) (hl2 : 0 ≤ l2 ∧ l2 ≤ 11) (hl3 : 0 ≤ l3 ∧ l3 ≤ 1) (hl4 : jm_in l4) (hs0 : (-1) ≤ s0 ∧ s0 ≤ 0) (hs1 : jm_in s1) (y0 : (0 ≤ l1 ∧ l1 < M 0 0 17 ∧ 0 ≤ l2 ∧ l2 < M 0 0 2 ∧ 0 ≤ l3 ∧ l3 ≤ 1 ∧ s0 = l3 - 1 ∧ s1 = l4)) (z0 : M 22 0 l1 = M0 22 0 l1 ∧ M 0 0 1 = M0 0 0 1 ∧ M 0 0 2 = M0 0 0 2 ∧ M 0 0 17 = M0 0 0 17), wp (gX12_order_45 fu  M l1 l2 l3 l4 s0 s1) (fun r M1 => bI bx2 M1 ∧ Kp (TM2 22 l1) M0 M1 ∧ ((-1) ≤ r ∧ r ≤ 12 ∧ ((r = -1 ∧ ¬ (0 ≤ l1 ∧ l1 < M0 0 0 17 ∧ 0 ≤ l2 ∧ l2 < M0 0 0 2 ∧ 0 ≤ l3 ∧ l3 ≤ 1 ∧ l3 - 1 ≤ l4 ∧ l4 ≤ 1 ∧ M0 22 0 l1 < 12) ∧ M1 22 0 l1 = M0 22 0 l1) ∨ ((0 ≤ l1 ∧ l1 < M0 0 0 17 ∧ 0 ≤ l2 ∧ l2 < M0 0 0 2 ∧ 0 ≤ l3 ∧ l3 ≤ 1 ∧ l3 - 1 ≤ l4 ∧ l4 ≤ 1) ∧ M0 22 0 l1 < 12 ∧ M1 22 0 l1 = M0 22 0 l1 + 1 ∧ r = M1 22 0 l1)))) := by
  intro l1 l2 l3 l4 s0 s1 M iM kM hl1 hl2 hl3 hl4 hs0 hs1 y0 z0
  unfold gX12_order_45
  refine wp_bp (s_fX12_in M iM s1 s0 1 hs1 ⟨by omega, by omega⟩ ⟨by omega, by omega⟩ ) (fun v1 hv1 => ?_)
  have b_1 : -2147483648 ≤ s1 ∧ s1 ≤ 2147483647 := hs1
  refine wp_ite (fun c_2 => ?_) (fun c_2 => ?_)
  · skip
    have b_3 : 0 ≤ (M 22 0 l1) ∧ (M 22 0 l1) ≤ 12 := iM 22 0 l1
    have b_4 : 2 ≤ (M 0 0 1) ∧ (M 0 0 1) ≤ 5 := iM 0 0 1
    have b_5 : 1 ≤ (M 0 0 2) ∧ (M 0 0 2) ≤ 12 := iM 0 0 2
    have b_6 : 0 ≤ (M 0 0 17) ∧ (M 0 0 17) ≤ 6 := iM 0 0 17
    exact wp_ret ⟨iM, kM, by omega, by omega, by omega⟩
  · skip
    refine wp_T ⟨by omega, by omega⟩ ?_
    have b_8 : 0 ≤ (M 22 0 l1) ∧ (M 22 0 l1) ≤ 12 := iM 22 0 l1
    refine wp_ite (fun c_7 => ?_) (fun c_7 => ?_)
    · skip
      have b_9 : 2 ≤ (M 0 0 1) ∧ (M 0 0 1) ≤ 5 := iM 0 0 1
      have b_10 : 1 ≤ (M 0 0 2) ∧ (M 0 0 2) ≤ 12 := iM 0 0 2
      have b_11 : 0 ≤ (M 0 0 17) ∧ (M 0 0 17) ≤ 6 := iM 0 0 17
      exact wp_ret ⟨iM, kM, by omega, by omega, by omega⟩
    · skip
      refine wp_T ⟨by omega, by omega⟩ ?_
      have w_12 : (jm_w (12 * l1)) = (12 * l1) := jm_wid (by omega) (by omega)
      have w_13 : (jm_w ((jm_w (12 * l1)) + (M 22 0 l1))) = ((jm_w (12 * l1)) + (M 22 0 l1)) := jm_wid (by omega) (by omega)
      refine wp_e (by exact (jm_w_in _)) (fun v10 e_14 hv10 => ?_)
      have b_15 : -2147483648 ≤ v10 ∧ v10 ≤ 2147483647 := hv10
      refine wp_T ⟨by omega, by omega⟩ ?_
      refine wp_sk iM (jm_inL (by omega) (by omega)) kM (by unfold TM2 RC2; omega) (fun M13 u_16 iM13 kM13 => ?_)
      refine wp_T ⟨by omega, by omega⟩ ?_
      refine wp_sk iM13 (jm_inL (by omega) (by omega)) kM13 (by unfold TM2 RC2; omega) (fun M15 u_17 iM15 kM15 => ?_)
      refine wp_T ⟨by omega, by omega⟩ ?_
      refine wp_sk iM15 hl4 kM15 (by unfold TM2 RC2; omega) (fun M17 u_18 iM17 kM17 => ?_)
      refine wp_T ⟨by omega, by omega⟩ ?_
      refine wp_T ⟨by omega, by omega⟩ ?_
      have q_19 : (M17 22 0 l1) = (M15 22 0 l1) := by rw [u_18]; exact jm_une_f (by decide)
      have q_20 : (M15 22 0 l1) = (M13 22 0 l1) := by rw [u_17]; exact jm_une_f (by decide)
      have q_21 : (M13 22 0 l1) = (M 22 0 l1) := by rw [u_16]; exact jm_une_f (by decide)
      have r_22 : (jm_w ((M17 22 0 l1) + 1)) = (jm_w ((M 22 0 l1) + 1)) := congrArg jm_w (by omega)
      have w_23 : (jm_w ((M 22 0 l1) + 1)) = ((M 22 0 l1) + 1) := jm_wid (by omega) (by omega)
      refine wp_sk iM17 (show 0 ≤ (jm_w ((M17 22 0 l1) + 1)) ∧ (jm_w ((M17 22 0 l1) + 1)) ≤ 12 by omega) kM17 (by unfold TM2 RC2; omega) (fun M21 u_24 iM21 kM21 => ?_)
      refine wp_T ⟨by omega, by omega⟩ ?_
      have q_25 : (M21 22 0 l1) = (jm_w ((M17 22 0 l1) + 1)) := by rw [u_24]; exact jm_ueq
      have q_26 : (M21 0 0 1) = (M17 0 0 1) := by rw [u_24]; exact jm_une_f (by decide)
      have q_27 : (M17 0 0 1) = (M15 0 0 1) := by rw [u_18]; exact jm_une_f (by decide)
      have q_28 : (M15 0 0 1) = (M13 0 0 1) := by rw [u_17]; exact jm_une_f (by decide)
      have q_29 : (M13 0 0 1) = (M 0 0 1) := by rw [u_16]; exact jm_une_f (by decide)
      have b_30 : 2 ≤ (M 0 0 1) ∧ (M 0 0 1) ≤ 5 := iM 0 0 1
      have q_31 : (M21 0 0 2) = (M17 0 0 2) := by rw [u_24]; exact jm_une_f (by decide)
      have q_32 : (M17 0 0 2) = (M15 0 0 2) := by rw [u_18]; exact jm_une_f (by decide)
      have q_33 : (M15 0 0 2) = (M13 0 0 2) := by rw [u_17]; exact jm_une_f (by decide)
      have q_34 : (M13 0 0 2) = (M 0 0 2) := by rw [u_16]; exact jm_une_f (by decide)
      have b_35 : 1 ≤ (M 0 0 2) ∧ (M 0 0 2) ≤ 12 := iM 0 0 2
      have q_36 : (M21 0 0 17) = (M17 0 0 17) := by rw [u_24]; exact jm_une_f (by decide)
      have q_37 : (M17 0 0 17) = (M15 0 0 17) := by rw [u_18]; exact jm_une_f (by decide)
      have q_38 : (M15 0 0 17) = (M13 0 0 17) := by rw [u_17]; exact jm_une_f (by decide)
      have q_39 : (M13 0 0 17) = (M 0 0 17) := by rw [u_16]; exact jm_une_f (by decide)
      have b_40 : 0 ≤ (M 0 0 17) ∧ (M 0 0 17) ≤ 6 := iM 0 0 17
      exact wp_ret ⟨iM21, kM21, by omega, by omega, by omega⟩
set_option maxHeartbeats 4000000 in
set_option maxRecDepth 100000 in
theorem s_fX12_order (fu : Nat) (hfu : 4000 ≤ fu) (M : jm_M) (iM : bI bx2 M) (l1 l2 l3 l4 : Int) (hl1 : jm_in l1) (hl2 : jm_in l2) (hl3 : jm_in l3) (hl4 : jm_in l4) : wp (fX12_order fu M l1 l2 l3 l4) (fun r M1 => bI bx2 M1 ∧ Kp (TM2 22 l1) M M1 ∧ ((-1) ≤ r ∧ r ≤ 12 ∧ ((r = -1 ∧ ¬ (0 ≤ l1 ∧ l1 < M 0 0 17 ∧ 0 ≤ l2 ∧ l2 < M 0 0 2 ∧ 0 ≤ l3 ∧ l3 ≤ 1 ∧ l3 - 1 ≤ l4 ∧ l4 ≤ 1 ∧ M 22 0 l1 < 12) ∧ M1 22 0 l1 = M 22 0 l1) ∨ ((0 ≤ l1 ∧ l1 < M 0 0 17 ∧ 0 ≤ l2 ∧ l2 < M 0 0 2 ∧ 0 ≤ l3 ∧ l3 ≤ 1 ∧ l3 - 1 ≤ l4 ∧ l4 ≤ 1) ∧ M 22 0 l1 < 12 ∧ M1 22 0 l1 = M 22 0 l1 + 1 ∧ r = M1 22 0 l1)))) := by
  have kM : Kp (TM2 22 l1) M M := Kp.rf
  unfold fX12_order
  refine wp_sk iM (jm_inL (by decide) (by decide)) kM (by unfold TM2 RC2; omega) (fun M1 u_1 iM1 kM1 => ?_)
  refine wp_bp (s_fX12_isCar M1 iM1 l1 hl1 ) (fun v2 hv2 => ?_)
  have b_2 : -2147483648 ≤ l1 ∧ l1 ≤ 2147483647 := hl1
  have q_3 : (M1 0 0 17) = (M 0 0 17) := by rw [u_1]; exact jm_une_k (by decide)
  have b_4 : 0 ≤ (M 0 0 17) ∧ (M 0 0 17) ≤ 6 := iM 0 0 17
  refine wp_ite (fun c_5 => ?_) (fun c_5 => ?_)
  · skip
    have q_6 : (M1 22 0 l1) = (M 22 0 l1) := by rw [u_1]; exact jm_une_f (by decide)
    have b_7 : 0 ≤ (M 22 0 l1) ∧ (M 22 0 l1) ≤ 12 := iM 22 0 l1
    have q_8 : (M1 0 0 1) = (M 0 0 1) := by rw [u_1]; exact jm_une_k (by decide)
    have b_9 : 2 ≤ (M 0 0 1) ∧ (M 0 0 1) ≤ 5 := iM 0 0 1
    have q_10 : (M1 0 0 2) = (M 0 0 2) := by rw [u_1]; exact jm_une_k (by decide)
    have b_11 : 1 ≤ (M 0 0 2) ∧ (M 0 0 2) ≤ 12 := iM 0 0 2
    exact wp_ret ⟨iM1, kM1, by omega, by omega, by omega⟩
  · skip
    refine wp_bp (s_fX12_isLap M1 iM1 l2 hl2 ) (fun v6 hv6 => ?_)
    have b_12 : -2147483648 ≤ l2 ∧ l2 ≤ 2147483647 := hl2
    have q_13 : (M1 0 0 2) = (M 0 0 2) := by rw [u_1]; exact jm_une_k (by decide)
    have b_14 : 1 ≤ (M 0 0 2) ∧ (M 0 0 2) ≤ 12 := iM 0 0 2
    refine wp_ite (fun c_15 => ?_) (fun c_15 => ?_)
    · skip
      have q_16 : (M1 22 0 l1) = (M 22 0 l1) := by rw [u_1]; exact jm_une_f (by decide)
      have b_17 : 0 ≤ (M 22 0 l1) ∧ (M 22 0 l1) ≤ 12 := iM 22 0 l1
      have q_18 : (M1 0 0 1) = (M 0 0 1) := by rw [u_1]; exact jm_une_k (by decide)
      have b_19 : 2 ≤ (M 0 0 1) ∧ (M 0 0 1) ≤ 5 := iM 0 0 1
      exact wp_ret ⟨iM1, kM1, by omega, by omega, by omega⟩
    · skip
      refine wp_bp (s_fX12_in M1 iM1 l3 0 1 hl3 ⟨by omega, by omega⟩ ⟨by omega, by omega⟩ ) (fun v10 hv10 => ?_)
      have b_20 : -2147483648 ≤ l3 ∧ l3 ≤ 2147483647 := hl3
      refine wp_ite (fun c_21 => ?_) (fun c_21 => ?_)
      · skip
        have q_22 : (M1 22 0 l1) = (M 22 0 l1) := by rw [u_1]; exact jm_une_f (by decide)
        have b_23 : 0 ≤ (M 22 0 l1) ∧ (M 22 0 l1) ≤ 12 := iM 22 0 l1
        have q_24 : (M1 0 0 1) = (M 0 0 1) := by rw [u_1]; exact jm_une_k (by decide)
        have b_25 : 2 ≤ (M 0 0 1) ∧ (M 0 0 1) ≤ 5 := iM 0 0 1
        exact wp_ret ⟨iM1, kM1, by omega, by omega, by omega⟩
      · skip
        refine wp_ite (fun c_26 => ?_) (fun c_26 => ?_)
        · skip
          have b_27 : -2147483648 ≤ l4 ∧ l4 ≤ 2147483647 := hl4
          have q_28 : (M1 22 0 l1) = (M 22 0 l1) := by rw [u_1]; exact jm_une_f (by decide)
          have b_29 : 0 ≤ (M 22 0 l1) ∧ (M 22 0 l1) ≤ 12 := iM 22 0 l1
          have q_30 : (M1 0 0 1) = (M 0 0 1) := by rw [u_1]; exact jm_une_k (by decide)
          have b_31 : 2 ≤ (M 0 0 1) ∧ (M 0 0 1) ≤ 5 := iM 0 0 1
          exact s_gX12_order_45 fu hfu M    l1 l2 l3 l4 (-1) l4 M1 iM1 kM1 ⟨by omega, by omega⟩ ⟨by omega, by omega⟩ ⟨by omega, by omega⟩ hl4 ⟨by omega, by omega⟩ hl4 (by omega) (by omega) 
        · skip
          have b_32 : -2147483648 ≤ l4 ∧ l4 ≤ 2147483647 := hl4
          have q_33 : (M1 22 0 l1) = (M 22 0 l1) := by rw [u_1]; exact jm_une_f (by decide)
          have b_34 : 0 ≤ (M 22 0 l1) ∧ (M 22 0 l1) ≤ 12 := iM 22 0 l1
          have q_35 : (M1 0 0 1) = (M 0 0 1) := by rw [u_1]; exact jm_une_k (by decide)
          have b_36 : 2 ≤ (M 0 0 1) ∧ (M 0 0 1) ≤ 5 := iM 0 0 1
          exact s_gX12_order_45 fu hfu M    l1 l2 l3 l4 0 l4 M1 iM1 kM1 ⟨by omega, by omega⟩ ⟨by omega, by omega⟩ ⟨by omega, by omega⟩ hl4 ⟨by omega, by omega⟩ hl4 (by omega) (by omega) 
set_option maxHeartbeats 4000000 in
set_option maxRecDepth 100000 in
theorem s_fX12_place (fu : Nat) (hfu : 4000 ≤ fu) (M : jm_M) (iM : bI bx2 M) (l1 l2 : Int) (hl1 : jm_in l1) (hl2 : jm_in l2) (wM : WF M) : wp (fX12_place fu M l1 l2) (fun r M1 => bI bx2 M1 ∧ Kp TA2 M M1 ∧ ((-1) ≤ r ∧ r ≤ 5)) := by
  have kM : Kp TA2 M M := Kp.rf
  unfold fX12_place
  refine wp_sk iM (jm_inL (by decide) (by decide)) kM (by unfold TA2; omega) (fun M1 u_1 iM1 kM1 => ?_)
  refine wp_bp (s_fX12_isCar M1 iM1 l1 hl1 ) (fun v2 hv2 => ?_)
  have b_2 : -2147483648 ≤ l1 ∧ l1 ≤ 2147483647 := hl1
  have q_3 : (M1 0 0 17) = (M 0 0 17) := by rw [u_1]; exact jm_une_k (by decide)
  have b_4 : 0 ≤ (M 0 0 17) ∧ (M 0 0 17) ≤ 6 := iM 0 0 17
  refine wp_ite (fun c_5 => ?_) (fun c_5 => ?_)
  · skip
    exact wp_ret ⟨iM1, kM1, by omega⟩
  · skip
    refine wp_bp (s_fX12_isDay M1 iM1 l2 hl2 ) (fun v6 hv6 => ?_)
    have b_6 : -2147483648 ≤ l2 ∧ l2 ≤ 2147483647 := hl2
    refine wp_ite (fun c_7 => ?_) (fun c_7 => ?_)
    · skip
      exact wp_ret ⟨iM1, kM1, by omega⟩
    · skip
      refine wp_bk (s_fX12_judges fu hfu M1 iM1 l2 ⟨by omega, by omega⟩ (WF.kp kM1 wM wf_TA2) ) (fun v10 M11 iM11 jM11 hv10 => ?_)
      have kM11 := kM1.tr jM11 (fun _ _ _ h => h)
      refine wp_bp (s_fX12_placeOf fu hfu M11 iM11 l1 0 ⟨by omega, by omega⟩ ⟨by omega, by omega⟩ ) (fun v12 hv12 => ?_)
      exact wp_ret ⟨iM11, kM11, by omega⟩
set_option maxHeartbeats 4000000 in
set_option maxRecDepth 100000 in
theorem s_fX12_rain (M : jm_M) (iM : bI bx2 M) (l1 l2 l3 : Int) (hl1 : jm_in l1) (hl2 : jm_in l2) (hl3 : jm_in l3) : wp (fX12_rain M l1 l2 l3) (fun r M1 => bI bx2 M1 ∧ Kp (TM2 0 8) M M1 ∧ ((-1) ≤ r ∧ r ≤ 30 ∧ ((r = -1 ∧ ¬ (0 ≤ l1 ∧ l1 < M 0 0 1 ∧ 0 ≤ l2 ∧ 0 ≤ l3 ∧ l3 ≤ 100 ∧ M 0 0 8 < 30) ∧ M1 0 0 8 = M 0 0 8) ∨ ((0 ≤ l1 ∧ l1 < M 0 0 1 ∧ 0 ≤ l2 ∧ 0 ≤ l3 ∧ l3 ≤ 100) ∧ M 0 0 8 < 30 ∧ M1 0 0 8 = M 0 0 8 + 1 ∧ r = M1 0 0 8)))) := by
  have kM : Kp (TM2 0 8) M M := Kp.rf
  unfold fX12_rain
  refine wp_sk iM (jm_inL (by decide) (by decide)) kM (by unfold TM2 RC2; omega) (fun M1 u_1 iM1 kM1 => ?_)
  refine wp_bp (s_fX12_isSector M1 iM1 l1 hl1 ) (fun v2 hv2 => ?_)
  have b_2 : -2147483648 ≤ l1 ∧ l1 ≤ 2147483647 := hl1
  have q_3 : (M1 0 0 1) = (M 0 0 1) := by rw [u_1]; exact jm_une_k (by decide)
  have b_4 : 2 ≤ (M 0 0 1) ∧ (M 0 0 1) ≤ 5 := iM 0 0 1
  refine wp_ite (fun c_5 => ?_) (fun c_5 => ?_)
  · skip
    have q_6 : (M1 0 0 8) = (M 0 0 8) := by rw [u_1]; exact jm_une_k (by decide)
    have b_7 : 0 ≤ (M 0 0 8) ∧ (M 0 0 8) ≤ 30 := iM 0 0 8
    have q_8 : (M1 0 0 2) = (M 0 0 2) := by rw [u_1]; exact jm_une_k (by decide)
    have b_9 : 1 ≤ (M 0 0 2) ∧ (M 0 0 2) ≤ 12 := iM 0 0 2
    have q_10 : (M1 0 0 17) = (M 0 0 17) := by rw [u_1]; exact jm_une_k (by decide)
    have b_11 : 0 ≤ (M 0 0 17) ∧ (M 0 0 17) ≤ 6 := iM 0 0 17
    exact wp_ret ⟨iM1, kM1, by omega, by omega, by omega⟩
  · skip
    have b_13 : -2147483648 ≤ l2 ∧ l2 ≤ 2147483647 := hl2
    refine wp_ite (fun c_12 => ?_) (fun c_12 => ?_)
    · skip
      have q_14 : (M1 0 0 8) = (M 0 0 8) := by rw [u_1]; exact jm_une_k (by decide)
      have b_15 : 0 ≤ (M 0 0 8) ∧ (M 0 0 8) ≤ 30 := iM 0 0 8
      have q_16 : (M1 0 0 2) = (M 0 0 2) := by rw [u_1]; exact jm_une_k (by decide)
      have b_17 : 1 ≤ (M 0 0 2) ∧ (M 0 0 2) ≤ 12 := iM 0 0 2
      have q_18 : (M1 0 0 17) = (M 0 0 17) := by rw [u_1]; exact jm_une_k (by decide)
      have b_19 : 0 ≤ (M 0 0 17) ∧ (M 0 0 17) ≤ 6 := iM 0 0 17
      exact wp_ret ⟨iM1, kM1, by omega, by omega, by omega⟩
    · skip
      refine wp_bp (s_fX12_in M1 iM1 l3 0 100 hl3 ⟨by omega, by omega⟩ ⟨by omega, by omega⟩ ) (fun v7 hv7 => ?_)
      have b_20 : -2147483648 ≤ l3 ∧ l3 ≤ 2147483647 := hl3
      refine wp_ite (fun c_21 => ?_) (fun c_21 => ?_)
      · skip
        have q_22 : (M1 0 0 8) = (M 0 0 8) := by rw [u_1]; exact jm_une_k (by decide)
        have b_23 : 0 ≤ (M 0 0 8) ∧ (M 0 0 8) ≤ 30 := iM 0 0 8
        have q_24 : (M1 0 0 2) = (M 0 0 2) := by rw [u_1]; exact jm_une_k (by decide)
        have b_25 : 1 ≤ (M 0 0 2) ∧ (M 0 0 2) ≤ 12 := iM 0 0 2
        have q_26 : (M1 0 0 17) = (M 0 0 17) := by rw [u_1]; exact jm_une_k (by decide)
        have b_27 : 0 ≤ (M 0 0 17) ∧ (M 0 0 17) ≤ 6 := iM 0 0 17
        exact wp_ret ⟨iM1, kM1, by omega, by omega, by omega⟩
      · skip
        have q_28 : (M1 0 0 8) = (M 0 0 8) := by rw [u_1]; exact jm_une_k (by decide)
        have b_30 : 0 ≤ (M 0 0 8) ∧ (M 0 0 8) ≤ 30 := iM 0 0 8
        refine wp_ite (fun c_29 => ?_) (fun c_29 => ?_)
        · skip
          have q_31 : (M1 0 0 2) = (M 0 0 2) := by rw [u_1]; exact jm_une_k (by decide)
          have b_32 : 1 ≤ (M 0 0 2) ∧ (M 0 0 2) ≤ 12 := iM 0 0 2
          have q_33 : (M1 0 0 17) = (M 0 0 17) := by rw [u_1]; exact jm_une_k (by decide)
          have b_34 : 0 ≤ (M 0 0 17) ∧ (M 0 0 17) ≤ 6 := iM 0 0 17
          exact wp_ret ⟨iM1, kM1, by omega, by omega, by omega⟩
        · skip
          refine wp_T ⟨by omega, by omega⟩ ?_
          refine wp_sk iM1 hl1 kM1 (by unfold TM2 RC2; omega) (fun M15 u_35 iM15 kM15 => ?_)
          have q_36 : (M15 0 0 8) = (M1 0 0 8) := by rw [u_35]; exact jm_une_f (by decide)
          refine wp_T ⟨by omega, by omega⟩ ?_
          refine wp_sk iM15 hl2 kM15 (by unfold TM2 RC2; omega) (fun M18 u_37 iM18 kM18 => ?_)
          have q_38 : (M18 0 0 8) = (M15 0 0 8) := by rw [u_37]; exact jm_une_f (by decide)
          refine wp_T ⟨by omega, by omega⟩ ?_
          refine wp_sk iM18 hl3 kM18 (by unfold TM2 RC2; omega) (fun M21 u_39 iM21 kM21 => ?_)
          have q_40 : (M21 0 0 8) = (M18 0 0 8) := by rw [u_39]; exact jm_une_f (by decide)
          have r_41 : (jm_w ((M21 0 0 8) + 1)) = (jm_w ((M 0 0 8) + 1)) := congrArg jm_w (by omega)
          have w_42 : (jm_w ((M 0 0 8) + 1)) = ((M 0 0 8) + 1) := jm_wid (by omega) (by omega)
          refine wp_sk iM21 (show 0 ≤ (jm_w ((M21 0 0 8) + 1)) ∧ (jm_w ((M21 0 0 8) + 1)) ≤ 30 by omega) kM21 (by unfold TM2 RC2; omega) (fun M23 u_43 iM23 kM23 => ?_)
          have q_44 : (M23 0 0 8) = (jm_w ((M21 0 0 8) + 1)) := by rw [u_43]; exact jm_ueq
          have q_45 : (M23 0 0 1) = (M21 0 0 1) := by rw [u_43]; exact jm_une_k (by decide)
          have q_46 : (M21 0 0 1) = (M18 0 0 1) := by rw [u_39]; exact jm_une_f (by decide)
          have q_47 : (M18 0 0 1) = (M15 0 0 1) := by rw [u_37]; exact jm_une_f (by decide)
          have q_48 : (M15 0 0 1) = (M1 0 0 1) := by rw [u_35]; exact jm_une_f (by decide)
          have q_49 : (M23 0 0 2) = (M21 0 0 2) := by rw [u_43]; exact jm_une_k (by decide)
          have q_50 : (M21 0 0 2) = (M18 0 0 2) := by rw [u_39]; exact jm_une_f (by decide)
          have q_51 : (M18 0 0 2) = (M15 0 0 2) := by rw [u_37]; exact jm_une_f (by decide)
          have q_52 : (M15 0 0 2) = (M1 0 0 2) := by rw [u_35]; exact jm_une_f (by decide)
          have q_53 : (M1 0 0 2) = (M 0 0 2) := by rw [u_1]; exact jm_une_k (by decide)
          have b_54 : 1 ≤ (M 0 0 2) ∧ (M 0 0 2) ≤ 12 := iM 0 0 2
          have q_55 : (M23 0 0 17) = (M21 0 0 17) := by rw [u_43]; exact jm_une_k (by decide)
          have q_56 : (M21 0 0 17) = (M18 0 0 17) := by rw [u_39]; exact jm_une_f (by decide)
          have q_57 : (M18 0 0 17) = (M15 0 0 17) := by rw [u_37]; exact jm_une_f (by decide)
          have q_58 : (M15 0 0 17) = (M1 0 0 17) := by rw [u_35]; exact jm_une_f (by decide)
          have q_59 : (M1 0 0 17) = (M 0 0 17) := by rw [u_1]; exact jm_une_k (by decide)
          have b_60 : 0 ≤ (M 0 0 17) ∧ (M 0 0 17) ≤ 6 := iM 0 0 17
          exact wp_ret ⟨iM23, kM23, by omega, by omega, by omega⟩
set_option maxHeartbeats 4000000 in
set_option maxRecDepth 100000 in
theorem s_gX12_result_65 (fu : Nat) (hfu : 4000 ≤ fu) (M0 : jm_M) (w0 : WF M0) (k65 : jm_M → Int → jm_R) (N65 : Int) (hk65 : ∀ (l2 : Int) (M : jm_M) (iM : bI bx2 M) (kM : Kp RC2 M0 M) (hl2 : 0 ≤ l2 ∧ l2 ≤ 6), 7 - l2 < N65 → wp (k65 M l2) (fun r M1 => bI bx2 M1 ∧ Kp RC2 M0 M1 ∧ ((-1) ≤ r ∧ r ≤ 6))) : ∀ (l2 : Int) (M : jm_M) (iM : bI bx2 M) (kM : Kp RC2 M0 M) (hl2 : 0 ≤ l2 ∧ l2 ≤ 6), 7 - l2 < N65 + 1 → wp (gX12_result_65 fu k65 M l2) (fun r M1 => bI bx2 M1 ∧ Kp RC2 M0 M1 ∧ ((-1) ≤ r ∧ r ≤ 6)) := by
  intro l2 M iM kM hl2 m65
  unfold gX12_result_65
  have b_2 : 0 ≤ (M 0 0 17) ∧ (M 0 0 17) ≤ 6 := iM 0 0 17
  refine wp_ite (fun c_1 => ?_) (fun c_1 => ?_)
  · skip
    have b_3 : 0 ≤ (M 0 0 82) ∧ (M 0 0 82) ≤ 6 := iM 0 0 82
    exact wp_ret ⟨iM, kM, by omega⟩
  · skip
    refine wp_T ⟨by omega, by omega⟩ ?_
    have b_5 : 0 ≤ (M 67 0 l2) ∧ (M 67 0 l2) ≤ 1 := iM 67 0 l2
    refine wp_ite (fun c_4 => ?_) (fun c_4 => ?_)
    · skip
      have w_6 : (jm_w (l2 + 1)) = (l2 + 1) := jm_wid (by omega) (by omega)
      refine wp_e (by exact (jm_w_in _)) (fun v7 e_7 hv7 => ?_)
      have b_8 : -2147483648 ≤ v7 ∧ v7 ≤ 2147483647 := hv7
      exact hk65 v7 M iM kM ⟨by omega, by omega⟩  (by omega)
    · skip
      refine wp_bp (s_fX12_placeOf fu hfu M iM l2 0 ⟨by omega, by omega⟩ ⟨by omega, by omega⟩ ) (fun v9 hv9 => ?_)
      refine wp_T ⟨by omega, by omega⟩ ?_
      refine wp_sk iM (jm_inL (by omega) (by omega)) kM (by unfold RC2; omega) (fun M13 u_9 iM13 kM13 => ?_)
      have w_10 : (jm_w (l2 + 1)) = (l2 + 1) := jm_wid (by omega) (by omega)
      refine wp_e (by exact (jm_w_in _)) (fun v14 e_11 hv14 => ?_)
      have b_12 : -2147483648 ≤ v14 ∧ v14 ≤ 2147483647 := hv14
      exact hk65 v14 M13 iM13 kM13 ⟨by omega, by omega⟩  (by omega)
set_option maxHeartbeats 4000000 in
set_option maxRecDepth 100000 in
theorem s_fX12_result_65 (fu : Nat) (hfu : 4000 ≤ fu) (M0 : jm_M) (w0 : WF M0) : ∀ (n : Nat) (l2 : Int) (M : jm_M) (iM : bI bx2 M) (kM : Kp RC2 M0 M) (hl2 : 0 ≤ l2 ∧ l2 ≤ 6), 7 - l2 < (n : Int) → wp (fX12_result_65 fu  n M l2) (fun r M1 => bI bx2 M1 ∧ Kp RC2 M0 M1 ∧ ((-1) ≤ r ∧ r ≤ 6)) := by
  intro n
  induction n with
  | zero => intro l2 M iM kM hl2 hm; exfalso; omega
  | succ n ih =>
    intro l2 M iM kM hl2 hm
    exact s_gX12_result_65 fu hfu M0 w0 (fX12_result_65 fu  n) (n : Int) ih l2 M iM kM hl2 (by omega)
set_option maxHeartbeats 4000000 in
set_option maxRecDepth 100000 in
theorem s_gX12_result_26 (fu : Nat) (hfu : 4000 ≤ fu) (M0 : jm_M) (w0 : WF M0) (k26 : jm_M → Int → jm_R) (N26 : Int) (hk26 : ∀ (l2 : Int) (M : jm_M) (iM : bI bx2 M) (kM : Kp RC2 M0 M) (hl2 : 0 ≤ l2 ∧ l2 ≤ 6) (y0 : (M 0 0 82) ≤ l2), 7 - l2 < N26 → wp (k26 M l2) (fun r M1 => bI bx2 M1 ∧ Kp RC2 M0 M1 ∧ ((-1) ≤ r ∧ r ≤ 6))) : ∀ (l2 : Int) (M : jm_M) (iM : bI bx2 M) (kM : Kp RC2 M0 M) (hl2 : 0 ≤ l2 ∧ l2 ≤ 6) (y0 : (M 0 0 82) ≤ l2), 7 - l2 < N26 + 1 → wp (gX12_result_26 fu k26 M l2) (fun r M1 => bI bx2 M1 ∧ Kp RC2 M0 M1 ∧ ((-1) ≤ r ∧ r ≤ 6)) := by
  intro l2 M iM kM hl2 y0 m26
  unfold gX12_result_26
  have b_2 : 0 ≤ (M 0 0 17) ∧ (M 0 0 17) ≤ 6 := iM 0 0 17
  refine wp_ite (fun c_1 => ?_) (fun c_1 => ?_)
  · skip
    exact s_fX12_result_65 fu hfu M0 w0    fu 0 M iM kM ⟨by omega, by omega⟩   (by omega)
  · skip
    refine wp_T ⟨by omega, by omega⟩ ?_
    have b_4 : 0 ≤ (M 67 0 l2) ∧ (M 67 0 l2) ≤ 1 := iM 67 0 l2
    refine wp_ite (fun c_3 => ?_) (fun c_3 => ?_)
    · skip
      have b_5 : 0 ≤ (M 0 0 82) ∧ (M 0 0 82) ≤ 6 := iM 0 0 82
      have w_6 : (jm_w ((M 0 0 82) + 0)) = ((M 0 0 82) + 0) := jm_wid (by omega) (by omega)
      refine wp_sk iM (show 0 ≤ (jm_w ((M 0 0 82) + 0)) ∧ (jm_w ((M 0 0 82) + 0)) ≤ 6 by omega) kM (by unfold RC2; omega) (fun M7 u_7 iM7 kM7 => ?_)
      have w_8 : (jm_w (l2 + 1)) = (l2 + 1) := jm_wid (by omega) (by omega)
      refine wp_e (by exact (jm_w_in _)) (fun v8 e_9 hv8 => ?_)
      have b_10 : -2147483648 ≤ v8 ∧ v8 ≤ 2147483647 := hv8
      have q_11 : (M7 0 0 82) = (jm_w ((M 0 0 82) + 0)) := by rw [u_7]; exact jm_ueq
      exact hk26 v8 M7 iM7 kM7 ⟨by omega, by omega⟩ (by omega) (by omega)
    · skip
      have b_12 : 0 ≤ (M 0 0 82) ∧ (M 0 0 82) ≤ 6 := iM 0 0 82
      have w_13 : (jm_w ((M 0 0 82) + 1)) = ((M 0 0 82) + 1) := jm_wid (by omega) (by omega)
      refine wp_sk iM (show 0 ≤ (jm_w ((M 0 0 82) + 1)) ∧ (jm_w ((M 0 0 82) + 1)) ≤ 6 by omega) kM (by unfold RC2; omega) (fun M10 u_14 iM10 kM10 => ?_)
      have w_15 : (jm_w (l2 + 1)) = (l2 + 1) := jm_wid (by omega) (by omega)
      refine wp_e (by exact (jm_w_in _)) (fun v11 e_16 hv11 => ?_)
      have b_17 : -2147483648 ≤ v11 ∧ v11 ≤ 2147483647 := hv11
      have q_18 : (M10 0 0 82) = (jm_w ((M 0 0 82) + 1)) := by rw [u_14]; exact jm_ueq
      exact hk26 v11 M10 iM10 kM10 ⟨by omega, by omega⟩ (by omega) (by omega)
set_option maxHeartbeats 4000000 in
set_option maxRecDepth 100000 in
theorem s_fX12_result_26 (fu : Nat) (hfu : 4000 ≤ fu) (M0 : jm_M) (w0 : WF M0) : ∀ (n : Nat) (l2 : Int) (M : jm_M) (iM : bI bx2 M) (kM : Kp RC2 M0 M) (hl2 : 0 ≤ l2 ∧ l2 ≤ 6) (y0 : (M 0 0 82) ≤ l2), 7 - l2 < (n : Int) → wp (fX12_result_26 fu  n M l2) (fun r M1 => bI bx2 M1 ∧ Kp RC2 M0 M1 ∧ ((-1) ≤ r ∧ r ≤ 6)) := by
  intro n
  induction n with
  | zero => intro l2 M iM kM hl2 y0 hm; exfalso; omega
  | succ n ih =>
    intro l2 M iM kM hl2 y0 hm
    exact s_gX12_result_26 fu hfu M0 w0 (fX12_result_26 fu  n) (n : Int) ih l2 M iM kM hl2 y0 (by omega)
set_option maxHeartbeats 4000000 in
set_option maxRecDepth 100000 in
theorem s_fX12_result (fu : Nat) (hfu : 4000 ≤ fu) (M : jm_M) (iM : bI bx2 M) (l1 : Int) (hl1 : jm_in l1) (wM : WF M) : wp (fX12_result fu M l1) (fun r M1 => bI bx2 M1 ∧ Kp RC2 M M1 ∧ ((-1) ≤ r ∧ r ≤ 6)) := by
  have kM : Kp RC2 M M := Kp.rf
  unfold fX12_result
  refine wp_sk iM (jm_inL (by decide) (by decide)) kM (by unfold RC2; omega) (fun M1 u_1 iM1 kM1 => ?_)
  refine wp_bp (s_fX12_isDay M1 iM1 l1 hl1 ) (fun v2 hv2 => ?_)
  have b_2 : -2147483648 ≤ l1 ∧ l1 ≤ 2147483647 := hl1
  refine wp_ite (fun c_3 => ?_) (fun c_3 => ?_)
  · skip
    exact wp_ret ⟨iM1, kM1, by omega⟩
  · skip
    refine wp_bk (s_fX12_judges fu hfu M1 iM1 l1 ⟨by omega, by omega⟩ (WF.kp kM1 wM wf_RC2) ) (fun v6 M7 iM7 jM7 hv6 => ?_)
    have kM7 := kM1.tr jM7 tt_RC2_TA2
    refine wp_sk iM7 (show 0 ≤ 0 ∧ 0 ≤ 6 by omega) kM7 (by unfold RC2; omega) (fun M8 u_4 iM8 kM8 => ?_)
    have q_5 : (M8 0 0 82) = 0 := by rw [u_4]; exact jm_ueq
    exact s_fX12_result_26 fu hfu M wM    fu 0 M8 iM8 kM8 ⟨by omega, by omega⟩ (by omega)  (by omega)
set_option maxHeartbeats 4000000 in
set_option maxRecDepth 100000 in
theorem s_fX12_row (M : jm_M) (iM : bI bx2 M) (l1 : Int) (hl1 : jm_in l1) : wp (fX12_row M l1) (fun r M1 => bI bx2 M1 ∧ Kp TA2 M M1 ∧ (jm_in r)) := by
  have kM : Kp TA2 M M := Kp.rf
  unfold fX12_row
  refine wp_sk iM (jm_inL (by decide) (by decide)) kM (by unfold TA2; omega) (fun M1 u_1 iM1 kM1 => ?_)
  have q_2 : (M1 0 0 82) = (M 0 0 82) := by rw [u_1]; exact jm_une_k (by decide)
  have r_3 : (jm_w ((M1 0 0 82) - 1)) = (jm_w ((M 0 0 82) - 1)) := congrArg jm_w (by omega)
  have b_4 : 0 ≤ (M 0 0 82) ∧ (M 0 0 82) ≤ 6 := iM 0 0 82
  have w_5 : (jm_w ((M 0 0 82) - 1)) = ((M 0 0 82) - 1) := jm_wid (by omega) (by omega)
  refine wp_bp (s_fX12_in M1 iM1 l1 0 (jm_w ((M1 0 0 82) - 1)) hl1 ⟨by omega, by omega⟩ ⟨by omega, by omega⟩ ) (fun v3 hv3 => ?_)
  have b_6 : -2147483648 ≤ l1 ∧ l1 ≤ 2147483647 := hl1
  refine wp_ite (fun c_7 => ?_) (fun c_7 => ?_)
  · skip
    refine wp_bk (s_fX12_refuse M1 iM1   ) (fun v7 M8 iM8 jM8 hv7 => ?_)
    have kM8 := kM1.tr jM8 (fun _ _ _ h => h)
    exact wp_ret ⟨iM8, kM8, (jm_inL (by omega) (by omega))⟩
  · skip
    refine wp_T ⟨by omega, by omega⟩ ?_
    have q_8 : (M1 69 0 l1) = (M 69 0 l1) := by rw [u_1]; exact jm_une_f (by decide)
    have b_9 : (-2147483648) ≤ (M 69 0 l1) ∧ (M 69 0 l1) ≤ 2147483647 := iM 69 0 l1
    exact wp_ret ⟨iM1, kM1, (bx2_in (iM1 69 0 l1))⟩
set_option maxHeartbeats 4000000 in
set_option maxRecDepth 100000 in
theorem s_fX12_seconds (fu : Nat) (hfu : 4000 ≤ fu) (M : jm_M) (iM : bI bx2 M) (l1 l2 : Int) (hl1 : jm_in l1) (hl2 : jm_in l2) (wM : WF M) : wp (fX12_seconds fu M l1 l2) (fun r M1 => bI bx2 M1 ∧ Kp TA2 M M1 ∧ (jm_in r)) := by
  have kM : Kp TA2 M M := Kp.rf
  unfold fX12_seconds
  refine wp_sk iM (jm_inL (by decide) (by decide)) kM (by unfold TA2; omega) (fun M1 u_1 iM1 kM1 => ?_)
  refine wp_bp (s_fX12_isCar M1 iM1 l1 hl1 ) (fun v2 hv2 => ?_)
  have b_2 : -2147483648 ≤ l1 ∧ l1 ≤ 2147483647 := hl1
  have q_3 : (M1 0 0 17) = (M 0 0 17) := by rw [u_1]; exact jm_une_k (by decide)
  have b_4 : 0 ≤ (M 0 0 17) ∧ (M 0 0 17) ≤ 6 := iM 0 0 17
  refine wp_ite (fun c_5 => ?_) (fun c_5 => ?_)
  · skip
    exact wp_ret ⟨iM1, kM1, (jm_inL (by decide) (by decide))⟩
  · skip
    refine wp_bp (s_fX12_isDay M1 iM1 l2 hl2 ) (fun v6 hv6 => ?_)
    have b_6 : -2147483648 ≤ l2 ∧ l2 ≤ 2147483647 := hl2
    refine wp_ite (fun c_7 => ?_) (fun c_7 => ?_)
    · skip
      exact wp_ret ⟨iM1, kM1, (jm_inL (by decide) (by decide))⟩
    · skip
      refine wp_bk (s_fX12_runs fu hfu M1 iM1   (WF.kp kM1 wM wf_TA2) ) (fun v10 M11 iM11 jM11 hv10 => ?_)
      have kM11 := kM1.tr jM11 (fun _ _ _ h => h)
      refine wp_bk (s_fX12_secondsOf fu hfu M11 iM11 l1 l2 ⟨by omega, by omega⟩ ⟨by omega, by omega⟩ (WF.kp kM11 wM wf_TA2) ) (fun v12 M13 iM13 jM13 hv12 => ?_)
      have kM13 := kM11.tr jM13 (fun _ _ _ h => h)
      have b_8 : -2147483648 ≤ v12 ∧ v12 ≤ 2147483647 := hv12
      exact wp_ret ⟨iM13, kM13, hv12⟩
set_option maxHeartbeats 4000000 in
set_option maxRecDepth 100000 in
theorem s_fX12_sector (M : jm_M) (iM : bI bx2 M) (l1 l2 l3 : Int) (hl1 : jm_in l1) (hl2 : jm_in l2) (hl3 : jm_in l3) : wp (fX12_sector M l1 l2 l3) (fun r M1 => bI bx2 M1 ∧ Kp RC2 M M1 ∧ (0 ≤ r ∧ r ≤ 1 ∧ (((0 ≤ l1 ∧ l1 < M 0 0 1 ∧ 5000 ≤ l2 ∧ l2 ≤ 60000 ∧ -1 ≤ l3 ∧ l3 ≤ 5000) ∧ r = 1) ∨ (¬ (0 ≤ l1 ∧ l1 < M 0 0 1 ∧ 5000 ≤ l2 ∧ l2 ≤ 60000 ∧ -1 ≤ l3 ∧ l3 ≤ 5000) ∧ r = 0)))) := by
  have kM : Kp RC2 M M := Kp.rf
  unfold fX12_sector
  refine wp_sk iM (jm_inL (by decide) (by decide)) kM (by unfold RC2; omega) (fun M1 u_1 iM1 kM1 => ?_)
  refine wp_bp (s_fX12_isSector M1 iM1 l1 hl1 ) (fun v2 hv2 => ?_)
  have b_2 : -2147483648 ≤ l1 ∧ l1 ≤ 2147483647 := hl1
  have q_3 : (M1 0 0 1) = (M 0 0 1) := by rw [u_1]; exact jm_une_k (by decide)
  have b_4 : 2 ≤ (M 0 0 1) ∧ (M 0 0 1) ≤ 5 := iM 0 0 1
  refine wp_ite (fun c_5 => ?_) (fun c_5 => ?_)
  · skip
    exact wp_ret ⟨iM1, kM1, by omega, by omega, by omega⟩
  · skip
    refine wp_bp (s_fX12_in M1 iM1 l2 5000 60000 hl2 ⟨by omega, by omega⟩ ⟨by omega, by omega⟩ ) (fun v6 hv6 => ?_)
    have b_6 : -2147483648 ≤ l2 ∧ l2 ≤ 2147483647 := hl2
    refine wp_ite (fun c_7 => ?_) (fun c_7 => ?_)
    · skip
      exact wp_ret ⟨iM1, kM1, by omega, by omega, by omega⟩
    · skip
      refine wp_bp (s_fX12_in M1 iM1 l3 (-1) 5000 hl3 ⟨by omega, by omega⟩ ⟨by omega, by omega⟩ ) (fun v10 hv10 => ?_)
      have b_8 : -2147483648 ≤ l3 ∧ l3 ≤ 2147483647 := hl3
      refine wp_ite (fun c_9 => ?_) (fun c_9 => ?_)
      · skip
        exact wp_ret ⟨iM1, kM1, by omega, by omega, by omega⟩
      · skip
        refine wp_T ⟨by omega, by omega⟩ ?_
        refine wp_sk iM1 hl2 kM1 (by unfold RC2; omega) (fun M15 u_10 iM15 kM15 => ?_)
        refine wp_T ⟨by omega, by omega⟩ ?_
        refine wp_sk iM15 hl3 kM15 (by unfold RC2; omega) (fun M17 u_11 iM17 kM17 => ?_)
        exact wp_ret ⟨iM17, kM17, by omega, by omega, by omega⟩
theorem set30_iff {l1 l2 v1 s0 : Int} (h : (l1 = 0 ∧ v1 = 2000) ∨ (l1 = 1 ∧ v1 = 50) ∨ (l1 = 2 ∧ v1 = 500) ∨ (l1 = 3 ∧ v1 = 60000) ∨ (l1 = 4 ∧ v1 = 20000) ∨ (l1 = 5 ∧ v1 = 200) ∨ (l1 = 6 ∧ v1 = 2000) ∨ (l1 = 7 ∧ v1 = 9)) (y : (l1 = 0 ∧ s0 = 100) ∨ (l1 ≠ 0 ∧ s0 = 0)) : ((l1 = 0 ∧ 100 ≤ l2 ∧ l2 ≤ 2000) ∨ (l1 = 1 ∧ 0 ≤ l2 ∧ l2 ≤ 50) ∨ (l1 = 2 ∧ 0 ≤ l2 ∧ l2 ≤ 500) ∨ (l1 = 3 ∧ 0 ≤ l2 ∧ l2 ≤ 60000) ∨ (l1 = 4 ∧ 0 ≤ l2 ∧ l2 ≤ 20000) ∨ (l1 = 5 ∧ 0 ≤ l2 ∧ l2 ≤ 200) ∨ (l1 = 6 ∧ 0 ≤ l2 ∧ l2 ≤ 2000) ∨ (l1 = 7 ∧ 0 ≤ l2 ∧ l2 ≤ 9)) ↔ (s0 ≤ l2 ∧ l2 ≤ v1) := by
  rcases h with ⟨e1, e2⟩ | ⟨e1, e2⟩ | ⟨e1, e2⟩ | ⟨e1, e2⟩ | ⟨e1, e2⟩ | ⟨e1, e2⟩ | ⟨e1, e2⟩ | ⟨e1, e2⟩
  · subst e1; subst e2
    have ys : s0 = 100 := by omega
    refine ⟨fun q => ?_, fun q => (Or.inl ⟨rfl, by omega, by omega⟩)⟩
    rcases q with q | q | q | q | q | q | q | q
    · omega
    · exact absurd q.1 (by decide)
    · exact absurd q.1 (by decide)
    · exact absurd q.1 (by decide)
    · exact absurd q.1 (by decide)
    · exact absurd q.1 (by decide)
    · exact absurd q.1 (by decide)
    · exact absurd q.1 (by decide)
  · subst e1; subst e2
    have ys : s0 = 0 := by omega
    refine ⟨fun q => ?_, fun q => (Or.inr (Or.inl ⟨rfl, by omega, by omega⟩))⟩
    rcases q with q | q | q | q | q | q | q | q
    · exact absurd q.1 (by decide)
    · omega
    · exact absurd q.1 (by decide)
    · exact absurd q.1 (by decide)
    · exact absurd q.1 (by decide)
    · exact absurd q.1 (by decide)
    · exact absurd q.1 (by decide)
    · exact absurd q.1 (by decide)
  · subst e1; subst e2
    have ys : s0 = 0 := by omega
    refine ⟨fun q => ?_, fun q => (Or.inr (Or.inr (Or.inl ⟨rfl, by omega, by omega⟩)))⟩
    rcases q with q | q | q | q | q | q | q | q
    · exact absurd q.1 (by decide)
    · exact absurd q.1 (by decide)
    · omega
    · exact absurd q.1 (by decide)
    · exact absurd q.1 (by decide)
    · exact absurd q.1 (by decide)
    · exact absurd q.1 (by decide)
    · exact absurd q.1 (by decide)
  · subst e1; subst e2
    have ys : s0 = 0 := by omega
    refine ⟨fun q => ?_, fun q => (Or.inr (Or.inr (Or.inr (Or.inl ⟨rfl, by omega, by omega⟩))))⟩
    rcases q with q | q | q | q | q | q | q | q
    · exact absurd q.1 (by decide)
    · exact absurd q.1 (by decide)
    · exact absurd q.1 (by decide)
    · omega
    · exact absurd q.1 (by decide)
    · exact absurd q.1 (by decide)
    · exact absurd q.1 (by decide)
    · exact absurd q.1 (by decide)
  · subst e1; subst e2
    have ys : s0 = 0 := by omega
    refine ⟨fun q => ?_, fun q => (Or.inr (Or.inr (Or.inr (Or.inr (Or.inl ⟨rfl, by omega, by omega⟩)))))⟩
    rcases q with q | q | q | q | q | q | q | q
    · exact absurd q.1 (by decide)
    · exact absurd q.1 (by decide)
    · exact absurd q.1 (by decide)
    · exact absurd q.1 (by decide)
    · omega
    · exact absurd q.1 (by decide)
    · exact absurd q.1 (by decide)
    · exact absurd q.1 (by decide)
  · subst e1; subst e2
    have ys : s0 = 0 := by omega
    refine ⟨fun q => ?_, fun q => (Or.inr (Or.inr (Or.inr (Or.inr (Or.inr (Or.inl ⟨rfl, by omega, by omega⟩))))))⟩
    rcases q with q | q | q | q | q | q | q | q
    · exact absurd q.1 (by decide)
    · exact absurd q.1 (by decide)
    · exact absurd q.1 (by decide)
    · exact absurd q.1 (by decide)
    · exact absurd q.1 (by decide)
    · omega
    · exact absurd q.1 (by decide)
    · exact absurd q.1 (by decide)
  · subst e1; subst e2
    have ys : s0 = 0 := by omega
    refine ⟨fun q => ?_, fun q => (Or.inr (Or.inr (Or.inr (Or.inr (Or.inr (Or.inr (Or.inl ⟨rfl, by omega, by omega⟩)))))))⟩
    rcases q with q | q | q | q | q | q | q | q
    · exact absurd q.1 (by decide)
    · exact absurd q.1 (by decide)
    · exact absurd q.1 (by decide)
    · exact absurd q.1 (by decide)
    · exact absurd q.1 (by decide)
    · exact absurd q.1 (by decide)
    · omega
    · exact absurd q.1 (by decide)
  · subst e1; subst e2
    have ys : s0 = 0 := by omega
    refine ⟨fun q => ?_, fun q => (Or.inr (Or.inr (Or.inr (Or.inr (Or.inr (Or.inr (Or.inr ⟨rfl, by omega, by omega⟩)))))))⟩
    rcases q with q | q | q | q | q | q | q | q
    · exact absurd q.1 (by decide)
    · exact absurd q.1 (by decide)
    · exact absurd q.1 (by decide)
    · exact absurd q.1 (by decide)
    · exact absurd q.1 (by decide)
    · exact absurd q.1 (by decide)
    · exact absurd q.1 (by decide)
    · omega
set_option maxHeartbeats 4000000 in
set_option maxRecDepth 100000 in
theorem s_gX12_set_30 (fu : Nat) (hfu : 4000 ≤ fu) (M0 : jm_M) : ∀ (l1 l2 s0 s1 : Int) (M : jm_M) (iM : bI bx2 M) (kM : Kp (TM2 5 l1) M0 M) (hl1 : 0 ≤ l1 ∧ l1 ≤ 7) (hl2 : jm_in l2) (hs0 : 0 ≤ s0 ∧ s0 ≤ 100) (hs1 : jm_in s1) (y0 : (s1 = l2 ∧ ((l1 = 0 ∧ s0 = 100) ∨ (l1 ≠ 0 ∧ s0 = 0)))) (z0 : M 5 0 l1 = M0 5 0 l1), wp (gX12_set_30 fu  M l1 l2 s0 s1) (fun r M1 => bI bx2 M1 ∧ Kp (TM2 5 l1) M0 M1 ∧ (jm_in r ∧ ((((l1 = 0 ∧ 100 ≤ l2 ∧ l2 ≤ 2000) ∨ (l1 = 1 ∧ 0 ≤ l2 ∧ l2 ≤ 50) ∨ (l1 = 2 ∧ 0 ≤ l2 ∧ l2 ≤ 500) ∨ (l1 = 3 ∧ 0 ≤ l2 ∧ l2 ≤ 60000) ∨ (l1 = 4 ∧ 0 ≤ l2 ∧ l2 ≤ 20000) ∨ (l1 = 5 ∧ 0 ≤ l2 ∧ l2 ≤ 200) ∨ (l1 = 6 ∧ 0 ≤ l2 ∧ l2 ≤ 2000) ∨ (l1 = 7 ∧ 0 ≤ l2 ∧ l2 ≤ 9)) ∧ r = M0 5 0 l1 ∧ M1 5 0 l1 = l2) ∨ (¬ ((l1 = 0 ∧ 100 ≤ l2 ∧ l2 ≤ 2000) ∨ (l1 = 1 ∧ 0 ≤ l2 ∧ l2 ≤ 50) ∨ (l1 = 2 ∧ 0 ≤ l2 ∧ l2 ≤ 500) ∨ (l1 = 3 ∧ 0 ≤ l2 ∧ l2 ≤ 60000) ∨ (l1 = 4 ∧ 0 ≤ l2 ∧ l2 ≤ 20000) ∨ (l1 = 5 ∧ 0 ≤ l2 ∧ l2 ≤ 200) ∨ (l1 = 6 ∧ 0 ≤ l2 ∧ l2 ≤ 2000) ∨ (l1 = 7 ∧ 0 ≤ l2 ∧ l2 ≤ 9)) ∧ r = -1 ∧ M1 5 0 l1 = M0 5 0 l1)))) := by
  intro l1 l2 s0 s1 M iM kM hl1 hl2 hs0 hs1 y0 z0
  unfold gX12_set_30
  refine wp_bp (s_fX12_mostOf M iM l1 ⟨by omega, by omega⟩ ) (fun v1 hv1 => ?_)
  refine wp_bp (s_fX12_in M iM s1 s0 v1 hs1 ⟨by omega, by omega⟩ ⟨by omega, by omega⟩ ) (fun v4 hv4 => ?_)
  have b_1 : -2147483648 ≤ s1 ∧ s1 ≤ 2147483647 := hs1
  have key : Nonempty _ := ⟨set30_iff (l2 := l2) hv1 y0.2⟩
  have e0 := y0.1
  clear hv1 y0
  refine wp_ite (fun c_2 => ?_) (fun c_2 => ?_)
  · skip
    have b_3 : (-2147483648) ≤ (M 5 0 l1) ∧ (M 5 0 l1) ≤ 2147483647 := iM 5 0 l1
    have f : ¬ (s0 ≤ l2 ∧ l2 ≤ v1) := by omega
    exact wp_ret ⟨iM, kM, (jm_inL (by decide) (by decide)), Or.inr ⟨fun q => key.elim (fun k => f (k.1 q)), rfl, z0⟩⟩
  · skip
    refine wp_T ⟨by omega, by omega⟩ ?_
    have b_4 : (-2147483648) ≤ (M 5 0 l1) ∧ (M 5 0 l1) ≤ 2147483647 := iM 5 0 l1
    refine wp_e (by exact (iM 5 0 l1)) (fun v10 e_5 hv10 => ?_)
    refine wp_T ⟨by omega, by omega⟩ ?_
    refine wp_sk iM hl2 kM (by unfold TM2 RC2; omega) (fun M13 u_6 iM13 kM13 => ?_)
    have b_7 : -2147483648 ≤ v10 ∧ v10 ≤ 2147483647 := hv10
    have q_8 : (M13 5 0 l1) = l2 := by rw [u_6]; exact jm_ueq
    have b_9 : -2147483648 ≤ l2 ∧ l2 ≤ 2147483647 := hl2
    have f : s0 ≤ l2 ∧ l2 ≤ v1 := by omega
    have g : v10 = M0 5 0 l1 := by omega
    exact wp_ret ⟨iM13, kM13, hv10, Or.inl ⟨key.elim (fun k => k.2 f), g, q_8⟩⟩
set_option maxHeartbeats 4000000 in
set_option maxRecDepth 100000 in
theorem s_fX12_set (fu : Nat) (hfu : 4000 ≤ fu) (M : jm_M) (iM : bI bx2 M) (l1 l2 : Int) (hl1 : jm_in l1) (hl2 : jm_in l2) : wp (fX12_set fu M l1 l2) (fun r M1 => bI bx2 M1 ∧ Kp (TM2 5 l1) M M1 ∧ (jm_in r ∧ ((((l1 = 0 ∧ 100 ≤ l2 ∧ l2 ≤ 2000) ∨ (l1 = 1 ∧ 0 ≤ l2 ∧ l2 ≤ 50) ∨ (l1 = 2 ∧ 0 ≤ l2 ∧ l2 ≤ 500) ∨ (l1 = 3 ∧ 0 ≤ l2 ∧ l2 ≤ 60000) ∨ (l1 = 4 ∧ 0 ≤ l2 ∧ l2 ≤ 20000) ∨ (l1 = 5 ∧ 0 ≤ l2 ∧ l2 ≤ 200) ∨ (l1 = 6 ∧ 0 ≤ l2 ∧ l2 ≤ 2000) ∨ (l1 = 7 ∧ 0 ≤ l2 ∧ l2 ≤ 9)) ∧ r = M 5 0 l1 ∧ M1 5 0 l1 = l2) ∨ (¬ ((l1 = 0 ∧ 100 ≤ l2 ∧ l2 ≤ 2000) ∨ (l1 = 1 ∧ 0 ≤ l2 ∧ l2 ≤ 50) ∨ (l1 = 2 ∧ 0 ≤ l2 ∧ l2 ≤ 500) ∨ (l1 = 3 ∧ 0 ≤ l2 ∧ l2 ≤ 60000) ∨ (l1 = 4 ∧ 0 ≤ l2 ∧ l2 ≤ 20000) ∨ (l1 = 5 ∧ 0 ≤ l2 ∧ l2 ≤ 200) ∨ (l1 = 6 ∧ 0 ≤ l2 ∧ l2 ≤ 2000) ∨ (l1 = 7 ∧ 0 ≤ l2 ∧ l2 ≤ 9)) ∧ r = -1 ∧ M1 5 0 l1 = M 5 0 l1)))) := by
  have kM : Kp (TM2 5 l1) M M := Kp.rf
  unfold fX12_set
  refine wp_sk iM (jm_inL (by decide) (by decide)) kM (by unfold TM2 RC2; omega) (fun M1 u_1 iM1 kM1 => ?_)
  refine wp_bp (s_fX12_in M1 iM1 l1 0 7 hl1 ⟨by omega, by omega⟩ ⟨by omega, by omega⟩ ) (fun v2 hv2 => ?_)
  have b_2 : -2147483648 ≤ l1 ∧ l1 ≤ 2147483647 := hl1
  refine wp_ite (fun c_3 => ?_) (fun c_3 => ?_)
  · skip
    have q_4 : (M1 5 0 l1) = (M 5 0 l1) := by rw [u_1]; exact jm_une_f (by decide)
    have b_5 : (-2147483648) ≤ (M 5 0 l1) ∧ (M 5 0 l1) ≤ 2147483647 := iM 5 0 l1
    exact wp_ret ⟨iM1, kM1, (jm_inL (by decide) (by decide)), by omega⟩
  · skip
    refine wp_ite (fun c_6 => ?_) (fun c_6 => ?_)
    · skip
      have b_7 : -2147483648 ≤ l2 ∧ l2 ≤ 2147483647 := hl2
      have q_8 : (M1 5 0 l1) = (M 5 0 l1) := by rw [u_1]; exact jm_une_f (by decide)
      have b_9 : (-2147483648) ≤ (M 5 0 l1) ∧ (M 5 0 l1) ≤ 2147483647 := iM 5 0 l1
      exact s_gX12_set_30 fu hfu M    l1 l2 100 l2 M1 iM1 kM1 ⟨by omega, by omega⟩ hl2 ⟨by omega, by omega⟩ hl2 (by omega) (by omega) 
    · skip
      have b_10 : -2147483648 ≤ l2 ∧ l2 ≤ 2147483647 := hl2
      have q_11 : (M1 5 0 l1) = (M 5 0 l1) := by rw [u_1]; exact jm_une_f (by decide)
      have b_12 : (-2147483648) ≤ (M 5 0 l1) ∧ (M 5 0 l1) ≤ 2147483647 := iM 5 0 l1
      exact s_gX12_set_30 fu hfu M    l1 l2 0 l2 M1 iM1 kM1 ⟨by omega, by omega⟩ hl2 ⟨by omega, by omega⟩ hl2 (by omega) (by omega) 
set_option maxHeartbeats 4000000 in
set_option maxRecDepth 100000 in
theorem s_gX12_settle_221 (fu : Nat) (hfu : 4000 ≤ fu) (M0 : jm_M) (w0 : WF M0) (k207 : jm_M → Int → Int → Int → jm_R) (k221 : jm_M → Int → Int → Int → Int → jm_R) (N207 N221 : Int) (hk207 : ∀ (l1 l2 l4 : Int) (M : jm_M) (iM : bI bx2 M) (kM : Kp (TS2 l1 l2) M0 M) (hl1 : 0 ≤ l1 ∧ l1 ≤ 5) (hl2 : 0 ≤ l2 ∧ l2 ≤ 5) (hl4 : 0 ≤ l4 ∧ l4 ≤ 4) (z0 : M 26 0 l1 = M0 26 0 l1 ∧ M 26 0 l2 = M0 26 0 l2 ∧ l1 ≠ l2), 5 - l4 < N207 → wp (k207 M l1 l2 l4) (fun r M1 => bI bx2 M1 ∧ Kp (TS2 l1 l2) M0 M1 ∧ ((-2) ≤ r ∧ r ≤ 35 ∧ (M1 26 0 l1 = M0 26 0 l1 ∧ M1 26 0 l2 = M0 26 0 l2)))) (hk221 : ∀ (l1 l2 l4 l5 : Int) (M : jm_M) (iM : bI bx2 M) (kM : Kp (TS2 l1 l2) M0 M) (hl1 : 0 ≤ l1 ∧ l1 ≤ 5) (hl2 : 0 ≤ l2 ∧ l2 ≤ 5) (hl4 : 0 ≤ l4 ∧ l4 ≤ 3) (hl5 : 0 ≤ l5 ∧ l5 ≤ 4) (z0 : M 26 0 l1 = M0 26 0 l1 ∧ M 26 0 l2 = M0 26 0 l2 ∧ l1 ≠ l2), 5 - l4 < N207 + 1 → 5 - l5 < N221 → wp (k221 M l1 l2 l4 l5) (fun r M1 => bI bx2 M1 ∧ Kp (TS2 l1 l2) M0 M1 ∧ ((-2) ≤ r ∧ r ≤ 35 ∧ (M1 26 0 l1 = M0 26 0 l1 ∧ M1 26 0 l2 = M0 26 0 l2)))) : ∀ (l1 l2 l4 l5 : Int) (M : jm_M) (iM : bI bx2 M) (kM : Kp (TS2 l1 l2) M0 M) (hl1 : 0 ≤ l1 ∧ l1 ≤ 5) (hl2 : 0 ≤ l2 ∧ l2 ≤ 5) (hl4 : 0 ≤ l4 ∧ l4 ≤ 3) (hl5 : 0 ≤ l5 ∧ l5 ≤ 4) (z0 : M 26 0 l1 = M0 26 0 l1 ∧ M 26 0 l2 = M0 26 0 l2 ∧ l1 ≠ l2), 5 - l4 < N207 + 1 → 5 - l5 < N221 + 1 → wp (gX12_settle_221 fu k207 k221 M l1 l2 l4 l5) (fun r M1 => bI bx2 M1 ∧ Kp (TS2 l1 l2) M0 M1 ∧ ((-2) ≤ r ∧ r ≤ 35 ∧ (M1 26 0 l1 = M0 26 0 l1 ∧ M1 26 0 l2 = M0 26 0 l2))) := by
  intro l1 l2 l4 l5 M iM kM hl1 hl2 hl4 hl5 z0 m207 m221
  unfold gX12_settle_221
  refine wp_T ⟨by omega, by omega⟩ ?_
  have b_2 : 0 ≤ (M 31 0 l2) ∧ (M 31 0 l2) ≤ 4 := iM 31 0 l2
  refine wp_ite (fun c_1 => ?_) (fun c_1 => ?_)
  · skip
    have w_3 : (jm_w (l4 + 1)) = (l4 + 1) := jm_wid (by omega) (by omega)
    refine wp_e (by exact (jm_w_in _)) (fun v4 e_4 hv4 => ?_)
    have b_5 : -2147483648 ≤ v4 ∧ v4 ≤ 2147483647 := hv4
    have b_6 : 0 ≤ (M 26 0 l1) ∧ (M 26 0 l1) ≤ 5 := iM 26 0 l1
    have b_7 : 0 ≤ (M 73 0 l1) ∧ (M 73 0 l1) ≤ 5 := iM 73 0 l1
    have b_8 : 0 ≤ (M 26 0 l2) ∧ (M 26 0 l2) ≤ 5 := iM 26 0 l2
    have b_9 : 0 ≤ (M 73 0 l2) ∧ (M 73 0 l2) ≤ 5 := iM 73 0 l2
    exact hk207 l1 l2 v4 M iM kM ⟨by omega, by omega⟩ ⟨by omega, by omega⟩ ⟨by omega, by omega⟩ (by omega) (by omega)
  · skip
    refine wp_T ⟨by omega, by omega⟩ ?_
    refine wp_T ⟨by omega, by omega⟩ ?_
    have b_10 : 0 ≤ (M 31 0 l1) ∧ (M 31 0 l1) ≤ 4 := iM 31 0 l1
    refine wp_bp (s_fX12_isSettled fu hfu M iM l4 l5 (M 31 0 l1) (M 31 0 l2) ⟨by omega, by omega⟩ ⟨by omega, by omega⟩ ⟨by omega, by omega⟩ ⟨by omega, by omega⟩ ) (fun v10 hv10 => ?_)
    refine wp_ite (fun c_11 => ?_) (fun c_11 => ?_)
    · skip
      have w_12 : (jm_w (l5 + 1)) = (l5 + 1) := jm_wid (by omega) (by omega)
      refine wp_e (by exact (jm_w_in _)) (fun v14 e_13 hv14 => ?_)
      have b_14 : -2147483648 ≤ v14 ∧ v14 ≤ 2147483647 := hv14
      have b_15 : 0 ≤ (M 26 0 l1) ∧ (M 26 0 l1) ≤ 5 := iM 26 0 l1
      have b_16 : 0 ≤ (M 73 0 l1) ∧ (M 73 0 l1) ≤ 5 := iM 73 0 l1
      have b_17 : 0 ≤ (M 26 0 l2) ∧ (M 26 0 l2) ≤ 5 := iM 26 0 l2
      have b_18 : 0 ≤ (M 73 0 l2) ∧ (M 73 0 l2) ≤ 5 := iM 73 0 l2
      exact hk221 l1 l2 l4 v14 M iM kM ⟨by omega, by omega⟩ ⟨by omega, by omega⟩ ⟨by omega, by omega⟩ ⟨by omega, by omega⟩ (by omega) (by omega) (by omega)
    · skip
      have w_19 : (jm_w (10 * l4)) = (10 * l4) := jm_wid (by omega) (by omega)
      have w_20 : (jm_w ((jm_w (10 * l4)) + l5)) = ((jm_w (10 * l4)) + l5) := jm_wid (by omega) (by omega)
      have b_21 : 0 ≤ (M 26 0 l1) ∧ (M 26 0 l1) ≤ 5 := iM 26 0 l1
      have b_22 : 0 ≤ (M 73 0 l1) ∧ (M 73 0 l1) ≤ 5 := iM 73 0 l1
      have b_23 : 0 ≤ (M 26 0 l2) ∧ (M 26 0 l2) ≤ 5 := iM 26 0 l2
      have b_24 : 0 ≤ (M 73 0 l2) ∧ (M 73 0 l2) ≤ 5 := iM 73 0 l2
      exact wp_ret ⟨iM, kM, by omega, by omega, by omega⟩
set_option maxHeartbeats 4000000 in
set_option maxRecDepth 100000 in
theorem s_fX12_settle_221 (fu : Nat) (hfu : 4000 ≤ fu) (M0 : jm_M) (w0 : WF M0) (k207 : jm_M → Int → Int → Int → jm_R) (N207 : Int) (hk207 : ∀ (l1 l2 l4 : Int) (M : jm_M) (iM : bI bx2 M) (kM : Kp (TS2 l1 l2) M0 M) (hl1 : 0 ≤ l1 ∧ l1 ≤ 5) (hl2 : 0 ≤ l2 ∧ l2 ≤ 5) (hl4 : 0 ≤ l4 ∧ l4 ≤ 4) (z0 : M 26 0 l1 = M0 26 0 l1 ∧ M 26 0 l2 = M0 26 0 l2 ∧ l1 ≠ l2), 5 - l4 < N207 → wp (k207 M l1 l2 l4) (fun r M1 => bI bx2 M1 ∧ Kp (TS2 l1 l2) M0 M1 ∧ ((-2) ≤ r ∧ r ≤ 35 ∧ (M1 26 0 l1 = M0 26 0 l1 ∧ M1 26 0 l2 = M0 26 0 l2)))) : ∀ (n : Nat) (l1 l2 l4 l5 : Int) (M : jm_M) (iM : bI bx2 M) (kM : Kp (TS2 l1 l2) M0 M) (hl1 : 0 ≤ l1 ∧ l1 ≤ 5) (hl2 : 0 ≤ l2 ∧ l2 ≤ 5) (hl4 : 0 ≤ l4 ∧ l4 ≤ 3) (hl5 : 0 ≤ l5 ∧ l5 ≤ 4) (z0 : M 26 0 l1 = M0 26 0 l1 ∧ M 26 0 l2 = M0 26 0 l2 ∧ l1 ≠ l2), 5 - l4 < N207 + 1 → 5 - l5 < (n : Int) → wp (fX12_settle_221 fu k207 n M l1 l2 l4 l5) (fun r M1 => bI bx2 M1 ∧ Kp (TS2 l1 l2) M0 M1 ∧ ((-2) ≤ r ∧ r ≤ 35 ∧ (M1 26 0 l1 = M0 26 0 l1 ∧ M1 26 0 l2 = M0 26 0 l2))) := by
  intro n
  induction n with
  | zero => intro l1 l2 l4 l5 M iM kM hl1 hl2 hl4 hl5 z0 m207 hm; exfalso; omega
  | succ n ih =>
    intro l1 l2 l4 l5 M iM kM hl1 hl2 hl4 hl5 z0 m207 hm
    exact s_gX12_settle_221 fu hfu M0 w0 k207 (fX12_settle_221 fu k207 n) N207 (n : Int) hk207 ih l1 l2 l4 l5 M iM kM hl1 hl2 hl4 hl5 z0 m207 (by omega)
set_option maxHeartbeats 4000000 in
set_option maxRecDepth 100000 in
theorem s_gX12_settle_207 (fu : Nat) (hfu : 4000 ≤ fu) (M0 : jm_M) (w0 : WF M0) (k207 : jm_M → Int → Int → Int → jm_R) (N207 : Int) (hk207 : ∀ (l1 l2 l4 : Int) (M : jm_M) (iM : bI bx2 M) (kM : Kp (TS2 l1 l2) M0 M) (hl1 : 0 ≤ l1 ∧ l1 ≤ 5) (hl2 : 0 ≤ l2 ∧ l2 ≤ 5) (hl4 : 0 ≤ l4 ∧ l4 ≤ 4) (z0 : M 26 0 l1 = M0 26 0 l1 ∧ M 26 0 l2 = M0 26 0 l2 ∧ l1 ≠ l2), 5 - l4 < N207 → wp (k207 M l1 l2 l4) (fun r M1 => bI bx2 M1 ∧ Kp (TS2 l1 l2) M0 M1 ∧ ((-2) ≤ r ∧ r ≤ 35 ∧ (M1 26 0 l1 = M0 26 0 l1 ∧ M1 26 0 l2 = M0 26 0 l2)))) : ∀ (l1 l2 l4 : Int) (M : jm_M) (iM : bI bx2 M) (kM : Kp (TS2 l1 l2) M0 M) (hl1 : 0 ≤ l1 ∧ l1 ≤ 5) (hl2 : 0 ≤ l2 ∧ l2 ≤ 5) (hl4 : 0 ≤ l4 ∧ l4 ≤ 4) (z0 : M 26 0 l1 = M0 26 0 l1 ∧ M 26 0 l2 = M0 26 0 l2 ∧ l1 ≠ l2), 5 - l4 < N207 + 1 → wp (gX12_settle_207 fu k207 M l1 l2 l4) (fun r M1 => bI bx2 M1 ∧ Kp (TS2 l1 l2) M0 M1 ∧ ((-2) ≤ r ∧ r ≤ 35 ∧ (M1 26 0 l1 = M0 26 0 l1 ∧ M1 26 0 l2 = M0 26 0 l2))) := by
  intro l1 l2 l4 M iM kM hl1 hl2 hl4 z0 m207
  unfold gX12_settle_207
  refine wp_T ⟨by omega, by omega⟩ ?_
  have b_2 : 0 ≤ (M 31 0 l1) ∧ (M 31 0 l1) ≤ 4 := iM 31 0 l1
  refine wp_ite (fun c_1 => ?_) (fun c_1 => ?_)
  · skip
    have b_3 : 0 ≤ (M 26 0 l1) ∧ (M 26 0 l1) ≤ 5 := iM 26 0 l1
    have b_4 : 0 ≤ (M 73 0 l1) ∧ (M 73 0 l1) ≤ 5 := iM 73 0 l1
    have b_5 : 0 ≤ (M 26 0 l2) ∧ (M 26 0 l2) ≤ 5 := iM 26 0 l2
    have b_6 : 0 ≤ (M 73 0 l2) ∧ (M 73 0 l2) ≤ 5 := iM 73 0 l2
    exact wp_ret ⟨iM, kM, by omega, by omega, by omega⟩
  · skip
    have b_7 : 0 ≤ (M 26 0 l1) ∧ (M 26 0 l1) ≤ 5 := iM 26 0 l1
    have b_8 : 0 ≤ (M 73 0 l1) ∧ (M 73 0 l1) ≤ 5 := iM 73 0 l1
    have b_9 : 0 ≤ (M 26 0 l2) ∧ (M 26 0 l2) ≤ 5 := iM 26 0 l2
    have b_10 : 0 ≤ (M 73 0 l2) ∧ (M 73 0 l2) ≤ 5 := iM 73 0 l2
    exact s_fX12_settle_221 fu hfu M0 w0 k207 N207 hk207 fu l1 l2 l4 0 M iM kM ⟨by omega, by omega⟩ ⟨by omega, by omega⟩ ⟨by omega, by omega⟩ ⟨by omega, by omega⟩ (by omega) (by omega) (by omega)
set_option maxHeartbeats 4000000 in
set_option maxRecDepth 100000 in
theorem s_fX12_settle_207 (fu : Nat) (hfu : 4000 ≤ fu) (M0 : jm_M) (w0 : WF M0) : ∀ (n : Nat) (l1 l2 l4 : Int) (M : jm_M) (iM : bI bx2 M) (kM : Kp (TS2 l1 l2) M0 M) (hl1 : 0 ≤ l1 ∧ l1 ≤ 5) (hl2 : 0 ≤ l2 ∧ l2 ≤ 5) (hl4 : 0 ≤ l4 ∧ l4 ≤ 4) (z0 : M 26 0 l1 = M0 26 0 l1 ∧ M 26 0 l2 = M0 26 0 l2 ∧ l1 ≠ l2), 5 - l4 < (n : Int) → wp (fX12_settle_207 fu  n M l1 l2 l4) (fun r M1 => bI bx2 M1 ∧ Kp (TS2 l1 l2) M0 M1 ∧ ((-2) ≤ r ∧ r ≤ 35 ∧ (M1 26 0 l1 = M0 26 0 l1 ∧ M1 26 0 l2 = M0 26 0 l2))) := by
  intro n
  induction n with
  | zero => intro l1 l2 l4 M iM kM hl1 hl2 hl4 z0 hm; exfalso; omega
  | succ n ih =>
    intro l1 l2 l4 M iM kM hl1 hl2 hl4 z0 hm
    exact s_gX12_settle_207 fu hfu M0 w0 (fX12_settle_207 fu  n) (n : Int) ih l1 l2 l4 M iM kM hl1 hl2 hl4 z0 (by omega)
set_option maxHeartbeats 4000000 in
set_option maxRecDepth 100000 in
theorem s_gX12_settle_80 (fu : Nat) (hfu : 4000 ≤ fu) (M0 : jm_M) (w0 : WF M0) (k66 : jm_M → Int → Int → Int → Int → jm_R) (k80 : jm_M → Int → Int → Int → Int → Int → jm_R) (N66 N80 : Int) (hk66 : ∀ (l1 l2 l3 l4 : Int) (M : jm_M) (iM : bI bx2 M) (kM : Kp (TS2 l1 l2) M0 M) (hl1 : 0 ≤ l1 ∧ l1 ≤ 5) (hl2 : 0 ≤ l2 ∧ l2 ≤ 5) (hl3 : 0 ≤ l3 ∧ l3 ≤ 99) (hl4 : 0 ≤ l4 ∧ l4 ≤ 4) (z0 : M 73 0 l1 = M0 26 0 l1 ∧ M 73 0 l2 = M0 26 0 l2 ∧ l1 ≠ l2), 5 - l4 < N66 → wp (k66 M l1 l2 l3 l4) (fun r M1 => bI bx2 M1 ∧ Kp (TS2 l1 l2) M0 M1 ∧ ((-2) ≤ r ∧ r ≤ 35 ∧ (M1 26 0 l1 = M0 26 0 l1 ∧ M1 26 0 l2 = M0 26 0 l2)))) (hk80 : ∀ (l1 l2 l3 l4 l5 : Int) (M : jm_M) (iM : bI bx2 M) (kM : Kp (TS2 l1 l2) M0 M) (hl1 : 0 ≤ l1 ∧ l1 ≤ 5) (hl2 : 0 ≤ l2 ∧ l2 ≤ 5) (hl3 : 0 ≤ l3 ∧ l3 ≤ 99) (hl4 : 0 ≤ l4 ∧ l4 ≤ 3) (hl5 : 0 ≤ l5 ∧ l5 ≤ 4) (z0 : M 73 0 l1 = M0 26 0 l1 ∧ M 73 0 l2 = M0 26 0 l2 ∧ l1 ≠ l2), 5 - l4 < N66 + 1 → 5 - l5 < N80 → wp (k80 M l1 l2 l3 l4 l5) (fun r M1 => bI bx2 M1 ∧ Kp (TS2 l1 l2) M0 M1 ∧ ((-2) ≤ r ∧ r ≤ 35 ∧ (M1 26 0 l1 = M0 26 0 l1 ∧ M1 26 0 l2 = M0 26 0 l2)))) : ∀ (l1 l2 l3 l4 l5 : Int) (M : jm_M) (iM : bI bx2 M) (kM : Kp (TS2 l1 l2) M0 M) (hl1 : 0 ≤ l1 ∧ l1 ≤ 5) (hl2 : 0 ≤ l2 ∧ l2 ≤ 5) (hl3 : 0 ≤ l3 ∧ l3 ≤ 99) (hl4 : 0 ≤ l4 ∧ l4 ≤ 3) (hl5 : 0 ≤ l5 ∧ l5 ≤ 4) (z0 : M 73 0 l1 = M0 26 0 l1 ∧ M 73 0 l2 = M0 26 0 l2 ∧ l1 ≠ l2), 5 - l4 < N66 + 1 → 5 - l5 < N80 + 1 → wp (gX12_settle_80 fu k66 k80 M l1 l2 l3 l4 l5) (fun r M1 => bI bx2 M1 ∧ Kp (TS2 l1 l2) M0 M1 ∧ ((-2) ≤ r ∧ r ≤ 35 ∧ (M1 26 0 l1 = M0 26 0 l1 ∧ M1 26 0 l2 = M0 26 0 l2))) := by
  intro l1 l2 l3 l4 l5 M iM kM hl1 hl2 hl3 hl4 hl5 z0 m66 m80
  unfold gX12_settle_80
  refine wp_T ⟨by omega, by omega⟩ ?_
  have b_2 : 0 ≤ (M 31 0 l2) ∧ (M 31 0 l2) ≤ 4 := iM 31 0 l2
  refine wp_ite (fun c_1 => ?_) (fun c_1 => ?_)
  · skip
    have w_3 : (jm_w (l4 + 1)) = (l4 + 1) := jm_wid (by omega) (by omega)
    refine wp_e (by exact (jm_w_in _)) (fun v4 e_4 hv4 => ?_)
    have b_5 : -2147483648 ≤ v4 ∧ v4 ≤ 2147483647 := hv4
    have b_6 : 0 ≤ (M 26 0 l1) ∧ (M 26 0 l1) ≤ 5 := iM 26 0 l1
    have b_7 : 0 ≤ (M 73 0 l1) ∧ (M 73 0 l1) ≤ 5 := iM 73 0 l1
    have b_8 : 0 ≤ (M 26 0 l2) ∧ (M 26 0 l2) ≤ 5 := iM 26 0 l2
    have b_9 : 0 ≤ (M 73 0 l2) ∧ (M 73 0 l2) ≤ 5 := iM 73 0 l2
    exact hk66 l1 l2 l3 v4 M iM kM ⟨by omega, by omega⟩ ⟨by omega, by omega⟩ ⟨by omega, by omega⟩ ⟨by omega, by omega⟩ (by omega) (by omega)
  · skip
    refine wp_bk (s_fX12_chooses M iM l1 l4 ⟨by omega, by omega⟩ ⟨by omega, by omega⟩ ) (fun v6 M7 iM7 jM7 hv6 => ?_)
    have kM7 := kM.tr jM7 (tt_TS2_TU2 (by omega))
    refine wp_bk (s_fX12_chooses M7 iM7 l2 l5 ⟨by omega, by omega⟩ ⟨by omega, by omega⟩ ) (fun v8 M9 iM9 jM9 hv8 => ?_)
    have kM9 := kM7.tr jM9 (tt_TS2_TU2 (by omega))
    refine wp_bk (s_fX12_judges fu hfu M9 iM9 l3 ⟨by omega, by omega⟩ (WF.kp kM9 w0 wf_TS2) ) (fun v10 M11 iM11 jM11 hv10 => ?_)
    have kM11 := kM9.tr jM11 tt_TS2_TA2
    refine wp_bp (s_fX12_placeOf fu hfu M11 iM11 l1 0 ⟨by omega, by omega⟩ ⟨by omega, by omega⟩ ) (fun v12 hv12 => ?_)
    have w_10 : (jm_w (4 * l4)) = (4 * l4) := jm_wid (by omega) (by omega)
    have w_11 : (jm_w ((jm_w (4 * l4)) + l5)) = ((jm_w (4 * l4)) + l5) := jm_wid (by omega) (by omega)
    refine wp_T ⟨by omega, by omega⟩ ?_
    refine wp_sk iM11 (jm_inL (by omega) (by omega)) kM11 (by unfold TS2 RC2; omega) (fun M16 u_12 iM16 kM16 => ?_)
    refine wp_T ⟨by omega, by omega⟩ ?_
    refine wp_T ⟨by omega, by omega⟩ ?_
    have q_13 : (M16 68 0 l1) = (M11 68 0 l1) := by rw [u_12]; exact jm_une_f (by decide)
    refine wp_sk iM16 (bx2_in (iM16 68 0 l1)) kM16 (by unfold TS2 RC2; omega) (fun M20 u_14 iM20 kM20 => ?_)
    refine wp_bp (s_fX12_placeOf fu hfu M20 iM20 l2 0 ⟨by omega, by omega⟩ ⟨by omega, by omega⟩ ) (fun v21 hv21 => ?_)
    refine wp_T ⟨by omega, by omega⟩ ?_
    refine wp_sk iM20 (jm_inL (by omega) (by omega)) kM20 (by unfold TS2 RC2; omega) (fun M25 u_15 iM25 kM25 => ?_)
    refine wp_T ⟨by omega, by omega⟩ ?_
    refine wp_T ⟨by omega, by omega⟩ ?_
    have q_16 : (M25 68 0 l2) = (M20 68 0 l2) := by rw [u_15]; exact jm_une_f (by decide)
    have q_17 : (M20 68 0 l2) = (M16 68 0 l2) := by rw [u_14]; exact jm_une_f (by decide)
    have q_18 : (M16 68 0 l2) = (M11 68 0 l2) := by rw [u_12]; exact jm_une_f (by decide)
    refine wp_sk iM25 (bx2_in (iM25 68 0 l2)) kM25 (by unfold TS2 RC2; omega) (fun M29 u_19 iM29 kM29 => ?_)
    have w_20 : (jm_w (l5 + 1)) = (l5 + 1) := jm_wid (by omega) (by omega)
    refine wp_e (by exact (jm_w_in _)) (fun v30 e_21 hv30 => ?_)
    have b_22 : -2147483648 ≤ v30 ∧ v30 ≤ 2147483647 := hv30
    have q_23 : (M29 26 0 l1) = (M25 26 0 l1) := by rw [u_19]; exact jm_une_f (by decide)
    have q_24 : (M25 26 0 l1) = (M20 26 0 l1) := by rw [u_15]; exact jm_une_f (by decide)
    have q_25 : (M20 26 0 l1) = (M16 26 0 l1) := by rw [u_14]; exact jm_une_f (by decide)
    have q_26 : (M16 26 0 l1) = (M11 26 0 l1) := by rw [u_12]; exact jm_une_f (by decide)
    have q_27 : (M11 26 0 l1) = (M9 26 0 l1) := jM11 26 0 l1 (by unfold TA2; omega)
    have q_28 : (M9 26 0 l1) = (M7 26 0 l1) := jM9 26 0 l1 (by unfold TU2; omega)
    have b_29 : 0 ≤ (M7 26 0 l1) ∧ (M7 26 0 l1) ≤ 5 := iM7 26 0 l1
    have q_30 : (M29 73 0 l1) = (M25 73 0 l1) := by rw [u_19]; exact jm_une_f (by decide)
    have q_31 : (M25 73 0 l1) = (M20 73 0 l1) := by rw [u_15]; exact jm_une_f (by decide)
    have q_32 : (M20 73 0 l1) = (M16 73 0 l1) := by rw [u_14]; exact jm_une_f (by decide)
    have q_33 : (M16 73 0 l1) = (M11 73 0 l1) := by rw [u_12]; exact jm_une_f (by decide)
    have q_34 : (M11 73 0 l1) = (M9 73 0 l1) := jM11 73 0 l1 (by unfold TA2; omega)
    have q_35 : (M9 73 0 l1) = (M7 73 0 l1) := jM9 73 0 l1 (by unfold TU2; omega)
    have q_36 : (M7 73 0 l1) = (M 73 0 l1) := jM7 73 0 l1 (by unfold TU2; omega)
    have b_37 : 0 ≤ (M 73 0 l1) ∧ (M 73 0 l1) ≤ 5 := iM 73 0 l1
    have q_38 : (M29 26 0 l2) = (M25 26 0 l2) := by rw [u_19]; exact jm_une_f (by decide)
    have q_39 : (M25 26 0 l2) = (M20 26 0 l2) := by rw [u_15]; exact jm_une_f (by decide)
    have q_40 : (M20 26 0 l2) = (M16 26 0 l2) := by rw [u_14]; exact jm_une_f (by decide)
    have q_41 : (M16 26 0 l2) = (M11 26 0 l2) := by rw [u_12]; exact jm_une_f (by decide)
    have q_42 : (M11 26 0 l2) = (M9 26 0 l2) := jM11 26 0 l2 (by unfold TA2; omega)
    have b_43 : 0 ≤ (M9 26 0 l2) ∧ (M9 26 0 l2) ≤ 5 := iM9 26 0 l2
    have q_44 : (M29 73 0 l2) = (M25 73 0 l2) := by rw [u_19]; exact jm_une_f (by decide)
    have q_45 : (M25 73 0 l2) = (M20 73 0 l2) := by rw [u_15]; exact jm_une_f (by decide)
    have q_46 : (M20 73 0 l2) = (M16 73 0 l2) := by rw [u_14]; exact jm_une_f (by decide)
    have q_47 : (M16 73 0 l2) = (M11 73 0 l2) := by rw [u_12]; exact jm_une_f (by decide)
    have q_48 : (M11 73 0 l2) = (M9 73 0 l2) := jM11 73 0 l2 (by unfold TA2; omega)
    have q_49 : (M9 73 0 l2) = (M7 73 0 l2) := jM9 73 0 l2 (by unfold TU2; omega)
    have q_50 : (M7 73 0 l2) = (M 73 0 l2) := jM7 73 0 l2 (by unfold TU2; omega)
    have b_51 : 0 ≤ (M 73 0 l2) ∧ (M 73 0 l2) ≤ 5 := iM 73 0 l2
    exact hk80 l1 l2 l3 l4 v30 M29 iM29 kM29 ⟨by omega, by omega⟩ ⟨by omega, by omega⟩ ⟨by omega, by omega⟩ ⟨by omega, by omega⟩ ⟨by omega, by omega⟩ (by omega) (by omega) (by omega)
set_option maxHeartbeats 4000000 in
set_option maxRecDepth 100000 in
theorem s_fX12_settle_80 (fu : Nat) (hfu : 4000 ≤ fu) (M0 : jm_M) (w0 : WF M0) (k66 : jm_M → Int → Int → Int → Int → jm_R) (N66 : Int) (hk66 : ∀ (l1 l2 l3 l4 : Int) (M : jm_M) (iM : bI bx2 M) (kM : Kp (TS2 l1 l2) M0 M) (hl1 : 0 ≤ l1 ∧ l1 ≤ 5) (hl2 : 0 ≤ l2 ∧ l2 ≤ 5) (hl3 : 0 ≤ l3 ∧ l3 ≤ 99) (hl4 : 0 ≤ l4 ∧ l4 ≤ 4) (z0 : M 73 0 l1 = M0 26 0 l1 ∧ M 73 0 l2 = M0 26 0 l2 ∧ l1 ≠ l2), 5 - l4 < N66 → wp (k66 M l1 l2 l3 l4) (fun r M1 => bI bx2 M1 ∧ Kp (TS2 l1 l2) M0 M1 ∧ ((-2) ≤ r ∧ r ≤ 35 ∧ (M1 26 0 l1 = M0 26 0 l1 ∧ M1 26 0 l2 = M0 26 0 l2)))) : ∀ (n : Nat) (l1 l2 l3 l4 l5 : Int) (M : jm_M) (iM : bI bx2 M) (kM : Kp (TS2 l1 l2) M0 M) (hl1 : 0 ≤ l1 ∧ l1 ≤ 5) (hl2 : 0 ≤ l2 ∧ l2 ≤ 5) (hl3 : 0 ≤ l3 ∧ l3 ≤ 99) (hl4 : 0 ≤ l4 ∧ l4 ≤ 3) (hl5 : 0 ≤ l5 ∧ l5 ≤ 4) (z0 : M 73 0 l1 = M0 26 0 l1 ∧ M 73 0 l2 = M0 26 0 l2 ∧ l1 ≠ l2), 5 - l4 < N66 + 1 → 5 - l5 < (n : Int) → wp (fX12_settle_80 fu k66 n M l1 l2 l3 l4 l5) (fun r M1 => bI bx2 M1 ∧ Kp (TS2 l1 l2) M0 M1 ∧ ((-2) ≤ r ∧ r ≤ 35 ∧ (M1 26 0 l1 = M0 26 0 l1 ∧ M1 26 0 l2 = M0 26 0 l2))) := by
  intro n
  induction n with
  | zero => intro l1 l2 l3 l4 l5 M iM kM hl1 hl2 hl3 hl4 hl5 z0 m66 hm; exfalso; omega
  | succ n ih =>
    intro l1 l2 l3 l4 l5 M iM kM hl1 hl2 hl3 hl4 hl5 z0 m66 hm
    exact s_gX12_settle_80 fu hfu M0 w0 k66 (fX12_settle_80 fu k66 n) N66 (n : Int) hk66 ih l1 l2 l3 l4 l5 M iM kM hl1 hl2 hl3 hl4 hl5 z0 m66 (by omega)
set_option maxHeartbeats 4000000 in
set_option maxRecDepth 100000 in
theorem s_gX12_settle_66 (fu : Nat) (hfu : 4000 ≤ fu) (M0 : jm_M) (w0 : WF M0) (k66 : jm_M → Int → Int → Int → Int → jm_R) (N66 : Int) (hk66 : ∀ (l1 l2 l3 l4 : Int) (M : jm_M) (iM : bI bx2 M) (kM : Kp (TS2 l1 l2) M0 M) (hl1 : 0 ≤ l1 ∧ l1 ≤ 5) (hl2 : 0 ≤ l2 ∧ l2 ≤ 5) (hl3 : 0 ≤ l3 ∧ l3 ≤ 99) (hl4 : 0 ≤ l4 ∧ l4 ≤ 4) (z0 : M 73 0 l1 = M0 26 0 l1 ∧ M 73 0 l2 = M0 26 0 l2 ∧ l1 ≠ l2), 5 - l4 < N66 → wp (k66 M l1 l2 l3 l4) (fun r M1 => bI bx2 M1 ∧ Kp (TS2 l1 l2) M0 M1 ∧ ((-2) ≤ r ∧ r ≤ 35 ∧ (M1 26 0 l1 = M0 26 0 l1 ∧ M1 26 0 l2 = M0 26 0 l2)))) : ∀ (l1 l2 l3 l4 : Int) (M : jm_M) (iM : bI bx2 M) (kM : Kp (TS2 l1 l2) M0 M) (hl1 : 0 ≤ l1 ∧ l1 ≤ 5) (hl2 : 0 ≤ l2 ∧ l2 ≤ 5) (hl3 : 0 ≤ l3 ∧ l3 ≤ 99) (hl4 : 0 ≤ l4 ∧ l4 ≤ 4) (z0 : M 73 0 l1 = M0 26 0 l1 ∧ M 73 0 l2 = M0 26 0 l2 ∧ l1 ≠ l2), 5 - l4 < N66 + 1 → wp (gX12_settle_66 fu k66 M l1 l2 l3 l4) (fun r M1 => bI bx2 M1 ∧ Kp (TS2 l1 l2) M0 M1 ∧ ((-2) ≤ r ∧ r ≤ 35 ∧ (M1 26 0 l1 = M0 26 0 l1 ∧ M1 26 0 l2 = M0 26 0 l2))) := by
  intro l1 l2 l3 l4 M iM kM hl1 hl2 hl3 hl4 z0 m66
  unfold gX12_settle_66
  refine wp_T ⟨by omega, by omega⟩ ?_
  have b_2 : 0 ≤ (M 31 0 l1) ∧ (M 31 0 l1) ≤ 4 := iM 31 0 l1
  refine wp_ite (fun c_1 => ?_) (fun c_1 => ?_)
  · skip
    have b_3 : 0 ≤ (M 26 0 l1) ∧ (M 26 0 l1) ≤ 5 := iM 26 0 l1
    have b_4 : 0 ≤ (M 73 0 l1) ∧ (M 73 0 l1) ≤ 5 := iM 73 0 l1
    refine wp_bk (s_fX12_putsBack fu hfu M iM l1 ⟨by omega, by omega⟩ ) (fun v4 M5 iM5 jM5 hv4 => ?_)
    have kM5 := kM.tr jM5 (tt_TS2_TK2 (by omega))
    have b_5 : 0 ≤ (M5 26 0 l1) ∧ (M5 26 0 l1) ≤ 5 := iM5 26 0 l1
    have b_6 : 0 ≤ (M5 73 0 l1) ∧ (M5 73 0 l1) ≤ 5 := iM5 73 0 l1
    have q_7 : (M5 73 0 l2) = (M 73 0 l2) := jM5 73 0 l2 (by unfold TK2; omega)
    have b_8 : 0 ≤ (M 73 0 l2) ∧ (M 73 0 l2) ≤ 5 := iM 73 0 l2
    refine wp_bk (s_fX12_putsBack fu hfu M5 iM5 l2 ⟨by omega, by omega⟩ ) (fun v6 M7 iM7 jM7 hv6 => ?_)
    have kM7 := kM5.tr jM7 (tt_TS2_TK2 (by omega))
    have q_9 : (M7 26 0 l1) = (M5 26 0 l1) := jM7 26 0 l1 (by unfold TK2; omega)
    have q_10 : (M7 73 0 l1) = (M5 73 0 l1) := jM7 73 0 l1 (by unfold TK2; omega)
    have b_11 : 0 ≤ (M7 26 0 l2) ∧ (M7 26 0 l2) ≤ 5 := iM7 26 0 l2
    have b_12 : 0 ≤ (M7 73 0 l2) ∧ (M7 73 0 l2) ≤ 5 := iM7 73 0 l2
    exact s_fX12_settle_207 fu hfu M0 w0    fu l1 l2 0 M7 iM7 kM7 ⟨by omega, by omega⟩ ⟨by omega, by omega⟩ ⟨by omega, by omega⟩ (by omega)  (by omega)
  · skip
    have b_13 : 0 ≤ (M 26 0 l1) ∧ (M 26 0 l1) ≤ 5 := iM 26 0 l1
    have b_14 : 0 ≤ (M 73 0 l1) ∧ (M 73 0 l1) ≤ 5 := iM 73 0 l1
    have b_15 : 0 ≤ (M 26 0 l2) ∧ (M 26 0 l2) ≤ 5 := iM 26 0 l2
    have b_16 : 0 ≤ (M 73 0 l2) ∧ (M 73 0 l2) ≤ 5 := iM 73 0 l2
    exact s_fX12_settle_80 fu hfu M0 w0 k66 N66 hk66 fu l1 l2 l3 l4 0 M iM kM ⟨by omega, by omega⟩ ⟨by omega, by omega⟩ ⟨by omega, by omega⟩ ⟨by omega, by omega⟩ ⟨by omega, by omega⟩ (by omega) (by omega) (by omega)
set_option maxHeartbeats 4000000 in
set_option maxRecDepth 100000 in
theorem s_fX12_settle_66 (fu : Nat) (hfu : 4000 ≤ fu) (M0 : jm_M) (w0 : WF M0) : ∀ (n : Nat) (l1 l2 l3 l4 : Int) (M : jm_M) (iM : bI bx2 M) (kM : Kp (TS2 l1 l2) M0 M) (hl1 : 0 ≤ l1 ∧ l1 ≤ 5) (hl2 : 0 ≤ l2 ∧ l2 ≤ 5) (hl3 : 0 ≤ l3 ∧ l3 ≤ 99) (hl4 : 0 ≤ l4 ∧ l4 ≤ 4) (z0 : M 73 0 l1 = M0 26 0 l1 ∧ M 73 0 l2 = M0 26 0 l2 ∧ l1 ≠ l2), 5 - l4 < (n : Int) → wp (fX12_settle_66 fu  n M l1 l2 l3 l4) (fun r M1 => bI bx2 M1 ∧ Kp (TS2 l1 l2) M0 M1 ∧ ((-2) ≤ r ∧ r ≤ 35 ∧ (M1 26 0 l1 = M0 26 0 l1 ∧ M1 26 0 l2 = M0 26 0 l2))) := by
  intro n
  induction n with
  | zero => intro l1 l2 l3 l4 M iM kM hl1 hl2 hl3 hl4 z0 hm; exfalso; omega
  | succ n ih =>
    intro l1 l2 l3 l4 M iM kM hl1 hl2 hl3 hl4 z0 hm
    exact s_gX12_settle_66 fu hfu M0 w0 (fX12_settle_66 fu  n) (n : Int) ih l1 l2 l3 l4 M iM kM hl1 hl2 hl3 hl4 z0 (by omega)
set_option maxHeartbeats 4000000 in
set_option maxRecDepth 100000 in
theorem s0_fX12_settle (fu : Nat) (hfu : 4000 ≤ fu) (M : jm_M) (iM : bI bx2 M) (l1 l2 l3 : Int) (hl1 : jm_in l1) (hl2 : jm_in l2) (hl3 : jm_in l3) (wM : WF M) : wp (fX12_settle fu M l1 l2 l3) (fun r M1 => bI bx2 M1 ∧ Kp (TS2 l1 l2) M M1 ∧ ((-2) ≤ r ∧ r ≤ 35 ∧ (M1 26 0 l1 = M 26 0 l1 ∧ M1 26 0 l2 = M 26 0 l2))) := by
  have kM : Kp (TS2 l1 l2) M M := Kp.rf
  unfold fX12_settle
  refine wp_sk iM (jm_inL (by decide) (by decide)) kM (by unfold TS2 RC2; omega) (fun M1 u_1 iM1 kM1 => ?_)
  refine wp_bp (s_fX12_isCar M1 iM1 l1 hl1 ) (fun v2 hv2 => ?_)
  have b_2 : -2147483648 ≤ l1 ∧ l1 ≤ 2147483647 := hl1
  have q_3 : (M1 0 0 17) = (M 0 0 17) := by rw [u_1]; exact jm_une_k (by decide)
  have b_4 : 0 ≤ (M 0 0 17) ∧ (M 0 0 17) ≤ 6 := iM 0 0 17
  refine wp_ite (fun c_5 => ?_) (fun c_5 => ?_)
  · skip
    have q_6 : (M1 26 0 l1) = (M 26 0 l1) := by rw [u_1]; exact jm_une_f (by decide)
    have b_7 : 0 ≤ (M 26 0 l1) ∧ (M 26 0 l1) ≤ 5 := iM 26 0 l1
    have q_8 : (M1 73 0 l1) = (M 73 0 l1) := by rw [u_1]; exact jm_une_f (by decide)
    have b_9 : 0 ≤ (M 73 0 l1) ∧ (M 73 0 l1) ≤ 5 := iM 73 0 l1
    have q_10 : (M1 26 0 l2) = (M 26 0 l2) := by rw [u_1]; exact jm_une_f (by decide)
    have b_11 : -2147483648 ≤ l2 ∧ l2 ≤ 2147483647 := hl2
    have b_12 : 0 ≤ (M 26 0 l2) ∧ (M 26 0 l2) ≤ 5 := iM 26 0 l2
    have q_13 : (M1 73 0 l2) = (M 73 0 l2) := by rw [u_1]; exact jm_une_f (by decide)
    have b_14 : 0 ≤ (M 73 0 l2) ∧ (M 73 0 l2) ≤ 5 := iM 73 0 l2
    exact wp_ret ⟨iM1, kM1, by omega, by omega, by omega⟩
  · skip
    refine wp_bp (s_fX12_isCar M1 iM1 l2 hl2 ) (fun v6 hv6 => ?_)
    have b_15 : -2147483648 ≤ l2 ∧ l2 ≤ 2147483647 := hl2
    refine wp_ite (fun c_16 => ?_) (fun c_16 => ?_)
    · skip
      have q_17 : (M1 26 0 l1) = (M 26 0 l1) := by rw [u_1]; exact jm_une_f (by decide)
      have b_18 : 0 ≤ (M 26 0 l1) ∧ (M 26 0 l1) ≤ 5 := iM 26 0 l1
      have q_19 : (M1 73 0 l1) = (M 73 0 l1) := by rw [u_1]; exact jm_une_f (by decide)
      have b_20 : 0 ≤ (M 73 0 l1) ∧ (M 73 0 l1) ≤ 5 := iM 73 0 l1
      have q_21 : (M1 26 0 l2) = (M 26 0 l2) := by rw [u_1]; exact jm_une_f (by decide)
      have b_22 : 0 ≤ (M 26 0 l2) ∧ (M 26 0 l2) ≤ 5 := iM 26 0 l2
      have q_23 : (M1 73 0 l2) = (M 73 0 l2) := by rw [u_1]; exact jm_une_f (by decide)
      have b_24 : 0 ≤ (M 73 0 l2) ∧ (M 73 0 l2) ≤ 5 := iM 73 0 l2
      exact wp_ret ⟨iM1, kM1, by omega, by omega, by omega⟩
    · skip
      refine wp_ite (fun c_25 => ?_) (fun c_25 => ?_)
      · skip
        have q_26 : (M1 26 0 l1) = (M 26 0 l1) := by rw [u_1]; exact jm_une_f (by decide)
        have b_27 : 0 ≤ (M 26 0 l1) ∧ (M 26 0 l1) ≤ 5 := iM 26 0 l1
        have q_28 : (M1 73 0 l1) = (M 73 0 l1) := by rw [u_1]; exact jm_une_f (by decide)
        have b_29 : 0 ≤ (M 73 0 l1) ∧ (M 73 0 l1) ≤ 5 := iM 73 0 l1
        have q_30 : (M1 26 0 l2) = (M 26 0 l2) := by rw [u_1]; exact jm_une_f (by decide)
        have b_31 : 0 ≤ (M 26 0 l2) ∧ (M 26 0 l2) ≤ 5 := iM 26 0 l2
        have q_32 : (M1 73 0 l2) = (M 73 0 l2) := by rw [u_1]; exact jm_une_f (by decide)
        have b_33 : 0 ≤ (M 73 0 l2) ∧ (M 73 0 l2) ≤ 5 := iM 73 0 l2
        exact wp_ret ⟨iM1, kM1, by omega, by omega, by omega⟩
      · skip
        refine wp_bp (s_fX12_isDay M1 iM1 l3 hl3 ) (fun v11 hv11 => ?_)
        have b_34 : -2147483648 ≤ l3 ∧ l3 ≤ 2147483647 := hl3
        refine wp_ite (fun c_35 => ?_) (fun c_35 => ?_)
        · skip
          have q_36 : (M1 26 0 l1) = (M 26 0 l1) := by rw [u_1]; exact jm_une_f (by decide)
          have b_37 : 0 ≤ (M 26 0 l1) ∧ (M 26 0 l1) ≤ 5 := iM 26 0 l1
          have q_38 : (M1 73 0 l1) = (M 73 0 l1) := by rw [u_1]; exact jm_une_f (by decide)
          have b_39 : 0 ≤ (M 73 0 l1) ∧ (M 73 0 l1) ≤ 5 := iM 73 0 l1
          have q_40 : (M1 26 0 l2) = (M 26 0 l2) := by rw [u_1]; exact jm_une_f (by decide)
          have b_41 : 0 ≤ (M 26 0 l2) ∧ (M 26 0 l2) ≤ 5 := iM 26 0 l2
          have q_42 : (M1 73 0 l2) = (M 73 0 l2) := by rw [u_1]; exact jm_une_f (by decide)
          have b_43 : 0 ≤ (M 73 0 l2) ∧ (M 73 0 l2) ≤ 5 := iM 73 0 l2
          exact wp_ret ⟨iM1, kM1, by omega, by omega, by omega⟩
        · skip
          refine wp_T ⟨by omega, by omega⟩ ?_
          have q_44 : (M1 31 0 l1) = (M 31 0 l1) := by rw [u_1]; exact jm_une_f (by decide)
          have b_46 : 0 ≤ (M 31 0 l1) ∧ (M 31 0 l1) ≤ 4 := iM 31 0 l1
          refine wp_ite (fun c_45 => ?_) (fun c_45 => ?_)
          · skip
            have q_47 : (M1 26 0 l1) = (M 26 0 l1) := by rw [u_1]; exact jm_une_f (by decide)
            have b_48 : 0 ≤ (M 26 0 l1) ∧ (M 26 0 l1) ≤ 5 := iM 26 0 l1
            have q_49 : (M1 73 0 l1) = (M 73 0 l1) := by rw [u_1]; exact jm_une_f (by decide)
            have b_50 : 0 ≤ (M 73 0 l1) ∧ (M 73 0 l1) ≤ 5 := iM 73 0 l1
            have q_51 : (M1 26 0 l2) = (M 26 0 l2) := by rw [u_1]; exact jm_une_f (by decide)
            have b_52 : 0 ≤ (M 26 0 l2) ∧ (M 26 0 l2) ≤ 5 := iM 26 0 l2
            have q_53 : (M1 73 0 l2) = (M 73 0 l2) := by rw [u_1]; exact jm_une_f (by decide)
            have b_54 : 0 ≤ (M 73 0 l2) ∧ (M 73 0 l2) ≤ 5 := iM 73 0 l2
            exact wp_ret ⟨iM1, kM1, by omega, by omega, by omega⟩
          · skip
            refine wp_T ⟨by omega, by omega⟩ ?_
            have q_55 : (M1 31 0 l2) = (M 31 0 l2) := by rw [u_1]; exact jm_une_f (by decide)
            have b_57 : 0 ≤ (M 31 0 l2) ∧ (M 31 0 l2) ≤ 4 := iM 31 0 l2
            refine wp_ite (fun c_56 => ?_) (fun c_56 => ?_)
            · skip
              have q_58 : (M1 26 0 l1) = (M 26 0 l1) := by rw [u_1]; exact jm_une_f (by decide)
              have b_59 : 0 ≤ (M 26 0 l1) ∧ (M 26 0 l1) ≤ 5 := iM 26 0 l1
              have q_60 : (M1 73 0 l1) = (M 73 0 l1) := by rw [u_1]; exact jm_une_f (by decide)
              have b_61 : 0 ≤ (M 73 0 l1) ∧ (M 73 0 l1) ≤ 5 := iM 73 0 l1
              have q_62 : (M1 26 0 l2) = (M 26 0 l2) := by rw [u_1]; exact jm_une_f (by decide)
              have b_63 : 0 ≤ (M 26 0 l2) ∧ (M 26 0 l2) ≤ 5 := iM 26 0 l2
              have q_64 : (M1 73 0 l2) = (M 73 0 l2) := by rw [u_1]; exact jm_une_f (by decide)
              have b_65 : 0 ≤ (M 73 0 l2) ∧ (M 73 0 l2) ≤ 5 := iM 73 0 l2
              exact wp_ret ⟨iM1, kM1, by omega, by omega, by omega⟩
            · skip
              have q_66 : (M1 73 0 l1) = (M 73 0 l1) := by rw [u_1]; exact jm_une_f (by decide)
              have b_67 : 0 ≤ (M 73 0 l1) ∧ (M 73 0 l1) ≤ 5 := iM 73 0 l1
              have q_68 : (M1 26 0 l1) = (M 26 0 l1) := by rw [u_1]; exact jm_une_f (by decide)
              have b_69 : 0 ≤ (M 26 0 l1) ∧ (M 26 0 l1) ≤ 5 := iM 26 0 l1
              refine wp_bk (s_fX12_clears fu hfu M1 iM1 l1 ⟨by omega, by omega⟩ ) (fun v21 M22 iM22 jM22 hv21 => ?_)
              have kM22 := kM1.tr jM22 (tt_TS2_TK2 (by omega))
              have b_70 : 0 ≤ (M22 73 0 l1) ∧ (M22 73 0 l1) ≤ 5 := iM22 73 0 l1
              have b_71 : 0 ≤ (M22 26 0 l1) ∧ (M22 26 0 l1) ≤ 5 := iM22 26 0 l1
              have q_72 : (M22 26 0 l2) = (M1 26 0 l2) := jM22 26 0 l2 (by unfold TK2; omega)
              have q_73 : (M1 26 0 l2) = (M 26 0 l2) := by rw [u_1]; exact jm_une_f (by decide)
              have b_74 : 0 ≤ (M 26 0 l2) ∧ (M 26 0 l2) ≤ 5 := iM 26 0 l2
              refine wp_bk (s_fX12_clears fu hfu M22 iM22 l2 ⟨by omega, by omega⟩ ) (fun v23 M24 iM24 jM24 hv23 => ?_)
              have kM24 := kM22.tr jM24 (tt_TS2_TK2 (by omega))
              have q_75 : (M24 26 0 l1) = (M22 26 0 l1) := jM24 26 0 l1 (by unfold TK2; omega)
              have q_76 : (M24 73 0 l1) = (M22 73 0 l1) := jM24 73 0 l1 (by unfold TK2; omega)
              have b_77 : 0 ≤ (M24 26 0 l2) ∧ (M24 26 0 l2) ≤ 5 := iM24 26 0 l2
              have b_78 : 0 ≤ (M24 73 0 l2) ∧ (M24 73 0 l2) ≤ 5 := iM24 73 0 l2
              exact s_fX12_settle_66 fu hfu M wM    fu l1 l2 l3 0 M24 iM24 kM24 ⟨by omega, by omega⟩ ⟨by omega, by omega⟩ ⟨by omega, by omega⟩ ⟨by omega, by omega⟩ (by omega)  (by omega)
theorem s_fX12_settle (fu : Nat) (hfu : 4000 ≤ fu) (M : jm_M) (iM : bI bx2 M) (l1 l2 l3 : Int) (hl1 : jm_in l1) (hl2 : jm_in l2) (hl3 : jm_in l3) (wM : WF M) : wp (fX12_settle fu M l1 l2 l3) (fun r M1 => bI bx2 M1 ∧ Kp RC2 M M1 ∧ jm_in r) :=
  wp_mono (s0_fX12_settle fu hfu M iM l1 l2 l3 hl1 hl2 hl3 wM) fun r M1 q => ⟨q.1, fun f i k h => by
    by_cases z : f = 26 ∧ (k = l1 ∨ k = l2)
    · obtain ⟨rfl, z⟩ := z
      have : i = 0 := h.1
      subst this
      rcases z with rfl | rfl
      · exact q.2.2.2.2.1
      · exact q.2.2.2.2.2
    · exact q.2.1 f i k ⟨h, fun e1 => ⟨fun e2 => z ⟨e1, Or.inl e2⟩, fun e2 => z ⟨e1, Or.inr e2⟩⟩⟩, jm_inL (by have := q.2.2.1; omega) (by have := q.2.2.2.1; omega)⟩
set_option maxHeartbeats 4000000 in
set_option maxRecDepth 100000 in
theorem s_gX12_sign_18 (fu : Nat) (hfu : 4000 ≤ fu) (M0 : jm_M) (k18 : jm_M → Int → Int → jm_R) (N18 : Int) (hk18 : ∀ (l1 l2 : Int) (M : jm_M) (iM : bI bx2 M) (kM : Kp TV2 M0 M) (hl1 : jm_in l1) (hl2 : 0 ≤ l2 ∧ l2 ≤ 4) (z0 : M 0 0 40 = M0 0 0 40 ∧ M0 0 0 40 ≤ 96), 5 - l2 < N18 → wp (k18 M l1 l2) (fun r M1 => bI bx2 M1 ∧ Kp TV2 M0 M1 ∧ ((-1) ≤ r ∧ r ≤ 100 ∧ ((M0 0 0 40 ≤ 96 ∧ M1 0 0 40 = M0 0 0 40 + 4 ∧ r = M1 0 0 40) ∨ (96 < M0 0 0 40 ∧ r = -1 ∧ M1 0 0 40 = M0 0 0 40))))) : ∀ (l1 l2 : Int) (M : jm_M) (iM : bI bx2 M) (kM : Kp TV2 M0 M) (hl1 : jm_in l1) (hl2 : 0 ≤ l2 ∧ l2 ≤ 4) (z0 : M 0 0 40 = M0 0 0 40 ∧ M0 0 0 40 ≤ 96), 5 - l2 < N18 + 1 → wp (gX12_sign_18 fu k18 M l1 l2) (fun r M1 => bI bx2 M1 ∧ Kp TV2 M0 M1 ∧ ((-1) ≤ r ∧ r ≤ 100 ∧ ((M0 0 0 40 ≤ 96 ∧ M1 0 0 40 = M0 0 0 40 + 4 ∧ r = M1 0 0 40) ∨ (96 < M0 0 0 40 ∧ r = -1 ∧ M1 0 0 40 = M0 0 0 40)))) := by
  intro l1 l2 M iM kM hl1 hl2 z0 m18
  unfold gX12_sign_18
  refine wp_ite (fun c_1 => ?_) (fun c_1 => ?_)
  · skip
    have b_2 : 0 ≤ (M 0 0 40) ∧ (M 0 0 40) ≤ 100 := iM 0 0 40
    have w_3 : (jm_w ((M 0 0 40) + 4)) = ((M 0 0 40) + 4) := jm_wid (by omega) (by omega)
    refine wp_sk iM (show 0 ≤ (jm_w ((M 0 0 40) + 4)) ∧ (jm_w ((M 0 0 40) + 4)) ≤ 100 by omega) kM (by unfold TV2 RC2; omega) (fun M3 u_4 iM3 kM3 => ?_)
    have q_5 : (M3 0 0 40) = (jm_w ((M 0 0 40) + 4)) := by rw [u_4]; exact jm_ueq
    exact wp_ret ⟨iM3, kM3, by omega, by omega, by omega⟩
  · skip
    have b_6 : 0 ≤ (M 0 0 40) ∧ (M 0 0 40) ≤ 100 := iM 0 0 40
    have w_7 : (jm_w ((M 0 0 40) + l2)) = ((M 0 0 40) + l2) := jm_wid (by omega) (by omega)
    refine wp_T ⟨by omega, by omega⟩ ?_
    refine wp_sk iM (jm_and_in _ _) kM (by unfold TV2 RC2; omega) (fun M7 u_8 iM7 kM7 => ?_)
    have w_9 : (jm_w (l2 + 1)) = (l2 + 1) := jm_wid (by omega) (by omega)
    refine wp_e (by exact (jm_w_in _)) (fun v8 e_10 hv8 => ?_)
    have b_11 : -2147483648 ≤ v8 ∧ v8 ≤ 2147483647 := hv8
    have b_12 : -2147483648 ≤ l1 ∧ l1 ≤ 2147483647 := hl1
    have q_13 : (M7 0 0 40) = (M 0 0 40) := by rw [u_8]; exact jm_une_f (by decide)
    exact hk18 l1 v8 M7 iM7 kM7 hl1 ⟨by omega, by omega⟩ (by omega) (by omega)
set_option maxHeartbeats 4000000 in
set_option maxRecDepth 100000 in
theorem s_fX12_sign_18 (fu : Nat) (hfu : 4000 ≤ fu) (M0 : jm_M) : ∀ (n : Nat) (l1 l2 : Int) (M : jm_M) (iM : bI bx2 M) (kM : Kp TV2 M0 M) (hl1 : jm_in l1) (hl2 : 0 ≤ l2 ∧ l2 ≤ 4) (z0 : M 0 0 40 = M0 0 0 40 ∧ M0 0 0 40 ≤ 96), 5 - l2 < (n : Int) → wp (fX12_sign_18 fu  n M l1 l2) (fun r M1 => bI bx2 M1 ∧ Kp TV2 M0 M1 ∧ ((-1) ≤ r ∧ r ≤ 100 ∧ ((M0 0 0 40 ≤ 96 ∧ M1 0 0 40 = M0 0 0 40 + 4 ∧ r = M1 0 0 40) ∨ (96 < M0 0 0 40 ∧ r = -1 ∧ M1 0 0 40 = M0 0 0 40)))) := by
  intro n
  induction n with
  | zero => intro l1 l2 M iM kM hl1 hl2 z0 hm; exfalso; omega
  | succ n ih =>
    intro l1 l2 M iM kM hl1 hl2 z0 hm
    exact s_gX12_sign_18 fu hfu M0 (fX12_sign_18 fu  n) (n : Int) ih l1 l2 M iM kM hl1 hl2 z0 (by omega)
set_option maxHeartbeats 4000000 in
set_option maxRecDepth 100000 in
theorem s_fX12_sign (fu : Nat) (hfu : 4000 ≤ fu) (M : jm_M) (iM : bI bx2 M) (l1 : Int) (hl1 : jm_in l1) : wp (fX12_sign fu M l1) (fun r M1 => bI bx2 M1 ∧ Kp TV2 M M1 ∧ ((-1) ≤ r ∧ r ≤ 100 ∧ ((M 0 0 40 ≤ 96 ∧ M1 0 0 40 = M 0 0 40 + 4 ∧ r = M1 0 0 40) ∨ (96 < M 0 0 40 ∧ r = -1 ∧ M1 0 0 40 = M 0 0 40)))) := by
  have kM : Kp TV2 M M := Kp.rf
  unfold fX12_sign
  refine wp_sk iM (jm_inL (by decide) (by decide)) kM (by unfold TV2 RC2; omega) (fun M1 u_1 iM1 kM1 => ?_)
  have q_2 : (M1 0 0 40) = (M 0 0 40) := by rw [u_1]; exact jm_une_k (by decide)
  have b_4 : 0 ≤ (M 0 0 40) ∧ (M 0 0 40) ≤ 100 := iM 0 0 40
  refine wp_ite (fun c_3 => ?_) (fun c_3 => ?_)
  · skip
    have b_5 : -2147483648 ≤ l1 ∧ l1 ≤ 2147483647 := hl1
    exact s_fX12_sign_18 fu hfu M    fu l1 0 M1 iM1 kM1 hl1 ⟨by omega, by omega⟩ (by omega)  (by omega)
  · skip
    exact wp_ret ⟨iM1, kM1, by omega, by omega, by omega⟩
set_option maxHeartbeats 4000000 in
set_option maxRecDepth 100000 in
theorem s_fX12_stop (M : jm_M) (iM : bI bx2 M) (l1 l2 l3 l4 : Int) (hl1 : jm_in l1) (hl2 : jm_in l2) (hl3 : jm_in l3) (hl4 : jm_in l4) : wp (fX12_stop M l1 l2 l3 l4) (fun r M1 => bI bx2 M1 ∧ Kp (TM2 26 l1) M M1 ∧ ((-1) ≤ r ∧ r ≤ 5 ∧ ((r = -1 ∧ ¬ (0 ≤ l1 ∧ l1 < M 0 0 17 ∧ 0 ≤ l2 ∧ l2 ≤ M 0 0 2 - 2 ∧ -1 ≤ l3 ∧ l3 ≤ 3 ∧ 0 ≤ l4 ∧ l4 ≤ 200 ∧ M 26 0 l1 < 5) ∧ M1 26 0 l1 = M 26 0 l1) ∨ ((0 ≤ l1 ∧ l1 < M 0 0 17 ∧ 0 ≤ l2 ∧ l2 ≤ M 0 0 2 - 2 ∧ -1 ≤ l3 ∧ l3 ≤ 3 ∧ 0 ≤ l4 ∧ l4 ≤ 200) ∧ M 26 0 l1 < 5 ∧ M1 26 0 l1 = M 26 0 l1 + 1 ∧ r = M1 26 0 l1)))) := by
  have kM : Kp (TM2 26 l1) M M := Kp.rf
  unfold fX12_stop
  refine wp_sk iM (jm_inL (by decide) (by decide)) kM (by unfold TM2 RC2; omega) (fun M1 u_1 iM1 kM1 => ?_)
  refine wp_bp (s_fX12_isCar M1 iM1 l1 hl1 ) (fun v2 hv2 => ?_)
  have b_2 : -2147483648 ≤ l1 ∧ l1 ≤ 2147483647 := hl1
  have q_3 : (M1 0 0 17) = (M 0 0 17) := by rw [u_1]; exact jm_une_k (by decide)
  have b_4 : 0 ≤ (M 0 0 17) ∧ (M 0 0 17) ≤ 6 := iM 0 0 17
  refine wp_ite (fun c_5 => ?_) (fun c_5 => ?_)
  · skip
    have q_6 : (M1 26 0 l1) = (M 26 0 l1) := by rw [u_1]; exact jm_une_f (by decide)
    have b_7 : 0 ≤ (M 26 0 l1) ∧ (M 26 0 l1) ≤ 5 := iM 26 0 l1
    have q_8 : (M1 0 0 1) = (M 0 0 1) := by rw [u_1]; exact jm_une_k (by decide)
    have b_9 : 2 ≤ (M 0 0 1) ∧ (M 0 0 1) ≤ 5 := iM 0 0 1
    have q_10 : (M1 0 0 2) = (M 0 0 2) := by rw [u_1]; exact jm_une_k (by decide)
    have b_11 : 1 ≤ (M 0 0 2) ∧ (M 0 0 2) ≤ 12 := iM 0 0 2
    exact wp_ret ⟨iM1, kM1, by omega, by omega, by omega⟩
  · skip
    refine wp_bp (s_fX12_isStopLap M1 iM1 l2 hl2 ) (fun v6 hv6 => ?_)
    have b_12 : -2147483648 ≤ l2 ∧ l2 ≤ 2147483647 := hl2
    have q_13 : (M1 0 0 2) = (M 0 0 2) := by rw [u_1]; exact jm_une_k (by decide)
    have b_14 : 1 ≤ (M 0 0 2) ∧ (M 0 0 2) ≤ 12 := iM 0 0 2
    refine wp_ite (fun c_15 => ?_) (fun c_15 => ?_)
    · skip
      have q_16 : (M1 26 0 l1) = (M 26 0 l1) := by rw [u_1]; exact jm_une_f (by decide)
      have b_17 : 0 ≤ (M 26 0 l1) ∧ (M 26 0 l1) ≤ 5 := iM 26 0 l1
      have q_18 : (M1 0 0 1) = (M 0 0 1) := by rw [u_1]; exact jm_une_k (by decide)
      have b_19 : 2 ≤ (M 0 0 1) ∧ (M 0 0 1) ≤ 5 := iM 0 0 1
      exact wp_ret ⟨iM1, kM1, by omega, by omega, by omega⟩
    · skip
      refine wp_bp (s_fX12_isSet M1 iM1 l3 hl3 ) (fun v10 hv10 => ?_)
      have b_20 : -2147483648 ≤ l3 ∧ l3 ≤ 2147483647 := hl3
      refine wp_ite (fun c_21 => ?_) (fun c_21 => ?_)
      · skip
        have q_22 : (M1 26 0 l1) = (M 26 0 l1) := by rw [u_1]; exact jm_une_f (by decide)
        have b_23 : 0 ≤ (M 26 0 l1) ∧ (M 26 0 l1) ≤ 5 := iM 26 0 l1
        have q_24 : (M1 0 0 1) = (M 0 0 1) := by rw [u_1]; exact jm_une_k (by decide)
        have b_25 : 2 ≤ (M 0 0 1) ∧ (M 0 0 1) ≤ 5 := iM 0 0 1
        exact wp_ret ⟨iM1, kM1, by omega, by omega, by omega⟩
      · skip
        refine wp_bp (s_fX12_in M1 iM1 l4 0 200 hl4 ⟨by omega, by omega⟩ ⟨by omega, by omega⟩ ) (fun v14 hv14 => ?_)
        have b_26 : -2147483648 ≤ l4 ∧ l4 ≤ 2147483647 := hl4
        refine wp_ite (fun c_27 => ?_) (fun c_27 => ?_)
        · skip
          have q_28 : (M1 26 0 l1) = (M 26 0 l1) := by rw [u_1]; exact jm_une_f (by decide)
          have b_29 : 0 ≤ (M 26 0 l1) ∧ (M 26 0 l1) ≤ 5 := iM 26 0 l1
          have q_30 : (M1 0 0 1) = (M 0 0 1) := by rw [u_1]; exact jm_une_k (by decide)
          have b_31 : 2 ≤ (M 0 0 1) ∧ (M 0 0 1) ≤ 5 := iM 0 0 1
          exact wp_ret ⟨iM1, kM1, by omega, by omega, by omega⟩
        · skip
          refine wp_T ⟨by omega, by omega⟩ ?_
          have q_32 : (M1 26 0 l1) = (M 26 0 l1) := by rw [u_1]; exact jm_une_f (by decide)
          have b_34 : 0 ≤ (M 26 0 l1) ∧ (M 26 0 l1) ≤ 5 := iM 26 0 l1
          refine wp_ite (fun c_33 => ?_) (fun c_33 => ?_)
          · skip
            have q_35 : (M1 0 0 1) = (M 0 0 1) := by rw [u_1]; exact jm_une_k (by decide)
            have b_36 : 2 ≤ (M 0 0 1) ∧ (M 0 0 1) ≤ 5 := iM 0 0 1
            exact wp_ret ⟨iM1, kM1, by omega, by omega, by omega⟩
          · skip
            refine wp_bk (s_fX12_puts M1 iM1 l1 l2 l3 l4 ⟨by omega, by omega⟩ hl2 hl3 hl4 (by omega)) (fun v21 M22 iM22 jM22 hv21 => ?_)
            have kM22 := kM1.tr jM22 tt_TM2_TU2
            refine wp_T ⟨by omega, by omega⟩ ?_
            have b_37 : 0 ≤ (M22 26 0 l1) ∧ (M22 26 0 l1) ≤ 5 := iM22 26 0 l1
            have q_38 : (M22 0 0 1) = (M1 0 0 1) := jM22 0 0 1 (by unfold TU2; omega)
            have q_39 : (M1 0 0 1) = (M 0 0 1) := by rw [u_1]; exact jm_une_k (by decide)
            have b_40 : 2 ≤ (M 0 0 1) ∧ (M 0 0 1) ≤ 5 := iM 0 0 1
            have q_41 : (M22 0 0 2) = (M1 0 0 2) := jM22 0 0 2 (by unfold TU2; omega)
            have q_42 : (M22 0 0 17) = (M1 0 0 17) := jM22 0 0 17 (by unfold TU2; omega)
            exact wp_ret ⟨iM22, kM22, by omega, by omega, by omega⟩
set_option maxHeartbeats 4000000 in
set_option maxRecDepth 100000 in
theorem s_fX12_sum (fu : Nat) (hfu : 4000 ≤ fu) (M : jm_M) (iM : bI bx2 M) (l1 l2 : Int) (hl1 : jm_in l1) (hl2 : jm_in l2) (wM : WF M) : wp (fX12_sum fu M l1 l2) (fun r M1 => bI bx2 M1 ∧ Kp TA2 M M1 ∧ (jm_in r)) := by
  have kM : Kp TA2 M M := Kp.rf
  unfold fX12_sum
  refine wp_sk iM (jm_inL (by decide) (by decide)) kM (by unfold TA2; omega) (fun M1 u_1 iM1 kM1 => ?_)
  refine wp_bp (s_fX12_isCar M1 iM1 l1 hl1 ) (fun v2 hv2 => ?_)
  have b_2 : -2147483648 ≤ l1 ∧ l1 ≤ 2147483647 := hl1
  have q_3 : (M1 0 0 17) = (M 0 0 17) := by rw [u_1]; exact jm_une_k (by decide)
  have b_4 : 0 ≤ (M 0 0 17) ∧ (M 0 0 17) ≤ 6 := iM 0 0 17
  refine wp_ite (fun c_5 => ?_) (fun c_5 => ?_)
  · skip
    refine wp_bk (s_fX12_refuse M1 iM1   ) (fun v6 M7 iM7 jM7 hv6 => ?_)
    have kM7 := kM1.tr jM7 (fun _ _ _ h => h)
    exact wp_ret ⟨iM7, kM7, (jm_inL (by omega) (by omega))⟩
  · skip
    refine wp_bp (s_fX12_isDay M1 iM1 l2 hl2 ) (fun v9 hv9 => ?_)
    have b_6 : -2147483648 ≤ l2 ∧ l2 ≤ 2147483647 := hl2
    refine wp_ite (fun c_7 => ?_) (fun c_7 => ?_)
    · skip
      refine wp_bk (s_fX12_refuse M1 iM1   ) (fun v13 M14 iM14 jM14 hv13 => ?_)
      have kM14 := kM1.tr jM14 (fun _ _ _ h => h)
      exact wp_ret ⟨iM14, kM14, (jm_inL (by omega) (by omega))⟩
    · skip
      refine wp_bk (s_fX12_judges fu hfu M1 iM1 l2 ⟨by omega, by omega⟩ (WF.kp kM1 wM wf_TA2) ) (fun v16 M17 iM17 jM17 hv16 => ?_)
      have kM17 := kM1.tr jM17 (fun _ _ _ h => h)
      refine wp_T ⟨by omega, by omega⟩ ?_
      have b_9 : 0 ≤ (M17 67 0 l1) ∧ (M17 67 0 l1) ≤ 1 := iM17 67 0 l1
      refine wp_ite (fun c_8 => ?_) (fun c_8 => ?_)
      · skip
        refine wp_bk (s_fX12_refuse M17 iM17   ) (fun v21 M22 iM22 jM22 hv21 => ?_)
        have kM22 := kM17.tr jM22 (fun _ _ _ h => h)
        exact wp_ret ⟨iM22, kM22, (jm_inL (by omega) (by omega))⟩
      · skip
        refine wp_T ⟨by omega, by omega⟩ ?_
        have b_10 : (-2147483648) ≤ (M17 68 0 l1) ∧ (M17 68 0 l1) ≤ 2147483647 := iM17 68 0 l1
        exact wp_ret ⟨iM17, kM17, (iM17 68 0 l1)⟩
set_option maxHeartbeats 4000000 in
set_option maxRecDepth 100000 in
theorem s_gX12_toldLine_5 (fu : Nat) (hfu : 4000 ≤ fu) (M : jm_M) (iM : bI bx2 M) (k5 : jm_M → Int → Int → Int → Int → jm_R) (N5 : Int) (hk5 : ∀ (l1 l2 l3 l4 : Int) (hl1 : 0 ≤ l1 ∧ l1 ≤ 5) (hl2 : 0 ≤ l2 ∧ l2 ≤ 2147483647) (hl3 : (-1) ≤ l3 ∧ l3 ≤ 59) (hl4 : 0 ≤ l4 ∧ l4 ≤ 60), 61 - l4 < N5 → wp (k5 M l1 l2 l3 l4) (fun r M1 => M1 = M ∧ ((-1) ≤ r ∧ r ≤ 59))) : ∀ (l1 l2 l3 l4 : Int) (hl1 : 0 ≤ l1 ∧ l1 ≤ 5) (hl2 : 0 ≤ l2 ∧ l2 ≤ 2147483647) (hl3 : (-1) ≤ l3 ∧ l3 ≤ 59) (hl4 : 0 ≤ l4 ∧ l4 ≤ 60), 61 - l4 < N5 + 1 → wp (gX12_toldLine_5 fu k5 M l1 l2 l3 l4) (fun r M1 => M1 = M ∧ ((-1) ≤ r ∧ r ≤ 59)) := by
  intro l1 l2 l3 l4 hl1 hl2 hl3 hl4 m5
  unfold gX12_toldLine_5
  have b_2 : 2 ≤ (M 0 0 1) ∧ (M 0 0 1) ≤ 5 := iM 0 0 1
  have b_3 : 1 ≤ (M 0 0 2) ∧ (M 0 0 2) ≤ 12 := iM 0 0 2
  have p_4 : 0 ≤ ((M 0 0 1) * (M 0 0 2)) ∧ ((M 0 0 1) * (M 0 0 2)) ≤ 60 := jm_mulb (A := 5) (B := 12) (by omega) (by omega) (by omega) (by omega) (by decide)
  have p_5 : 2 ≤ ((M 0 0 1) * (M 0 0 2)) := jm_mull (A := 2) (B := 1) (by omega) (by omega) (by omega) (by omega) (by decide)
  have w_6 : (jm_w ((M 0 0 1) * (M 0 0 2))) = ((M 0 0 1) * (M 0 0 2)) := jm_wid (by omega) (by omega)
  refine wp_ite (fun c_1 => ?_) (fun c_1 => ?_)
  · skip
    exact wp_ret ⟨rfl, by omega⟩
  · skip
    have w_7 : (jm_w (60 * l1)) = (60 * l1) := jm_wid (by omega) (by omega)
    have w_8 : (jm_w ((jm_w (60 * l1)) + l4)) = ((jm_w (60 * l1)) + l4) := jm_wid (by omega) (by omega)
    refine wp_T ⟨by omega, by omega⟩ ?_
    have b_9 : (-2147483648) ≤ (M 55 0 (jm_w ((jm_w (60 * l1)) + l4))) ∧ (M 55 0 (jm_w ((jm_w (60 * l1)) + l4))) ≤ 2147483647 := iM 55 0 (jm_w ((jm_w (60 * l1)) + l4))
    refine wp_e (by exact (iM 55 0 (jm_w ((jm_w (60 * l1)) + l4)))) (fun v6 e_10 hv6 => ?_)
    have b_12 : -2147483648 ≤ v6 ∧ v6 ≤ 2147483647 := hv6
    refine wp_ite (fun c_11 => ?_) (fun c_11 => ?_)
    · skip
      have w_13 : (jm_w (l4 + 1)) = (l4 + 1) := jm_wid (by omega) (by omega)
      refine wp_e (by exact (jm_w_in _)) (fun v9 e_14 hv9 => ?_)
      have b_15 : -2147483648 ≤ v9 ∧ v9 ≤ 2147483647 := hv9
      exact hk5 l1 l2 l3 v9  ⟨by omega, by omega⟩ ⟨by omega, by omega⟩ ⟨by omega, by omega⟩ ⟨by omega, by omega⟩  (by omega)
    · skip
      refine wp_ite (fun c_16 => ?_) (fun c_16 => ?_)
      · skip
        have w_17 : (jm_w (l4 + 1)) = (l4 + 1) := jm_wid (by omega) (by omega)
        refine wp_e (by exact (jm_w_in _)) (fun v12 e_18 hv12 => ?_)
        have b_19 : -2147483648 ≤ v12 ∧ v12 ≤ 2147483647 := hv12
        exact hk5 l1 l2 l3 v12  ⟨by omega, by omega⟩ ⟨by omega, by omega⟩ ⟨by omega, by omega⟩ ⟨by omega, by omega⟩  (by omega)
      · skip
        refine wp_T (by omega) ?_
        have f_20 : 0 ≤ (jm_mod l4 (M 0 0 1)) ∧ (jm_mod l4 (M 0 0 1)) < (M 0 0 1) := jm_mod_f (by omega) (by omega)
        refine wp_T ⟨by omega, by omega⟩ ?_
        have b_22 : 0 ≤ (M 3 0 (jm_mod l4 (M 0 0 1))) ∧ (M 3 0 (jm_mod l4 (M 0 0 1))) ≤ 1 := iM 3 0 (jm_mod l4 (M 0 0 1))
        refine wp_ite (fun c_21 => ?_) (fun c_21 => ?_)
        · skip
          have w_23 : (jm_w (l4 + 1)) = (l4 + 1) := jm_wid (by omega) (by omega)
          refine wp_e (by exact (jm_w_in _)) (fun v19 e_24 hv19 => ?_)
          have b_25 : -2147483648 ≤ v19 ∧ v19 ≤ 2147483647 := hv19
          exact hk5 l1 l2 l4 v19  ⟨by omega, by omega⟩ ⟨by omega, by omega⟩ ⟨by omega, by omega⟩ ⟨by omega, by omega⟩  (by omega)
        · skip
          have w_26 : (jm_w (l4 + 1)) = (l4 + 1) := jm_wid (by omega) (by omega)
          refine wp_e (by exact (jm_w_in _)) (fun v21 e_27 hv21 => ?_)
          have b_28 : -2147483648 ≤ v21 ∧ v21 ≤ 2147483647 := hv21
          exact hk5 l1 l2 l3 v21  ⟨by omega, by omega⟩ ⟨by omega, by omega⟩ ⟨by omega, by omega⟩ ⟨by omega, by omega⟩  (by omega)
set_option maxHeartbeats 4000000 in
set_option maxRecDepth 100000 in
theorem s_fX12_toldLine_5 (fu : Nat) (hfu : 4000 ≤ fu) (M : jm_M) (iM : bI bx2 M) : ∀ (n : Nat) (l1 l2 l3 l4 : Int) (hl1 : 0 ≤ l1 ∧ l1 ≤ 5) (hl2 : 0 ≤ l2 ∧ l2 ≤ 2147483647) (hl3 : (-1) ≤ l3 ∧ l3 ≤ 59) (hl4 : 0 ≤ l4 ∧ l4 ≤ 60), 61 - l4 < (n : Int) → wp (fX12_toldLine_5 fu  n M l1 l2 l3 l4) (fun r M1 => M1 = M ∧ ((-1) ≤ r ∧ r ≤ 59)) := by
  intro n
  induction n with
  | zero => intro l1 l2 l3 l4 hl1 hl2 hl3 hl4 hm; exfalso; omega
  | succ n ih =>
    intro l1 l2 l3 l4 hl1 hl2 hl3 hl4 hm
    exact s_gX12_toldLine_5 fu hfu M iM (fX12_toldLine_5 fu  n) (n : Int) ih l1 l2 l3 l4 hl1 hl2 hl3 hl4 (by omega)
set_option maxHeartbeats 4000000 in
set_option maxRecDepth 100000 in
theorem s_fX12_toldLine (fu : Nat) (hfu : 4000 ≤ fu) (M : jm_M) (iM : bI bx2 M) (l1 l2 : Int) (hl1 : 0 ≤ l1 ∧ l1 ≤ 5) (hl2 : 0 ≤ l2 ∧ l2 ≤ 2147483647) : wp (fX12_toldLine fu M l1 l2) (fun r M1 => M1 = M ∧ ((-1) ≤ r ∧ r ≤ 59)) := by
  unfold fX12_toldLine
  exact s_fX12_toldLine_5 fu hfu M iM    fu l1 l2 (-1) 0  ⟨by omega, by omega⟩ ⟨by omega, by omega⟩ ⟨by omega, by omega⟩ ⟨by omega, by omega⟩   (by omega)
set_option maxHeartbeats 4000000 in
set_option maxRecDepth 100000 in
theorem s_fX12_tyre (M : jm_M) (iM : bI bx2 M) (l1 l2 l3 : Int) (hl1 : jm_in l1) (hl2 : jm_in l2) (hl3 : jm_in l3) : wp (fX12_tyre M l1 l2 l3) (fun r M1 => bI bx2 M1 ∧ Kp (TM2 19 l1) M M1 ∧ ((-1) ≤ r ∧ r ≤ 3 ∧ ((r = -1 ∧ ¬ (0 ≤ l1 ∧ l1 < M 0 0 17 ∧ 0 ≤ l2 ∧ l2 < 4 ∧ 0 ≤ l3 ∧ l3 ≤ 100 ∧ M 19 0 l1 < 4) ∧ M1 19 0 l1 = M 19 0 l1) ∨ ((0 ≤ l1 ∧ l1 < M 0 0 17 ∧ 0 ≤ l2 ∧ l2 < 4 ∧ 0 ≤ l3 ∧ l3 ≤ 100) ∧ M 19 0 l1 < 4 ∧ M1 19 0 l1 = M 19 0 l1 + 1 ∧ r = M1 19 0 l1 - 1)))) := by
  have kM : Kp (TM2 19 l1) M M := Kp.rf
  unfold fX12_tyre
  refine wp_sk iM (jm_inL (by decide) (by decide)) kM (by unfold TM2 RC2; omega) (fun M1 u_1 iM1 kM1 => ?_)
  refine wp_bp (s_fX12_isCar M1 iM1 l1 hl1 ) (fun v2 hv2 => ?_)
  have b_2 : -2147483648 ≤ l1 ∧ l1 ≤ 2147483647 := hl1
  have q_3 : (M1 0 0 17) = (M 0 0 17) := by rw [u_1]; exact jm_une_k (by decide)
  have b_4 : 0 ≤ (M 0 0 17) ∧ (M 0 0 17) ≤ 6 := iM 0 0 17
  refine wp_ite (fun c_5 => ?_) (fun c_5 => ?_)
  · skip
    have q_6 : (M1 19 0 l1) = (M 19 0 l1) := by rw [u_1]; exact jm_une_f (by decide)
    have b_7 : 0 ≤ (M 19 0 l1) ∧ (M 19 0 l1) ≤ 4 := iM 19 0 l1
    have q_8 : (M1 0 0 1) = (M 0 0 1) := by rw [u_1]; exact jm_une_k (by decide)
    have b_9 : 2 ≤ (M 0 0 1) ∧ (M 0 0 1) ≤ 5 := iM 0 0 1
    have q_10 : (M1 0 0 2) = (M 0 0 2) := by rw [u_1]; exact jm_une_k (by decide)
    have b_11 : 1 ≤ (M 0 0 2) ∧ (M 0 0 2) ≤ 12 := iM 0 0 2
    exact wp_ret ⟨iM1, kM1, by omega, by omega, by omega⟩
  · skip
    refine wp_bp (s_fX12_in M1 iM1 l2 0 3 hl2 ⟨by omega, by omega⟩ ⟨by omega, by omega⟩ ) (fun v6 hv6 => ?_)
    have b_12 : -2147483648 ≤ l2 ∧ l2 ≤ 2147483647 := hl2
    refine wp_ite (fun c_13 => ?_) (fun c_13 => ?_)
    · skip
      have q_14 : (M1 19 0 l1) = (M 19 0 l1) := by rw [u_1]; exact jm_une_f (by decide)
      have b_15 : 0 ≤ (M 19 0 l1) ∧ (M 19 0 l1) ≤ 4 := iM 19 0 l1
      have q_16 : (M1 0 0 1) = (M 0 0 1) := by rw [u_1]; exact jm_une_k (by decide)
      have b_17 : 2 ≤ (M 0 0 1) ∧ (M 0 0 1) ≤ 5 := iM 0 0 1
      have q_18 : (M1 0 0 2) = (M 0 0 2) := by rw [u_1]; exact jm_une_k (by decide)
      have b_19 : 1 ≤ (M 0 0 2) ∧ (M 0 0 2) ≤ 12 := iM 0 0 2
      exact wp_ret ⟨iM1, kM1, by omega, by omega, by omega⟩
    · skip
      refine wp_bp (s_fX12_in M1 iM1 l3 0 100 hl3 ⟨by omega, by omega⟩ ⟨by omega, by omega⟩ ) (fun v10 hv10 => ?_)
      have b_20 : -2147483648 ≤ l3 ∧ l3 ≤ 2147483647 := hl3
      refine wp_ite (fun c_21 => ?_) (fun c_21 => ?_)
      · skip
        have q_22 : (M1 19 0 l1) = (M 19 0 l1) := by rw [u_1]; exact jm_une_f (by decide)
        have b_23 : 0 ≤ (M 19 0 l1) ∧ (M 19 0 l1) ≤ 4 := iM 19 0 l1
        have q_24 : (M1 0 0 1) = (M 0 0 1) := by rw [u_1]; exact jm_une_k (by decide)
        have b_25 : 2 ≤ (M 0 0 1) ∧ (M 0 0 1) ≤ 5 := iM 0 0 1
        have q_26 : (M1 0 0 2) = (M 0 0 2) := by rw [u_1]; exact jm_une_k (by decide)
        have b_27 : 1 ≤ (M 0 0 2) ∧ (M 0 0 2) ≤ 12 := iM 0 0 2
        exact wp_ret ⟨iM1, kM1, by omega, by omega, by omega⟩
      · skip
        refine wp_T ⟨by omega, by omega⟩ ?_
        have q_28 : (M1 19 0 l1) = (M 19 0 l1) := by rw [u_1]; exact jm_une_f (by decide)
        have b_30 : 0 ≤ (M 19 0 l1) ∧ (M 19 0 l1) ≤ 4 := iM 19 0 l1
        refine wp_ite (fun c_29 => ?_) (fun c_29 => ?_)
        · skip
          have q_31 : (M1 0 0 1) = (M 0 0 1) := by rw [u_1]; exact jm_une_k (by decide)
          have b_32 : 2 ≤ (M 0 0 1) ∧ (M 0 0 1) ≤ 5 := iM 0 0 1
          have q_33 : (M1 0 0 2) = (M 0 0 2) := by rw [u_1]; exact jm_une_k (by decide)
          have b_34 : 1 ≤ (M 0 0 2) ∧ (M 0 0 2) ≤ 12 := iM 0 0 2
          exact wp_ret ⟨iM1, kM1, by omega, by omega, by omega⟩
        · skip
          refine wp_T ⟨by omega, by omega⟩ ?_
          have r_35 : (jm_w ((jm_w (4 * l1)) + (M1 19 0 l1))) = (jm_w ((jm_w (4 * l1)) + (M 19 0 l1))) := congrArg jm_w (by omega)
          have w_36 : (jm_w (4 * l1)) = (4 * l1) := jm_wid (by omega) (by omega)
          have w_37 : (jm_w ((jm_w (4 * l1)) + (M 19 0 l1))) = ((jm_w (4 * l1)) + (M 19 0 l1)) := jm_wid (by omega) (by omega)
          refine wp_T ⟨by omega, by omega⟩ ?_
          refine wp_sk iM1 (show 0 ≤ l2 ∧ l2 ≤ 3 by omega) kM1 (by unfold TM2 RC2; omega) (fun M20 u_38 iM20 kM20 => ?_)
          refine wp_T ⟨by omega, by omega⟩ ?_
          have q_39 : (M20 19 0 l1) = (M1 19 0 l1) := by rw [u_38]; exact jm_une_f (by decide)
          have r_40 : (jm_w ((jm_w (4 * l1)) + (M20 19 0 l1))) = (jm_w ((jm_w (4 * l1)) + (M 19 0 l1))) := congrArg jm_w (by omega)
          refine wp_T ⟨by omega, by omega⟩ ?_
          refine wp_sk iM20 hl3 kM20 (by unfold TM2 RC2; omega) (fun M24 u_41 iM24 kM24 => ?_)
          refine wp_T ⟨by omega, by omega⟩ ?_
          refine wp_T ⟨by omega, by omega⟩ ?_
          have q_42 : (M24 19 0 l1) = (M20 19 0 l1) := by rw [u_41]; exact jm_une_f (by decide)
          have r_43 : (jm_w ((M24 19 0 l1) + 1)) = (jm_w ((M 19 0 l1) + 1)) := congrArg jm_w (by omega)
          have w_44 : (jm_w ((M 19 0 l1) + 1)) = ((M 19 0 l1) + 1) := jm_wid (by omega) (by omega)
          refine wp_sk iM24 (show 0 ≤ (jm_w ((M24 19 0 l1) + 1)) ∧ (jm_w ((M24 19 0 l1) + 1)) ≤ 4 by omega) kM24 (by unfold TM2 RC2; omega) (fun M28 u_45 iM28 kM28 => ?_)
          refine wp_T ⟨by omega, by omega⟩ ?_
          have q_46 : (M28 19 0 l1) = (jm_w ((M24 19 0 l1) + 1)) := by rw [u_45]; exact jm_ueq
          have r_47 : (jm_w ((M28 19 0 l1) - 1)) = (jm_w ((jm_w ((M 19 0 l1) + 1)) - 1)) := congrArg jm_w (by omega)
          have w_48 : (jm_w ((jm_w ((M 19 0 l1) + 1)) - 1)) = ((jm_w ((M 19 0 l1) + 1)) - 1) := jm_wid (by omega) (by omega)
          have q_49 : (M28 0 0 1) = (M24 0 0 1) := by rw [u_45]; exact jm_une_f (by decide)
          have q_50 : (M24 0 0 1) = (M20 0 0 1) := by rw [u_41]; exact jm_une_f (by decide)
          have q_51 : (M20 0 0 1) = (M1 0 0 1) := by rw [u_38]; exact jm_une_f (by decide)
          have q_52 : (M1 0 0 1) = (M 0 0 1) := by rw [u_1]; exact jm_une_k (by decide)
          have b_53 : 2 ≤ (M 0 0 1) ∧ (M 0 0 1) ≤ 5 := iM 0 0 1
          have q_54 : (M28 0 0 2) = (M24 0 0 2) := by rw [u_45]; exact jm_une_f (by decide)
          have q_55 : (M24 0 0 2) = (M20 0 0 2) := by rw [u_41]; exact jm_une_f (by decide)
          have q_56 : (M20 0 0 2) = (M1 0 0 2) := by rw [u_38]; exact jm_une_f (by decide)
          have q_57 : (M1 0 0 2) = (M 0 0 2) := by rw [u_1]; exact jm_une_k (by decide)
          have b_58 : 1 ≤ (M 0 0 2) ∧ (M 0 0 2) ≤ 12 := iM 0 0 2
          have q_59 : (M28 0 0 17) = (M24 0 0 17) := by rw [u_45]; exact jm_une_f (by decide)
          have q_60 : (M24 0 0 17) = (M20 0 0 17) := by rw [u_41]; exact jm_une_f (by decide)
          have q_61 : (M20 0 0 17) = (M1 0 0 17) := by rw [u_38]; exact jm_une_f (by decide)
          exact wp_ret ⟨iM28, kM28, by omega, by omega, by omega⟩
set_option maxHeartbeats 4000000 in
set_option maxRecDepth 100000 in
theorem s_fX12_tyres (M : jm_M) (iM : bI bx2 M) (l1 l2 l3 : Int) (hl1 : jm_in l1) (hl2 : jm_in l2) (hl3 : jm_in l3) : wp (fX12_tyres M l1 l2 l3) (fun r M1 => bI bx2 M1 ∧ Kp (TM2 4 (jm_w ((jm_w (6 * l1)) + l2))) M M1 ∧ (jm_in r ∧ (((0 ≤ l1 ∧ l1 < 4 ∧ 0 ≤ l3 ∧ ((l2 = 0 ∧ l3 ≤ 3000) ∨ (l2 = 1 ∧ l3 ≤ 100) ∨ (l2 = 2 ∧ l3 ≤ 200) ∨ (l2 = 3 ∧ l3 ≤ 5000) ∨ (l2 = 4 ∧ l3 ≤ 100) ∨ (l2 = 5 ∧ l3 ≤ 100))) ∧ r = M 4 0 (jm_w ((jm_w (6 * l1)) + l2)) ∧ M1 4 0 (jm_w ((jm_w (6 * l1)) + l2)) = l3) ∨ (¬ (0 ≤ l1 ∧ l1 < 4 ∧ 0 ≤ l3 ∧ ((l2 = 0 ∧ l3 ≤ 3000) ∨ (l2 = 1 ∧ l3 ≤ 100) ∨ (l2 = 2 ∧ l3 ≤ 200) ∨ (l2 = 3 ∧ l3 ≤ 5000) ∨ (l2 = 4 ∧ l3 ≤ 100) ∨ (l2 = 5 ∧ l3 ≤ 100))) ∧ r = -1 ∧ M1 4 0 (jm_w ((jm_w (6 * l1)) + l2)) = M 4 0 (jm_w ((jm_w (6 * l1)) + l2)))))) := by
  have kM : Kp (TM2 4 (jm_w ((jm_w (6 * l1)) + l2))) M M := Kp.rf
  unfold fX12_tyres
  refine wp_sk iM (jm_inL (by decide) (by decide)) kM (by unfold TM2 RC2; omega) (fun M1 u_1 iM1 kM1 => ?_)
  refine wp_bp (s_fX12_in M1 iM1 l1 0 3 hl1 ⟨by omega, by omega⟩ ⟨by omega, by omega⟩ ) (fun v2 hv2 => ?_)
  have b_2 : -2147483648 ≤ l1 ∧ l1 ≤ 2147483647 := hl1
  refine wp_ite (fun c_3 => ?_) (fun c_3 => ?_)
  · skip
    have q_4 : (M1 4 0 (jm_w ((jm_w (6 * l1)) + l2))) = (M 4 0 (jm_w ((jm_w (6 * l1)) + l2))) := by rw [u_1]; exact jm_une_f (by decide)
    have w_5 : -2147483648 ≤ (jm_w (6 * l1)) ∧ (jm_w (6 * l1)) ≤ 2147483647 := jm_w_in _
    have b_6 : -2147483648 ≤ l2 ∧ l2 ≤ 2147483647 := hl2
    have w_7 : -2147483648 ≤ (jm_w ((jm_w (6 * l1)) + l2)) ∧ (jm_w ((jm_w (6 * l1)) + l2)) ≤ 2147483647 := jm_w_in _
    have b_8 : (-2147483648) ≤ (M 4 0 (jm_w ((jm_w (6 * l1)) + l2))) ∧ (M 4 0 (jm_w ((jm_w (6 * l1)) + l2))) ≤ 2147483647 := iM 4 0 (jm_w ((jm_w (6 * l1)) + l2))
    exact wp_ret ⟨iM1, kM1, (jm_inL (by decide) (by decide)), by omega⟩
  · skip
    refine wp_bp (s_fX12_in M1 iM1 l2 0 5 hl2 ⟨by omega, by omega⟩ ⟨by omega, by omega⟩ ) (fun v6 hv6 => ?_)
    have b_9 : -2147483648 ≤ l2 ∧ l2 ≤ 2147483647 := hl2
    refine wp_ite (fun c_10 => ?_) (fun c_10 => ?_)
    · skip
      have q_11 : (M1 4 0 (jm_w ((jm_w (6 * l1)) + l2))) = (M 4 0 (jm_w ((jm_w (6 * l1)) + l2))) := by rw [u_1]; exact jm_une_f (by decide)
      have w_12 : (jm_w (6 * l1)) = (6 * l1) := jm_wid (by omega) (by omega)
      have w_13 : -2147483648 ≤ (jm_w ((jm_w (6 * l1)) + l2)) ∧ (jm_w ((jm_w (6 * l1)) + l2)) ≤ 2147483647 := jm_w_in _
      have b_14 : (-2147483648) ≤ (M 4 0 (jm_w ((jm_w (6 * l1)) + l2))) ∧ (M 4 0 (jm_w ((jm_w (6 * l1)) + l2))) ≤ 2147483647 := iM 4 0 (jm_w ((jm_w (6 * l1)) + l2))
      exact wp_ret ⟨iM1, kM1, (jm_inL (by decide) (by decide)), by omega⟩
    · skip
      refine wp_bp (s_fX12_mostOfTyres M1 iM1 l2 ⟨by omega, by omega⟩ ) (fun v10 hv10 => ?_)
      refine wp_bp (s_fX12_in M1 iM1 l3 0 v10 hl3 ⟨by omega, by omega⟩ ⟨by omega, by omega⟩ ) (fun v13 hv13 => ?_)
      have b_15 : -2147483648 ≤ l3 ∧ l3 ≤ 2147483647 := hl3
      refine wp_ite (fun c_16 => ?_) (fun c_16 => ?_)
      · skip
        have q_17 : (M1 4 0 (jm_w ((jm_w (6 * l1)) + l2))) = (M 4 0 (jm_w ((jm_w (6 * l1)) + l2))) := by rw [u_1]; exact jm_une_f (by decide)
        have w_18 : (jm_w (6 * l1)) = (6 * l1) := jm_wid (by omega) (by omega)
        have w_19 : (jm_w ((jm_w (6 * l1)) + l2)) = ((jm_w (6 * l1)) + l2) := jm_wid (by omega) (by omega)
        have b_20 : (-2147483648) ≤ (M 4 0 (jm_w ((jm_w (6 * l1)) + l2))) ∧ (M 4 0 (jm_w ((jm_w (6 * l1)) + l2))) ≤ 2147483647 := iM 4 0 (jm_w ((jm_w (6 * l1)) + l2))
        exact wp_ret ⟨iM1, kM1, (jm_inL (by decide) (by decide)), by omega⟩
      · skip
        have w_21 : (jm_w (6 * l1)) = (6 * l1) := jm_wid (by omega) (by omega)
        have w_22 : (jm_w ((jm_w (6 * l1)) + l2)) = ((jm_w (6 * l1)) + l2) := jm_wid (by omega) (by omega)
        refine wp_T ⟨by omega, by omega⟩ ?_
        have q_23 : (M1 4 0 (jm_w ((jm_w (6 * l1)) + l2))) = (M 4 0 (jm_w ((jm_w (6 * l1)) + l2))) := by rw [u_1]; exact jm_une_f (by decide)
        have b_24 : (-2147483648) ≤ (M 4 0 (jm_w ((jm_w (6 * l1)) + l2))) ∧ (M 4 0 (jm_w ((jm_w (6 * l1)) + l2))) ≤ 2147483647 := iM 4 0 (jm_w ((jm_w (6 * l1)) + l2))
        refine wp_e (by exact (bx2_in (iM1 4 0 (jm_w ((jm_w (6 * l1)) + l2))))) (fun v19 e_25 hv19 => ?_)
        refine wp_T ⟨by omega, by omega⟩ ?_
        refine wp_sk iM1 hl3 kM1 (by unfold TM2 RC2; omega) (fun M22 u_26 iM22 kM22 => ?_)
        have b_27 : -2147483648 ≤ v19 ∧ v19 ≤ 2147483647 := hv19
        have q_28 : (M22 4 0 (jm_w ((jm_w (6 * l1)) + l2))) = l3 := by rw [u_26]; exact jm_ueq
        exact wp_ret ⟨iM22, kM22, hv19, by omega⟩
set_option maxHeartbeats 4000000 in
set_option maxRecDepth 100000 in
theorem s_gX12_unplan_27 (fu : Nat) (hfu : 4000 ≤ fu) (M0 : jm_M) : ∀ (l1 s0 : Int) (M : jm_M) (iM : bI bx2 M) (kM : Kp (TM2 30 l1) M0 M) (hl1 : jm_in l1) (hs0 : 0 ≤ s0 ∧ s0 ≤ 1) (y0 : (s0 = 0 ∨ (s0 = 1 ∧ 0 ≤ l1 ∧ l1 < 6))) (z0 : M 30 0 l1 = M0 30 0 l1), wp (gX12_unplan_27 fu  M l1 s0) (fun r M1 => bI bx2 M1 ∧ Kp (TM2 30 l1) M0 M1 ∧ (0 ≤ r ∧ r ≤ 1 ∧ (M1 30 0 l1 = 0 ∨ M1 30 0 l1 = M0 30 0 l1))) := by
  intro l1 s0 M iM kM hl1 hs0 y0 z0
  unfold gX12_unplan_27
  refine wp_ite (fun c_1 => ?_) (fun c_1 => ?_)
  · skip
    refine wp_T (by omega) ?_
    have b_2 : -2147483648 ≤ l1 ∧ l1 ≤ 2147483647 := hl1
    have b_3 : 0 ≤ (M 30 0 l1) ∧ (M 30 0 l1) ≤ 1 := iM 30 0 l1
    exact wp_ret ⟨iM, kM, by omega, by omega, by omega⟩
  · skip
    have b_4 : -2147483648 ≤ l1 ∧ l1 ≤ 2147483647 := hl1
    refine wp_T ⟨by omega, by omega⟩ ?_
    refine wp_T (by omega) ?_
    refine wp_sk iM (show 0 ≤ 0 ∧ 0 ≤ 1 by omega) kM (by unfold TM2 RC2; omega) (fun M3 u_5 iM3 kM3 => ?_)
    refine wp_T (by omega) ?_
    have q_6 : (M3 30 0 l1) = 0 := by rw [u_5]; exact jm_ueq
    exact wp_ret ⟨iM3, kM3, by omega, by omega, by omega⟩
set_option maxHeartbeats 4000000 in
set_option maxRecDepth 100000 in
theorem s_fX12_unplan (fu : Nat) (hfu : 4000 ≤ fu) (M : jm_M) (iM : bI bx2 M) (l1 : Int) (hl1 : jm_in l1) : wp (fX12_unplan fu M l1) (fun r M1 => bI bx2 M1 ∧ Kp (TM2 30 l1) M M1 ∧ (0 ≤ r ∧ r ≤ 1 ∧ (M1 30 0 l1 = 0 ∨ M1 30 0 l1 = M 30 0 l1))) := by
  have kM : Kp (TM2 30 l1) M M := Kp.rf
  unfold fX12_unplan
  refine wp_sk iM (jm_inL (by decide) (by decide)) kM (by unfold TM2 RC2; omega) (fun M1 u_1 iM1 kM1 => ?_)
  refine wp_bp (s_fX12_isCar M1 iM1 l1 hl1 ) (fun v2 hv2 => ?_)
  have b_2 : -2147483648 ≤ l1 ∧ l1 ≤ 2147483647 := hl1
  have q_3 : (M1 0 0 17) = (M 0 0 17) := by rw [u_1]; exact jm_une_k (by decide)
  have b_4 : 0 ≤ (M 0 0 17) ∧ (M 0 0 17) ≤ 6 := iM 0 0 17
  refine wp_ite (fun c_5 => ?_) (fun c_5 => ?_)
  · skip
    have q_6 : (M1 30 0 l1) = (M 30 0 l1) := by rw [u_1]; exact jm_une_f (by decide)
    have b_7 : 0 ≤ (M 30 0 l1) ∧ (M 30 0 l1) ≤ 1 := iM 30 0 l1
    exact s_gX12_unplan_27 fu hfu M    l1 0 M1 iM1 kM1 hl1 ⟨by omega, by omega⟩ (by omega) (by omega) 
  · skip
    refine wp_T ⟨by omega, by omega⟩ ?_
    have q_8 : (M1 30 0 l1) = (M 30 0 l1) := by rw [u_1]; exact jm_une_f (by decide)
    have b_10 : 0 ≤ (M 30 0 l1) ∧ (M 30 0 l1) ≤ 1 := iM 30 0 l1
    refine wp_ite (fun c_9 => ?_) (fun c_9 => ?_)
    · skip
      exact s_gX12_unplan_27 fu hfu M    l1 0 M1 iM1 kM1 hl1 ⟨by omega, by omega⟩ (by omega) (by omega) 
    · skip
      exact s_gX12_unplan_27 fu hfu M    l1 1 M1 iM1 kM1 hl1 ⟨by omega, by omega⟩ (by omega) (by omega) 
set_option maxHeartbeats 4000000 in
set_option maxRecDepth 100000 in
theorem s_fX12_waited (fu : Nat) (hfu : 4000 ≤ fu) (M : jm_M) (iM : bI bx2 M) (l1 : Int) (hl1 : jm_in l1) (wM : WF M) : wp (fX12_waited fu M l1) (fun r M1 => bI bx2 M1 ∧ Kp TA2 M M1 ∧ (jm_in r)) := by
  have kM : Kp TA2 M M := Kp.rf
  unfold fX12_waited
  refine wp_sk iM (jm_inL (by decide) (by decide)) kM (by unfold TA2; omega) (fun M1 u_1 iM1 kM1 => ?_)
  refine wp_bp (s_fX12_isCar M1 iM1 l1 hl1 ) (fun v2 hv2 => ?_)
  have b_2 : -2147483648 ≤ l1 ∧ l1 ≤ 2147483647 := hl1
  have q_3 : (M1 0 0 17) = (M 0 0 17) := by rw [u_1]; exact jm_une_k (by decide)
  have b_4 : 0 ≤ (M 0 0 17) ∧ (M 0 0 17) ≤ 6 := iM 0 0 17
  refine wp_ite (fun c_5 => ?_) (fun c_5 => ?_)
  · skip
    exact wp_ret ⟨iM1, kM1, (jm_inL (by decide) (by decide))⟩
  · skip
    refine wp_bk (s_fX12_runs fu hfu M1 iM1   (WF.kp kM1 wM wf_TA2) ) (fun v6 M7 iM7 jM7 hv6 => ?_)
    have kM7 := kM1.tr jM7 (fun _ _ _ h => h)
    refine wp_T ⟨by omega, by omega⟩ ?_
    have b_6 : (-2147483648) ≤ (M7 54 0 l1) ∧ (M7 54 0 l1) ≤ 2147483647 := iM7 54 0 l1
    exact wp_ret ⟨iM7, kM7, (iM7 54 0 l1)⟩
set_option maxHeartbeats 4000000 in
set_option maxRecDepth 100000 in
theorem s_gX12_wall_97 (fu : Nat) (hfu : 4000 ≤ fu) (M0 : jm_M) (w0 : WF M0) (k57 : jm_M → Int → Int → Int → Int → Int → Int → jm_R) (N57 : Int) (hk57 : ∀ (l1 l2 l3 l4 l5 l6 : Int) (M : jm_M) (iM : bI bx2 M) (kM : Kp TA2 M0 M) (hl1 : 0 ≤ l1 ∧ l1 ≤ 5) (hl2 : 0 ≤ l2 ∧ l2 ≤ 2147483647) (hl3 : (-1) ≤ l3 ∧ l3 ≤ 59) (hl4 : jm_in l4) (hl5 : jm_in l5) (hl6 : 0 ≤ l6 ∧ l6 ≤ 6), 7 - l6 < N57 → wp (k57 M l1 l2 l3 l4 l5 l6) (fun r M1 => bI bx2 M1 ∧ Kp TA2 M0 M1 ∧ (jm_in r))) : ∀ (l1 l2 l3 l4 l5 l6 l7 s0 : Int) (M : jm_M) (iM : bI bx2 M) (kM : Kp TA2 M0 M) (hl1 : 0 ≤ l1 ∧ l1 ≤ 5) (hl2 : 0 ≤ l2 ∧ l2 ≤ 2147483647) (hl3 : (-1) ≤ l3 ∧ l3 ≤ 59) (hl4 : jm_in l4) (hl5 : jm_in l5) (hl6 : 0 ≤ l6 ∧ l6 ≤ 5) (hl7 : (-1) ≤ l7 ∧ l7 ≤ 59) (hs0 : jm_in s0), 7 - l6 < N57 + 1 → wp (gX12_wall_97 fu k57 M l1 l2 l3 l4 l5 l6 l7 s0) (fun r M1 => bI bx2 M1 ∧ Kp TA2 M0 M1 ∧ (jm_in r)) := by
  intro l1 l2 l3 l4 l5 l6 l7 s0 M iM kM hl1 hl2 hl3 hl4 hl5 hl6 hl7 hs0 m57
  unfold gX12_wall_97
  refine wp_ite (fun c_1 => ?_) (fun c_1 => ?_)
  · skip
    have b_2 : -2147483648 ≤ l5 ∧ l5 ≤ 2147483647 := hl5
    have w_3 : -2147483648 ≤ (jm_w (l5 + 1)) ∧ (jm_w (l5 + 1)) ≤ 2147483647 := jm_w_in _
    refine wp_e (by exact (jm_w_in _)) (fun v2 e_4 hv2 => ?_)
    have w_5 : (jm_w (l6 + 1)) = (l6 + 1) := jm_wid (by omega) (by omega)
    refine wp_e (by exact (jm_w_in _)) (fun v4 e_6 hv4 => ?_)
    have b_7 : -2147483648 ≤ v4 ∧ v4 ≤ 2147483647 := hv4
    have b_8 : -2147483648 ≤ l4 ∧ l4 ≤ 2147483647 := hl4
    have b_9 : -2147483648 ≤ v2 ∧ v2 ≤ 2147483647 := hv2
    exact hk57 l1 l2 l3 l4 v2 v4 M iM kM ⟨by omega, by omega⟩ ⟨by omega, by omega⟩ ⟨by omega, by omega⟩ hl4 hv2 ⟨by omega, by omega⟩  (by omega)
  · skip
    refine wp_ite (fun c_10 => ?_) (fun c_10 => ?_)
    · skip
      have b_12 : -2147483648 ≤ s0 ∧ s0 ≤ 2147483647 := hs0
      have b_13 : -2147483648 ≤ l4 ∧ l4 ≤ 2147483647 := hl4
      refine wp_ite (fun c_11 => ?_) (fun c_11 => ?_)
      · skip
        have b_14 : -2147483648 ≤ l5 ∧ l5 ≤ 2147483647 := hl5
        have w_15 : -2147483648 ≤ (jm_w (l5 + 1)) ∧ (jm_w (l5 + 1)) ≤ 2147483647 := jm_w_in _
        refine wp_e (by exact (jm_w_in _)) (fun v8 e_16 hv8 => ?_)
        have w_17 : (jm_w (l6 + 1)) = (l6 + 1) := jm_wid (by omega) (by omega)
        refine wp_e (by exact (jm_w_in _)) (fun v10 e_18 hv10 => ?_)
        have b_19 : -2147483648 ≤ v10 ∧ v10 ≤ 2147483647 := hv10
        have b_20 : -2147483648 ≤ v8 ∧ v8 ≤ 2147483647 := hv8
        exact hk57 l1 l2 l3 l4 v8 v10 M iM kM ⟨by omega, by omega⟩ ⟨by omega, by omega⟩ ⟨by omega, by omega⟩ hl4 hv8 ⟨by omega, by omega⟩  (by omega)
      · skip
        refine wp_ite (fun c_21 => ?_) (fun c_21 => ?_)
        · skip
          refine wp_ite (fun c_22 => ?_) (fun c_22 => ?_)
          · skip
            have b_23 : -2147483648 ≤ l5 ∧ l5 ≤ 2147483647 := hl5
            have w_24 : (jm_w (l5 + 0)) = (l5 + 0) := jm_wid (by omega) (by omega)
            refine wp_e (by exact (jm_w_in _)) (fun v14 e_25 hv14 => ?_)
            have w_26 : (jm_w (l6 + 1)) = (l6 + 1) := jm_wid (by omega) (by omega)
            refine wp_e (by exact (jm_w_in _)) (fun v16 e_27 hv16 => ?_)
            have b_28 : -2147483648 ≤ v16 ∧ v16 ≤ 2147483647 := hv16
            have b_29 : -2147483648 ≤ v14 ∧ v14 ≤ 2147483647 := hv14
            exact hk57 l1 l2 l3 l4 v14 v16 M iM kM ⟨by omega, by omega⟩ ⟨by omega, by omega⟩ ⟨by omega, by omega⟩ hl4 hv14 ⟨by omega, by omega⟩  (by omega)
          · skip
            have b_30 : -2147483648 ≤ l5 ∧ l5 ≤ 2147483647 := hl5
            have w_31 : -2147483648 ≤ (jm_w (l5 + 1)) ∧ (jm_w (l5 + 1)) ≤ 2147483647 := jm_w_in _
            refine wp_e (by exact (jm_w_in _)) (fun v18 e_32 hv18 => ?_)
            have w_33 : (jm_w (l6 + 1)) = (l6 + 1) := jm_wid (by omega) (by omega)
            refine wp_e (by exact (jm_w_in _)) (fun v20 e_34 hv20 => ?_)
            have b_35 : -2147483648 ≤ v20 ∧ v20 ≤ 2147483647 := hv20
            have b_36 : -2147483648 ≤ v18 ∧ v18 ≤ 2147483647 := hv18
            exact hk57 l1 l2 l3 l4 v18 v20 M iM kM ⟨by omega, by omega⟩ ⟨by omega, by omega⟩ ⟨by omega, by omega⟩ hl4 hv18 ⟨by omega, by omega⟩  (by omega)
        · skip
          have b_37 : -2147483648 ≤ l5 ∧ l5 ≤ 2147483647 := hl5
          have w_38 : (jm_w (l5 + 0)) = (l5 + 0) := jm_wid (by omega) (by omega)
          refine wp_e (by exact (jm_w_in _)) (fun v22 e_39 hv22 => ?_)
          have w_40 : (jm_w (l6 + 1)) = (l6 + 1) := jm_wid (by omega) (by omega)
          refine wp_e (by exact (jm_w_in _)) (fun v24 e_41 hv24 => ?_)
          have b_42 : -2147483648 ≤ v24 ∧ v24 ≤ 2147483647 := hv24
          have b_43 : -2147483648 ≤ v22 ∧ v22 ≤ 2147483647 := hv22
          exact hk57 l1 l2 l3 l4 v22 v24 M iM kM ⟨by omega, by omega⟩ ⟨by omega, by omega⟩ ⟨by omega, by omega⟩ hl4 hv22 ⟨by omega, by omega⟩  (by omega)
    · skip
      have b_44 : -2147483648 ≤ l5 ∧ l5 ≤ 2147483647 := hl5
      have w_45 : (jm_w (l5 + 0)) = (l5 + 0) := jm_wid (by omega) (by omega)
      refine wp_e (by exact (jm_w_in _)) (fun v26 e_46 hv26 => ?_)
      have w_47 : (jm_w (l6 + 1)) = (l6 + 1) := jm_wid (by omega) (by omega)
      refine wp_e (by exact (jm_w_in _)) (fun v28 e_48 hv28 => ?_)
      have b_49 : -2147483648 ≤ v28 ∧ v28 ≤ 2147483647 := hv28
      have b_50 : -2147483648 ≤ l4 ∧ l4 ≤ 2147483647 := hl4
      have b_51 : -2147483648 ≤ v26 ∧ v26 ≤ 2147483647 := hv26
      exact hk57 l1 l2 l3 l4 v26 v28 M iM kM ⟨by omega, by omega⟩ ⟨by omega, by omega⟩ ⟨by omega, by omega⟩ hl4 hv26 ⟨by omega, by omega⟩  (by omega)
set_option maxHeartbeats 4000000 in
set_option maxRecDepth 100000 in
theorem s_gX12_wall_57 (fu : Nat) (hfu : 4000 ≤ fu) (M0 : jm_M) (w0 : WF M0) (k57 : jm_M → Int → Int → Int → Int → Int → Int → jm_R) (N57 : Int) (hk57 : ∀ (l1 l2 l3 l4 l5 l6 : Int) (M : jm_M) (iM : bI bx2 M) (kM : Kp TA2 M0 M) (hl1 : 0 ≤ l1 ∧ l1 ≤ 5) (hl2 : 0 ≤ l2 ∧ l2 ≤ 2147483647) (hl3 : (-1) ≤ l3 ∧ l3 ≤ 59) (hl4 : jm_in l4) (hl5 : jm_in l5) (hl6 : 0 ≤ l6 ∧ l6 ≤ 6), 7 - l6 < N57 → wp (k57 M l1 l2 l3 l4 l5 l6) (fun r M1 => bI bx2 M1 ∧ Kp TA2 M0 M1 ∧ (jm_in r))) : ∀ (l1 l2 l3 l4 l5 l6 : Int) (M : jm_M) (iM : bI bx2 M) (kM : Kp TA2 M0 M) (hl1 : 0 ≤ l1 ∧ l1 ≤ 5) (hl2 : 0 ≤ l2 ∧ l2 ≤ 2147483647) (hl3 : (-1) ≤ l3 ∧ l3 ≤ 59) (hl4 : jm_in l4) (hl5 : jm_in l5) (hl6 : 0 ≤ l6 ∧ l6 ≤ 6), 7 - l6 < N57 + 1 → wp (gX12_wall_57 fu k57 M l1 l2 l3 l4 l5 l6) (fun r M1 => bI bx2 M1 ∧ Kp TA2 M0 M1 ∧ (jm_in r)) := by
  intro l1 l2 l3 l4 l5 l6 M iM kM hl1 hl2 hl3 hl4 hl5 hl6 m57
  unfold gX12_wall_57
  have b_2 : 0 ≤ (M 0 0 17) ∧ (M 0 0 17) ≤ 6 := iM 0 0 17
  refine wp_ite (fun c_1 => ?_) (fun c_1 => ?_)
  · skip
    have b_3 : -2147483648 ≤ l5 ∧ l5 ≤ 2147483647 := hl5
    exact wp_ret ⟨iM, kM, hl5⟩
  · skip
    refine wp_bp (s_fX12_toldLine fu hfu M iM l6 l2 ⟨by omega, by omega⟩ ⟨by omega, by omega⟩ ) (fun v3 hv3 => ?_)
    refine wp_ite (fun c_4 => ?_) (fun c_4 => ?_)
    · skip
      have w_5 : (jm_w (60 * l6)) = (60 * l6) := jm_wid (by omega) (by omega)
      have w_6 : (jm_w ((jm_w (60 * l6)) + v3)) = ((jm_w (60 * l6)) + v3) := jm_wid (by omega) (by omega)
      refine wp_T ⟨by omega, by omega⟩ ?_
      have b_7 : -2147483648 ≤ l4 ∧ l4 ≤ 2147483647 := hl4
      have b_8 : -2147483648 ≤ l5 ∧ l5 ≤ 2147483647 := hl5
      have b_9 : (-2147483648) ≤ (M 55 0 (jm_w ((jm_w (60 * l6)) + v3))) ∧ (M 55 0 (jm_w ((jm_w (60 * l6)) + v3))) ≤ 2147483647 := iM 55 0 (jm_w ((jm_w (60 * l6)) + v3))
      exact s_gX12_wall_97 fu hfu M0 w0 k57 N57 hk57 l1 l2 l3 l4 l5 l6 v3 (M 55 0 (jm_w ((jm_w (60 * l6)) + v3))) M iM kM ⟨by omega, by omega⟩ ⟨by omega, by omega⟩ ⟨by omega, by omega⟩ hl4 hl5 ⟨by omega, by omega⟩ ⟨by omega, by omega⟩ (iM 55 0 (jm_w ((jm_w (60 * l6)) + v3)))  (by omega)
    · skip
      have b_10 : -2147483648 ≤ l4 ∧ l4 ≤ 2147483647 := hl4
      have b_11 : -2147483648 ≤ l5 ∧ l5 ≤ 2147483647 := hl5
      exact s_gX12_wall_97 fu hfu M0 w0 k57 N57 hk57 l1 l2 l3 l4 l5 l6 v3 0 M iM kM ⟨by omega, by omega⟩ ⟨by omega, by omega⟩ ⟨by omega, by omega⟩ hl4 hl5 ⟨by omega, by omega⟩ ⟨by omega, by omega⟩ (jm_inL (by decide) (by decide))  (by omega)
set_option maxHeartbeats 4000000 in
set_option maxRecDepth 100000 in
theorem s_fX12_wall_57 (fu : Nat) (hfu : 4000 ≤ fu) (M0 : jm_M) (w0 : WF M0) : ∀ (n : Nat) (l1 l2 l3 l4 l5 l6 : Int) (M : jm_M) (iM : bI bx2 M) (kM : Kp TA2 M0 M) (hl1 : 0 ≤ l1 ∧ l1 ≤ 5) (hl2 : 0 ≤ l2 ∧ l2 ≤ 2147483647) (hl3 : (-1) ≤ l3 ∧ l3 ≤ 59) (hl4 : jm_in l4) (hl5 : jm_in l5) (hl6 : 0 ≤ l6 ∧ l6 ≤ 6), 7 - l6 < (n : Int) → wp (fX12_wall_57 fu  n M l1 l2 l3 l4 l5 l6) (fun r M1 => bI bx2 M1 ∧ Kp TA2 M0 M1 ∧ (jm_in r)) := by
  intro n
  induction n with
  | zero => intro l1 l2 l3 l4 l5 l6 M iM kM hl1 hl2 hl3 hl4 hl5 hl6 hm; exfalso; omega
  | succ n ih =>
    intro l1 l2 l3 l4 l5 l6 M iM kM hl1 hl2 hl3 hl4 hl5 hl6 hm
    exact s_gX12_wall_57 fu hfu M0 w0 (fX12_wall_57 fu  n) (n : Int) ih l1 l2 l3 l4 l5 l6 M iM kM hl1 hl2 hl3 hl4 hl5 hl6 (by omega)
set_option maxHeartbeats 4000000 in
set_option maxRecDepth 100000 in
theorem s_fX12_wall (fu : Nat) (hfu : 4000 ≤ fu) (M : jm_M) (iM : bI bx2 M) (l1 l2 : Int) (hl1 : jm_in l1) (hl2 : jm_in l2) (wM : WF M) : wp (fX12_wall fu M l1 l2) (fun r M1 => bI bx2 M1 ∧ Kp TA2 M M1 ∧ (jm_in r)) := by
  have kM : Kp TA2 M M := Kp.rf
  unfold fX12_wall
  refine wp_sk iM (jm_inL (by decide) (by decide)) kM (by unfold TA2; omega) (fun M1 u_1 iM1 kM1 => ?_)
  refine wp_bp (s_fX12_isCar M1 iM1 l1 hl1 ) (fun v2 hv2 => ?_)
  have b_2 : -2147483648 ≤ l1 ∧ l1 ≤ 2147483647 := hl1
  have q_3 : (M1 0 0 17) = (M 0 0 17) := by rw [u_1]; exact jm_une_k (by decide)
  have b_4 : 0 ≤ (M 0 0 17) ∧ (M 0 0 17) ≤ 6 := iM 0 0 17
  refine wp_ite (fun c_5 => ?_) (fun c_5 => ?_)
  · skip
    exact wp_ret ⟨iM1, kM1, (jm_inL (by decide) (by decide))⟩
  · skip
    have b_7 : -2147483648 ≤ l2 ∧ l2 ≤ 2147483647 := hl2
    refine wp_ite (fun c_6 => ?_) (fun c_6 => ?_)
    · skip
      refine wp_bk (s_fX12_runs fu hfu M1 iM1   (WF.kp kM1 wM wf_TA2) ) (fun v7 M8 iM8 jM8 hv7 => ?_)
      have kM8 := kM1.tr jM8 (fun _ _ _ h => h)
      refine wp_bp (s_fX12_toldLine fu hfu M8 iM8 l1 l2 ⟨by omega, by omega⟩ ⟨by omega, by omega⟩ ) (fun v9 hv9 => ?_)
      refine wp_ite (fun c_8 => ?_) (fun c_8 => ?_)
      · skip
        have w_9 : (jm_w (60 * l1)) = (60 * l1) := jm_wid (by omega) (by omega)
        have w_10 : (jm_w ((jm_w (60 * l1)) + v9)) = ((jm_w (60 * l1)) + v9) := jm_wid (by omega) (by omega)
        refine wp_T ⟨by omega, by omega⟩ ?_
        have b_11 : (-2147483648) ≤ (M8 55 0 (jm_w ((jm_w (60 * l1)) + v9))) ∧ (M8 55 0 (jm_w ((jm_w (60 * l1)) + v9))) ≤ 2147483647 := iM8 55 0 (jm_w ((jm_w (60 * l1)) + v9))
        refine wp_e (by exact (iM8 55 0 (jm_w ((jm_w (60 * l1)) + v9)))) (fun v15 e_12 hv15 => ?_)
        have b_13 : -2147483648 ≤ v15 ∧ v15 ≤ 2147483647 := hv15
        exact s_fX12_wall_57 fu hfu M wM    fu l1 l2 v9 v15 0 0 M8 iM8 kM8 ⟨by omega, by omega⟩ ⟨by omega, by omega⟩ ⟨by omega, by omega⟩ hv15 (jm_inL (by decide) (by decide)) ⟨by omega, by omega⟩   (by omega)
      · skip
        exact s_fX12_wall_57 fu hfu M wM    fu l1 l2 v9 0 0 0 M8 iM8 kM8 ⟨by omega, by omega⟩ ⟨by omega, by omega⟩ ⟨by omega, by omega⟩ (jm_inL (by decide) (by decide)) (jm_inL (by decide) (by decide)) ⟨by omega, by omega⟩   (by omega)
    · skip
      exact wp_ret ⟨iM1, kM1, (jm_inL (by decide) (by decide))⟩
set_option maxHeartbeats 4000000 in
set_option maxRecDepth 100000 in
theorem s_fX12_why (fu : Nat) (hfu : 4000 ≤ fu) (M : jm_M) (iM : bI bx2 M) (l1 l2 : Int) (hl1 : jm_in l1) (hl2 : jm_in l2) (wM : WF M) : wp (fX12_why fu M l1 l2) (fun r M1 => bI bx2 M1 ∧ Kp TA2 M M1 ∧ (jm_in r)) := by
  have kM : Kp TA2 M M := Kp.rf
  unfold fX12_why
  refine wp_sk iM (jm_inL (by decide) (by decide)) kM (by unfold TA2; omega) (fun M1 u_1 iM1 kM1 => ?_)
  refine wp_bp (s_fX12_isCar M1 iM1 l1 hl1 ) (fun v2 hv2 => ?_)
  have b_2 : -2147483648 ≤ l1 ∧ l1 ≤ 2147483647 := hl1
  have q_3 : (M1 0 0 17) = (M 0 0 17) := by rw [u_1]; exact jm_une_k (by decide)
  have b_4 : 0 ≤ (M 0 0 17) ∧ (M 0 0 17) ≤ 6 := iM 0 0 17
  refine wp_ite (fun c_5 => ?_) (fun c_5 => ?_)
  · skip
    exact wp_ret ⟨iM1, kM1, (jm_inL (by decide) (by decide))⟩
  · skip
    refine wp_bp (s_fX12_isLap M1 iM1 l2 hl2 ) (fun v6 hv6 => ?_)
    have b_6 : -2147483648 ≤ l2 ∧ l2 ≤ 2147483647 := hl2
    have q_7 : (M1 0 0 2) = (M 0 0 2) := by rw [u_1]; exact jm_une_k (by decide)
    have b_8 : 1 ≤ (M 0 0 2) ∧ (M 0 0 2) ≤ 12 := iM 0 0 2
    refine wp_ite (fun c_9 => ?_) (fun c_9 => ?_)
    · skip
      exact wp_ret ⟨iM1, kM1, (jm_inL (by decide) (by decide))⟩
    · skip
      refine wp_bk (s_fX12_runs fu hfu M1 iM1   (WF.kp kM1 wM wf_TA2) ) (fun v10 M11 iM11 jM11 hv10 => ?_)
      have kM11 := kM1.tr jM11 (fun _ _ _ h => h)
      have w_10 : (jm_w (12 * l1)) = (12 * l1) := jm_wid (by omega) (by omega)
      have w_11 : (jm_w ((jm_w (12 * l1)) + l2)) = ((jm_w (12 * l1)) + l2) := jm_wid (by omega) (by omega)
      refine wp_T ⟨by omega, by omega⟩ ?_
      have b_12 : (-2147483648) ≤ (M11 59 0 (jm_w ((jm_w (12 * l1)) + l2))) ∧ (M11 59 0 (jm_w ((jm_w (12 * l1)) + l2))) ≤ 2147483647 := iM11 59 0 (jm_w ((jm_w (12 * l1)) + l2))
      exact wp_ret ⟨iM11, kM11, (iM11 59 0 (jm_w ((jm_w (12 * l1)) + l2)))⟩
set_option maxHeartbeats 4000000 in
set_option maxRecDepth 100000 in
theorem s_fX12_within (fu : Nat) (hfu : 4000 ≤ fu) (M : jm_M) (iM : bI bx2 M) (l1 l2 : Int) (hl1 : jm_in l1) (hl2 : jm_in l2) (wM : WF M) : wp (fX12_within fu M l1 l2) (fun r M1 => bI bx2 M1 ∧ Kp TA2 M M1 ∧ ((-1) ≤ r ∧ r ≤ 5)) := by
  have kM : Kp TA2 M M := Kp.rf
  unfold fX12_within
  refine wp_sk iM (jm_inL (by decide) (by decide)) kM (by unfold TA2; omega) (fun M1 u_1 iM1 kM1 => ?_)
  refine wp_bp (s_fX12_isCar M1 iM1 l1 hl1 ) (fun v2 hv2 => ?_)
  have b_2 : -2147483648 ≤ l1 ∧ l1 ≤ 2147483647 := hl1
  have q_3 : (M1 0 0 17) = (M 0 0 17) := by rw [u_1]; exact jm_une_k (by decide)
  have b_4 : 0 ≤ (M 0 0 17) ∧ (M 0 0 17) ≤ 6 := iM 0 0 17
  refine wp_ite (fun c_5 => ?_) (fun c_5 => ?_)
  · skip
    exact wp_ret ⟨iM1, kM1, by omega⟩
  · skip
    refine wp_bp (s_fX12_isDay M1 iM1 l2 hl2 ) (fun v6 hv6 => ?_)
    have b_6 : -2147483648 ≤ l2 ∧ l2 ≤ 2147483647 := hl2
    refine wp_ite (fun c_7 => ?_) (fun c_7 => ?_)
    · skip
      exact wp_ret ⟨iM1, kM1, by omega⟩
    · skip
      refine wp_bk (s_fX12_judges fu hfu M1 iM1 l2 ⟨by omega, by omega⟩ (WF.kp kM1 wM wf_TA2) ) (fun v10 M11 iM11 jM11 hv10 => ?_)
      have kM11 := kM1.tr jM11 (fun _ _ _ h => h)
      refine wp_bp (s_fX12_placeOf fu hfu M11 iM11 l1 1 ⟨by omega, by omega⟩ ⟨by omega, by omega⟩ ) (fun v12 hv12 => ?_)
      exact wp_ret ⟨iM11, kM11, by omega⟩
