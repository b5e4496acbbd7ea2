set_option maxHeartbeats 4000000 in
set_option maxRecDepth 100000 in
theorem s_fX11_rule (fu : Nat) (hfu : 4000 ≤ fu) (M : jm_M) (iM : bI bx1 M) (l1 : Int) (hl1 : jm_in l1) : wp (fX11_rule fu M l1) (fun r M1 => bI bx1 M1 ∧ Kp TZ1 M M1 ∧ ((-100) ≤ r ∧ r ≤ 10 ∧ (M1 0 0 7 = 0))) := by
  have kM : Kp TZ1 M M := Kp.rf
  unfold fX11_rule
  have b_1 : 0 ≤ (M 0 0 7) ∧ (M 0 0 7) ≤ 100 := iM 0 0 7
  refine wp_bk (s_fX11_takeTape M iM   ) (fun v1 M2 iM2 jM2 hv1 => ?_)
  have kM2 := kM.tr jM2 (fun _ _ _ h => h)
  refine wp_bp (s_fX11_isDay M2 iM2 l1 hl1 ) (fun v4 hv4 => ?_)
  have b_2 : -2147483648 ≤ l1 ∧ l1 ≤ 2147483647 := hl1
  refine wp_ite (fun c_3 => ?_) (fun c_3 => ?_)
  · skip
    have b_4 : 0 ≤ (M2 0 0 7) ∧ (M2 0 0 7) ≤ 100 := iM2 0 0 7
    exact wp_ret ⟨iM2, kM2, by omega, by omega, by omega⟩
  · skip
    have b_5 : 0 ≤ (M2 3 0 3) ∧ (M2 3 0 3) ≤ 10 := iM2 3 0 3
    refine wp_bp (s_fX11_isIndex M2 iM2 (M2 3 0 3) 10 (jm_inL (by omega) (by omega)) ⟨by omega, by omega⟩ ) (fun v9 hv9 => ?_)
    refine wp_ite (fun c_6 => ?_) (fun c_6 => ?_)
    · skip
      have b_7 : 0 ≤ (M2 0 0 7) ∧ (M2 0 0 7) ≤ 100 := iM2 0 0 7
      exact wp_ret ⟨iM2, kM2, by omega, by omega, by omega⟩
    · skip
      have b_8 : 0 ≤ (M2 0 0 10) ∧ (M2 0 0 10) ≤ 16 := iM2 0 0 10
      refine wp_T ⟨by omega, by omega⟩ ?_
      refine wp_bk (s_fX3_firstWrong_a12 fu hfu M2 iM2 v1 (M2 0 0 10) 0 ⟨by omega, by omega⟩ ⟨by omega, by omega⟩ ⟨by omega, by omega⟩ ) (fun v14 M15 iM15 jM15 hv14 => ?_)
      have kM15 := kM2.tr jM15 tt_TZ1_TQ
      refine wp_ite (fun c_9 => ?_) (fun c_9 => ?_)
      · skip
        have q_10 : (M15 0 0 10) = (M2 0 0 10) := jM15 0 0 10 (by unfold TQ; omega)
        refine wp_T ⟨by omega, by omega⟩ ?_
        refine wp_bk (s_fX0_takeRule M15 iM15 (M15 0 0 10) l1 ⟨by omega, by omega⟩ ⟨by omega, by omega⟩ ) (fun v19 M20 iM20 jM20 hv19 => ?_)
        have kM20 := kM15.tr jM20 tt_TZ1_TV1
        refine wp_sk iM20 (show 0 ≤ v19 ∧ v19 ≤ 16 by omega) kM20 (by unfold TZ1 RC1; omega) (fun M22 u_11 iM22 kM22 => ?_)
        have q_12 : (M22 3 0 3) = (M20 3 0 3) := by rw [u_11]; exact jm_une_f (by decide)
        have b_13 : 0 ≤ (M20 3 0 3) ∧ (M20 3 0 3) ≤ 10 := iM20 3 0 3
        have q_14 : (M22 0 0 7) = (M20 0 0 7) := by rw [u_11]; exact jm_une_k (by decide)
        have q_15 : (M20 0 0 7) = (M15 0 0 7) := jM20 0 0 7 (by unfold TV1 RC1; omega)
        have q_16 : (M15 0 0 7) = (M2 0 0 7) := jM15 0 0 7 (by unfold TQ; omega)
        have b_17 : 0 ≤ (M2 0 0 7) ∧ (M2 0 0 7) ≤ 100 := iM2 0 0 7
        exact wp_ret ⟨iM22, kM22, by omega, by omega, by omega⟩
      · skip
        have w_18 : (jm_w ((-1) - v14)) = ((-1) - v14) := jm_wid (by omega) (by omega)
        have q_19 : (M15 0 0 7) = (M2 0 0 7) := jM15 0 0 7 (by unfold TQ; omega)
        have b_20 : 0 ≤ (M2 0 0 7) ∧ (M2 0 0 7) ≤ 100 := iM2 0 0 7
        exact wp_ret ⟨iM15, kM15, by omega, by omega, by omega⟩
set_option maxHeartbeats 4000000 in
set_option maxRecDepth 100000 in
theorem s_fX11_seconds (fu : Nat) (hfu : 4000 ≤ fu) (M : jm_M) (iM : bI bx1 M) (l1 l2 : Int) (hl1 : jm_in l1) (hl2 : jm_in l2) : wp (fX11_seconds fu M l1 l2) (fun r M1 => bI bx1 M1 ∧ Kp TA M M1 ∧ (jm_in r)) := by
  have kM : Kp TA M M := Kp.rf
  unfold fX11_seconds
  refine wp_bp (s_fX2_has M iM l1 hl1 ) (fun v1 hv1 => ?_)
  have b_1 : -2147483648 ≤ l1 ∧ l1 ≤ 2147483647 := hl1
  have b_2 : 0 ≤ (M 2 0 5) ∧ (M 2 0 5) ≤ 6 := iM 2 0 5
  refine wp_ite (fun c_3 => ?_) (fun c_3 => ?_)
  · skip
    exact wp_ret ⟨iM, kM, (jm_inL (by decide) (by decide))⟩
  · skip
    refine wp_bp (s_fX11_isDay M iM l2 hl2 ) (fun v5 hv5 => ?_)
    have b_4 : -2147483648 ≤ l2 ∧ l2 ≤ 2147483647 := hl2
    refine wp_ite (fun c_5 => ?_) (fun c_5 => ?_)
    · skip
      exact wp_ret ⟨iM, kM, (jm_inL (by decide) (by decide))⟩
    · skip
      refine wp_bk (s_fX2_reckon fu hfu M iM   ) (fun v9 M10 iM10 jM10 hv9 => ?_)
      have kM10 := kM.tr jM10 (fun _ _ _ h => h)
      refine wp_T ⟨by omega, by omega⟩ ?_
      refine wp_T ⟨by omega, by omega⟩ ?_
      refine wp_bp (s_fX2_lapsEnded M10 iM10 l1 ⟨by omega, by omega⟩ ) (fun v13 hv13 => ?_)
      refine wp_bp (s_fX0_weightBy fu hfu M10 iM10 l1 l2 ⟨by omega, by omega⟩ ⟨by omega, by omega⟩ ) (fun v16 hv16 => ?_)
      refine wp_bk (s_fX0_secondsBy fu hfu M10 iM10 l1 l1 v13 v16 l2 ⟨by omega, by omega⟩ ⟨by omega, by omega⟩ (jm_inL (by omega) (by omega)) hv16 ⟨by omega, by omega⟩ ) (fun v19 M20 iM20 jM20 hv19 => ?_)
      have kM20 := kM10.tr jM20 tt_TA_TJ
      have b_6 : -2147483648 ≤ v19 ∧ v19 ≤ 2147483647 := hv19
      exact wp_ret ⟨iM20, kM20, hv19⟩
set_option maxHeartbeats 4000000 in
set_option maxRecDepth 100000 in
theorem s_fX11_sector (M : jm_M) (iM : bI bx1 M) (l1 l2 l3 : Int) (hl1 : jm_in l1) (hl2 : jm_in l2) (hl3 : jm_in l3) : wp (fX11_sector M l1 l2 l3) (fun r M1 => bI bx1 M1 ∧ Kp RC1 M M1 ∧ (0 ≤ r ∧ r ≤ 1 ∧ (((0 ≤ l1 ∧ l1 < M 1 0 0 ∧ 5000 ≤ l2 ∧ l2 ≤ 60000 ∧ -1 ≤ l3 ∧ l3 ≤ 5000) ∧ r = 1) ∨ (¬ (0 ≤ l1 ∧ l1 < M 1 0 0 ∧ 5000 ≤ l2 ∧ l2 ≤ 60000 ∧ -1 ≤ l3 ∧ l3 ≤ 5000) ∧ r = 0)))) := by
  have kM : Kp RC1 M M := Kp.rf
  unfold fX11_sector
  refine wp_bp (s_fX9_hasSector M iM l1 hl1 ) (fun v1 hv1 => ?_)
  have b_1 : -2147483648 ≤ l1 ∧ l1 ≤ 2147483647 := hl1
  have b_2 : 2 ≤ (M 1 0 0) ∧ (M 1 0 0) ≤ 5 := iM 1 0 0
  refine wp_ite (fun c_3 => ?_) (fun c_3 => ?_)
  · skip
    exact wp_ret ⟨iM, kM, by omega, by omega, by omega⟩
  · skip
    refine wp_bp (s_fX11_isWithin M iM l2 5000 60000 hl2 (jm_inL (by decide) (by decide)) (jm_inL (by decide) (by decide)) ) (fun v5 hv5 => ?_)
    have b_4 : -2147483648 ≤ l2 ∧ l2 ≤ 2147483647 := hl2
    refine wp_ite (fun c_5 => ?_) (fun c_5 => ?_)
    · skip
      exact wp_ret ⟨iM, kM, by omega, by omega, by omega⟩
    · skip
      refine wp_bp (s_fX11_isWithin M iM l3 (-1) 5000 hl3 (jm_inL (by decide) (by decide)) (jm_inL (by decide) (by decide)) ) (fun v9 hv9 => ?_)
      have b_6 : -2147483648 ≤ l3 ∧ l3 ≤ 2147483647 := hl3
      refine wp_ite (fun c_7 => ?_) (fun c_7 => ?_)
      · skip
        exact wp_ret ⟨iM, kM, by omega, by omega, by omega⟩
      · skip
        refine wp_T ⟨by omega, by omega⟩ ?_
        refine wp_sk iM hl2 kM (by unfold RC1; omega) (fun M14 u_8 iM14 kM14 => ?_)
        refine wp_T ⟨by omega, by omega⟩ ?_
        refine wp_sk iM14 hl3 kM14 (by unfold RC1; omega) (fun M16 u_9 iM16 kM16 => ?_)
        refine wp_sk iM16 (jm_inL (by decide) (by decide)) kM16 (by unfold RC1; omega) (fun M17 u_10 iM17 kM17 => ?_)
        exact wp_ret ⟨iM17, kM17, by omega, by omega, by omega⟩
set_option maxHeartbeats 4000000 in
set_option maxRecDepth 100000 in
theorem s_fX11_set (M : jm_M) (iM : bI bx1 M) (l1 l2 : Int) (hl1 : jm_in l1) (hl2 : jm_in l2) : wp (fX11_set M l1 l2) (fun r M1 => bI bx1 M1 ∧ Kp (TN1 18 l1) M M1 ∧ (jm_in r ∧ (((0 ≤ l1 ∧ l1 < 8 ∧ jm_z 1 l1 ≤ l2 ∧ l2 ≤ jm_z 2 l1) ∧ r = M 18 0 l1 ∧ M1 18 0 l1 = l2) ∨ (¬ (0 ≤ l1 ∧ l1 < 8 ∧ jm_z 1 l1 ≤ l2 ∧ l2 ≤ jm_z 2 l1) ∧ r = -1 ∧ M1 18 0 l1 = M 18 0 l1)))) := by
  have kM : Kp (TN1 18 l1) M M := Kp.rf
  unfold fX11_set
  refine wp_bp (s_fX11_isIndex M iM l1 8 hl1 ⟨by omega, by omega⟩ ) (fun v1 hv1 => ?_)
  have b_1 : -2147483648 ≤ l1 ∧ l1 ≤ 2147483647 := hl1
  refine wp_ite (fun c_2 => ?_) (fun c_2 => ?_)
  · skip
    have b_3 : (-2147483648) ≤ (M 18 0 l1) ∧ (M 18 0 l1) ≤ 2147483647 := iM 18 0 l1
    exact wp_ret ⟨iM, kM, (jm_inL (by decide) (by decide)), by omega⟩
  · skip
    refine wp_T ⟨by omega, by omega⟩ ?_
    refine wp_T ⟨by omega, by omega⟩ ?_
    refine wp_bp (s_fX11_isWithin M iM l2 (jm_z 1 l1) (jm_z 2 l1) hl2 (jm_z_in _ _) (jm_z_in _ _) ) (fun v7 hv7 => ?_)
    have f_4 : -2147483648 ≤ (jm_z 1 l1) ∧ (jm_z 1 l1) ≤ 2147483647 := jm_z_in _ _
    have b_5 : -2147483648 ≤ l2 ∧ l2 ≤ 2147483647 := hl2
    have f_6 : -2147483648 ≤ (jm_z 2 l1) ∧ (jm_z 2 l1) ≤ 2147483647 := jm_z_in _ _
    refine wp_ite (fun c_7 => ?_) (fun c_7 => ?_)
    · skip
      have b_8 : (-2147483648) ≤ (M 18 0 l1) ∧ (M 18 0 l1) ≤ 2147483647 := iM 18 0 l1
      exact wp_ret ⟨iM, kM, (jm_inL (by decide) (by decide)), by omega⟩
    · skip
      refine wp_T ⟨by omega, by omega⟩ ?_
      have b_9 : (-2147483648) ≤ (M 18 0 l1) ∧ (M 18 0 l1) ≤ 2147483647 := iM 18 0 l1
      refine wp_e (by exact (iM 18 0 l1)) (fun v13 e_10 hv13 => ?_)
      refine wp_T ⟨by omega, by omega⟩ ?_
      refine wp_sk iM hl2 kM (by unfold TN1 RC1; omega) (fun M16 u_11 iM16 kM16 => ?_)
      refine wp_sk iM16 (jm_inL (by decide) (by decide)) kM16 (by unfold TN1 RC1; omega) (fun M17 u_12 iM17 kM17 => ?_)
      have b_13 : -2147483648 ≤ v13 ∧ v13 ≤ 2147483647 := hv13
      have q_14 : (M17 18 0 l1) = (M16 18 0 l1) := by rw [u_12]; exact jm_une_f (by decide)
      have q_15 : (M16 18 0 l1) = l2 := by rw [u_11]; exact jm_ueq
      exact wp_ret ⟨iM17, kM17, hv13, by omega⟩
set_option maxHeartbeats 4000000 in
set_option maxRecDepth 100000 in
theorem s_fX11_settle (fu : Nat) (hfu : 4000 ≤ fu) (M : jm_M) (iM : bI bx1 M) (l1 l2 l3 : Int) (hl1 : jm_in l1) (hl2 : jm_in l2) (hl3 : jm_in l3) : wp (fX11_settle fu M l1 l2 l3) (fun r M1 => bI bx1 M1 ∧ Kp TAM M M1 ∧ ((-2) ≤ r ∧ r ≤ 35)) := by
  have kM : Kp TAM M M := Kp.rf
  unfold fX11_settle
  refine wp_bp (s_fX2_has M iM l1 hl1 ) (fun v1 hv1 => ?_)
  have b_1 : -2147483648 ≤ l1 ∧ l1 ≤ 2147483647 := hl1
  have b_2 : 0 ≤ (M 2 0 5) ∧ (M 2 0 5) ≤ 6 := iM 2 0 5
  refine wp_ite (fun c_3 => ?_) (fun c_3 => ?_)
  · skip
    exact wp_ret ⟨iM, kM, by omega⟩
  · skip
    refine wp_bp (s_fX2_has M iM l2 hl2 ) (fun v5 hv5 => ?_)
    have b_4 : -2147483648 ≤ l2 ∧ l2 ≤ 2147483647 := hl2
    refine wp_ite (fun c_5 => ?_) (fun c_5 => ?_)
    · skip
      exact wp_ret ⟨iM, kM, by omega⟩
    · skip
      refine wp_ite (fun c_6 => ?_) (fun c_6 => ?_)
      · skip
        exact wp_ret ⟨iM, kM, by omega⟩
      · skip
        refine wp_bp (s_fX11_isDay M iM l3 hl3 ) (fun v10 hv10 => ?_)
        have b_7 : -2147483648 ≤ l3 ∧ l3 ≤ 2147483647 := hl3
        refine wp_ite (fun c_8 => ?_) (fun c_8 => ?_)
        · skip
          exact wp_ret ⟨iM, kM, by omega⟩
        · skip
          refine wp_T ⟨by omega, by omega⟩ ?_
          have b_10 : 0 ≤ (M 10 (l1 + 18) 3) ∧ (M 10 (l1 + 18) 3) ≤ 4 := jm_b10 (iM 10 (l1 + 18) 3) (Int.le_of_eq (lim1_18 (by omega) (by omega)))
          refine wp_ite (fun c_9 => ?_) (fun c_9 => ?_)
          · skip
            exact wp_ret ⟨iM, kM, by omega⟩
          · skip
            refine wp_T ⟨by omega, by omega⟩ ?_
            have b_12 : 0 ≤ (M 10 (l2 + 18) 3) ∧ (M 10 (l2 + 18) 3) ≤ 4 := jm_b10 (iM 10 (l2 + 18) 3) (Int.le_of_eq (lim1_18 (by omega) (by omega)))
            refine wp_ite (fun c_11 => ?_) (fun c_11 => ?_)
            · skip
              exact wp_ret ⟨iM, kM, by omega⟩
            · skip
              refine wp_bk (s_fX10_firstSettled fu hfu M iM l1 l2 l3 ⟨by omega, by omega⟩ ⟨by omega, by omega⟩ ⟨by omega, by omega⟩ ) (fun v20 M21 iM21 jM21 hv20 => ?_)
              have kM21 := kM.tr jM21 (fun _ _ _ h => h)
              exact wp_ret ⟨iM21, kM21, by omega⟩
set_option maxHeartbeats 4000000 in
set_option maxRecDepth 100000 in
theorem s_gX11_sign_16 (fu : Nat) (hfu : 4000 ≤ fu) (M0 : jm_M) (k16 : jm_M → Int → Int → jm_R) (N16 : Int) (hk16 : ∀ (l1 l2 : Int) (M : jm_M) (iM : bI bx1 M) (kM : Kp TZ1 M0 M) (hl1 : jm_in l1) (hl2 : (-13) ≤ l2 ∧ l2 ≤ 24) (z0 : 8 * M 0 0 7 + l2 = 8 * M0 0 0 7 + 24 ∧ -8 ≤ l2 ∧ l2 ≤ 24 ∧ M0 0 0 7 ≤ 96), l2 - (-14) < N16 → wp (k16 M l1 l2) (fun r M1 => bI bx1 M1 ∧ Kp TZ1 M0 M1 ∧ ((-1) ≤ r ∧ r ≤ 100 ∧ ((M0 0 0 7 ≤ 96 ∧ M1 0 0 7 = M0 0 0 7 + 4 ∧ r = M1 0 0 7) ∨ (96 < M0 0 0 7 ∧ r = -1 ∧ M1 0 0 7 = M0 0 0 7))))) : ∀ (l1 l2 : Int) (M : jm_M) (iM : bI bx1 M) (kM : Kp TZ1 M0 M) (hl1 : jm_in l1) (hl2 : (-13) ≤ l2 ∧ l2 ≤ 24) (z0 : 8 * M 0 0 7 + l2 = 8 * M0 0 0 7 + 24 ∧ -8 ≤ l2 ∧ l2 ≤ 24 ∧ M0 0 0 7 ≤ 96), l2 - (-14) < N16 + 1 → wp (gX11_sign_16 fu k16 M l1 l2) (fun r M1 => bI bx1 M1 ∧ Kp TZ1 M0 M1 ∧ ((-1) ≤ r ∧ r ≤ 100 ∧ ((M0 0 0 7 ≤ 96 ∧ M1 0 0 7 = M0 0 0 7 + 4 ∧ r = M1 0 0 7) ∨ (96 < M0 0 0 7 ∧ r = -1 ∧ M1 0 0 7 = M0 0 0 7)))) := by
  intro l1 l2 M iM kM hl1 hl2 z0 m16
  unfold gX11_sign_16
  refine wp_ite (fun c_1 => ?_) (fun c_1 => ?_)
  · skip
    have b_2 : 0 ≤ (M 0 0 7) ∧ (M 0 0 7) ≤ 100 := iM 0 0 7
    exact wp_ret ⟨iM, kM, by omega, by omega, by omega⟩
  · skip
    have b_3 : 0 ≤ (M 0 0 7) ∧ (M 0 0 7) ≤ 100 := iM 0 0 7
    refine wp_T ⟨by omega, by omega⟩ ?_
    refine wp_sk iM (jm_and_in _ _) kM (by unfold TZ1 RC1; omega) (fun M5 u_4 iM5 kM5 => ?_)
    have q_5 : (M5 0 0 7) = (M 0 0 7) := by rw [u_4]; exact jm_une_f (by decide)
    have r_6 : (jm_w ((M5 0 0 7) + 1)) = (jm_w ((M 0 0 7) + 1)) := congrArg jm_w (by omega)
    have w_7 : (jm_w ((M 0 0 7) + 1)) = ((M 0 0 7) + 1) := jm_wid (by omega) (by omega)
    refine wp_sk iM5 (show 0 ≤ (jm_w ((M5 0 0 7) + 1)) ∧ (jm_w ((M5 0 0 7) + 1)) ≤ 100 by omega) kM5 (by unfold TZ1 RC1; omega) (fun M7 u_8 iM7 kM7 => ?_)
    have w_9 : (jm_w (l2 + (-8))) = (l2 + (-8)) := jm_wid (by omega) (by omega)
    refine wp_e (by exact (jm_w_in _)) (fun v8 e_10 hv8 => ?_)
    have b_11 : -2147483648 ≤ v8 ∧ v8 ≤ 2147483647 := hv8
    have b_12 : -2147483648 ≤ l1 ∧ l1 ≤ 2147483647 := hl1
    have q_13 : (M7 0 0 7) = (jm_w ((M5 0 0 7) + 1)) := by rw [u_8]; exact jm_ueq
    exact hk16 l1 v8 M7 iM7 kM7 hl1 ⟨by omega, by omega⟩ (by omega) (by omega)
set_option maxHeartbeats 4000000 in
set_option maxRecDepth 100000 in
theorem s_fX11_sign_16 (fu : Nat) (hfu : 4000 ≤ fu) (M0 : jm_M) : ∀ (n : Nat) (l1 l2 : Int) (M : jm_M) (iM : bI bx1 M) (kM : Kp TZ1 M0 M) (hl1 : jm_in l1) (hl2 : (-13) ≤ l2 ∧ l2 ≤ 24) (z0 : 8 * M 0 0 7 + l2 = 8 * M0 0 0 7 + 24 ∧ -8 ≤ l2 ∧ l2 ≤ 24 ∧ M0 0 0 7 ≤ 96), l2 - (-14) < (n : Int) → wp (fX11_sign_16 fu  n M l1 l2) (fun r M1 => bI bx1 M1 ∧ Kp TZ1 M0 M1 ∧ ((-1) ≤ r ∧ r ≤ 100 ∧ ((M0 0 0 7 ≤ 96 ∧ M1 0 0 7 = M0 0 0 7 + 4 ∧ r = M1 0 0 7) ∨ (96 < M0 0 0 7 ∧ r = -1 ∧ M1 0 0 7 = M0 0 0 7)))) := by
  intro n
  induction n with
  | zero => intro l1 l2 M iM kM hl1 hl2 z0 hm; exfalso; omega
  | succ n ih =>
    intro l1 l2 M iM kM hl1 hl2 z0 hm
    exact s_gX11_sign_16 fu hfu M0 (fX11_sign_16 fu  n) (n : Int) ih l1 l2 M iM kM hl1 hl2 z0 (by omega)
set_option maxHeartbeats 4000000 in
set_option maxRecDepth 100000 in
theorem s_fX11_sign (fu : Nat) (hfu : 4000 ≤ fu) (M : jm_M) (iM : bI bx1 M) (l1 : Int) (hl1 : jm_in l1) : wp (fX11_sign fu M l1) (fun r M1 => bI bx1 M1 ∧ Kp TZ1 M M1 ∧ ((-1) ≤ r ∧ r ≤ 100 ∧ ((M 0 0 7 ≤ 96 ∧ M1 0 0 7 = M 0 0 7 + 4 ∧ r = M1 0 0 7) ∨ (96 < M 0 0 7 ∧ r = -1 ∧ M1 0 0 7 = M 0 0 7)))) := by
  have kM : Kp TZ1 M M := Kp.rf
  unfold fX11_sign
  have b_2 : 0 ≤ (M 0 0 7) ∧ (M 0 0 7) ≤ 100 := iM 0 0 7
  have w_3 : (jm_w ((M 0 0 7) + 4)) = ((M 0 0 7) + 4) := jm_wid (by omega) (by omega)
  refine wp_ite (fun c_1 => ?_) (fun c_1 => ?_)
  · skip
    have b_4 : -2147483648 ≤ l1 ∧ l1 ≤ 2147483647 := hl1
    exact s_fX11_sign_16 fu hfu M    fu l1 24 M iM kM hl1 ⟨by omega, by omega⟩ (by omega)  (by omega)
  · skip
    exact wp_ret ⟨iM, kM, by omega, by omega, by omega⟩
set_option maxHeartbeats 4000000 in
set_option maxRecDepth 100000 in
theorem s_fX11_stop (M : jm_M) (iM : bI bx1 M) (l1 l2 l3 l4 : Int) (hl1 : jm_in l1) (hl2 : jm_in l2) (hl3 : jm_in l3) (hl4 : jm_in l4) : wp (fX11_stop M l1 l2 l3 l4) (fun r M1 => bI bx1 M1 ∧ Kp (TM1 (l1 + 12)) M M1 ∧ ((-1) ≤ r ∧ r ≤ 30 ∧ ((r = -1 ∧ ¬ (0 ≤ l1 ∧ l1 < M 2 0 5 ∧ l1 < 6 ∧ 0 ≤ l2 ∧ l2 ≤ M 1 0 1 - 2 ∧ -1 ≤ l3 ∧ l3 ≤ 3 ∧ 0 ≤ l4 ∧ l4 ≤ 200 ∧ M 10 (l1 + 12) 3 < lim1 (l1 + 12)) ∧ M1 10 (l1 + 12) 3 = M 10 (l1 + 12) 3) ∨ ((0 ≤ l1 ∧ l1 < M 2 0 5 ∧ l1 < 6 ∧ 0 ≤ l2 ∧ l2 ≤ M 1 0 1 - 2 ∧ -1 ≤ l3 ∧ l3 ≤ 3 ∧ 0 ≤ l4 ∧ l4 ≤ 200) ∧ M 10 (l1 + 12) 3 < lim1 (l1 + 12) ∧ M1 10 (l1 + 12) 3 = M 10 (l1 + 12) 3 + 1 ∧ r = M1 10 (l1 + 12) 3)))) := by
  have kM : Kp (TM1 (l1 + 12)) M M := Kp.rf
  unfold fX11_stop
  refine wp_bp (s_fX2_has M iM l1 hl1 ) (fun v1 hv1 => ?_)
  have b_1 : -2147483648 ≤ l1 ∧ l1 ≤ 2147483647 := hl1
  have b_2 : 0 ≤ (M 2 0 5) ∧ (M 2 0 5) ≤ 6 := iM 2 0 5
  refine wp_ite (fun c_3 => ?_) (fun c_3 => ?_)
  · skip
    have b_4 : 0 ≤ (M 10 (l1 + 12) 3) ∧ (M 10 (l1 + 12) 3) ≤ 30 := jm_b10 (iM 10 (l1 + 12) 3) (lim1_any _).2
    exact wp_ret ⟨iM, kM, by omega, by omega, by omega⟩
  · skip
    refine wp_bp (s_fX11_isWithin M iM l2 0 (jm_w ((M 1 0 1) - 2)) hl2 (jm_inL (by decide) (by decide)) (jm_w_in _) ) (fun v6 hv6 => ?_)
    have b_5 : -2147483648 ≤ l2 ∧ l2 ≤ 2147483647 := hl2
    have b_6 : 1 ≤ (M 1 0 1) ∧ (M 1 0 1) ≤ 12 := iM 1 0 1
    have w_7 : (jm_w ((M 1 0 1) - 2)) = ((M 1 0 1) - 2) := jm_wid (by omega) (by omega)
    refine wp_ite (fun c_8 => ?_) (fun c_8 => ?_)
    · skip
      have b_9 : 0 ≤ (M 10 (l1 + 12) 3) ∧ (M 10 (l1 + 12) 3) ≤ 5 := jm_b10 (iM 10 (l1 + 12) 3) (Int.le_of_eq (lim1_12 (by omega) (by omega)))
      exact wp_ret ⟨iM, kM, by omega, by omega, by omega⟩
    · skip
      refine wp_bp (s_fX11_isWithin M iM l3 (-1) 3 hl3 (jm_inL (by decide) (by decide)) (jm_inL (by decide) (by decide)) ) (fun v10 hv10 => ?_)
      have b_10 : -2147483648 ≤ l3 ∧ l3 ≤ 2147483647 := hl3
      refine wp_ite (fun c_11 => ?_) (fun c_11 => ?_)
      · skip
        have b_12 : 0 ≤ (M 10 (l1 + 12) 3) ∧ (M 10 (l1 + 12) 3) ≤ 5 := jm_b10 (iM 10 (l1 + 12) 3) (Int.le_of_eq (lim1_12 (by omega) (by omega)))
        exact wp_ret ⟨iM, kM, by omega, by omega, by omega⟩
      · skip
        refine wp_bp (s_fX11_isWithin M iM l4 0 200 hl4 (jm_inL (by decide) (by decide)) (jm_inL (by decide) (by decide)) ) (fun v14 hv14 => ?_)
        have b_13 : -2147483648 ≤ l4 ∧ l4 ≤ 2147483647 := hl4
        refine wp_ite (fun c_14 => ?_) (fun c_14 => ?_)
        · skip
          have b_15 : 0 ≤ (M 10 (l1 + 12) 3) ∧ (M 10 (l1 + 12) 3) ≤ 5 := jm_b10 (iM 10 (l1 + 12) 3) (Int.le_of_eq (lim1_12 (by omega) (by omega)))
          exact wp_ret ⟨iM, kM, by omega, by omega, by omega⟩
        · skip
          refine wp_sk iM (jm_inL (by decide) (by decide)) kM (by unfold TM1 RC1; omega) (fun M18 u_16 iM18 kM18 => ?_)
          refine wp_T ⟨by omega, by omega⟩ ?_
          have q_17 : (M18 10 (l1 + 12) 3) = (M 10 (l1 + 12) 3) := by rw [u_16]; exact jm_une_f (by decide)
          have b_18 : 0 ≤ (M 10 (l1 + 12) 3) ∧ (M 10 (l1 + 12) 3) ≤ 5 := jm_b10 (iM 10 (l1 + 12) 3) (Int.le_of_eq (lim1_12 (by omega) (by omega)))
          refine wp_bk (s_fX7_push M18 iM18 (l1 + 12) l2 l3 l4 0 ⟨by omega, by omega⟩ hl2 hl3 hl4 (jm_inL (by decide) (by decide)) ) (fun v20 M21 iM21 jM21 hv20 => ?_)
          have kM21 := kM18.tr jM21 tt_TM1_TPU
          have b_19 : 0 ≤ (M21 10 (l1 + 12) 3) ∧ (M21 10 (l1 + 12) 3) ≤ 5 := jm_b10 (iM21 10 (l1 + 12) 3) (Int.le_of_eq (lim1_12 (by omega) (by omega)))
          exact wp_ret ⟨iM21, kM21, by omega, by omega, by omega⟩
set_option maxHeartbeats 4000000 in
set_option maxRecDepth 100000 in
theorem s_fX11_sum (fu : Nat) (hfu : 4000 ≤ fu) (M : jm_M) (iM : bI bx1 M) (l1 l2 : Int) (hl1 : jm_in l1) (hl2 : jm_in l2) : wp (fX11_sum fu M l1 l2) (fun r M1 => bI bx1 M1 ∧ Kp TA M M1 ∧ ((-2147483648) ≤ r ∧ r ≤ 4294967296)) := by
  have kM : Kp TA M M := Kp.rf
  unfold fX11_sum
  refine wp_bp (s_fX2_has M iM l1 hl1 ) (fun v1 hv1 => ?_)
  have b_1 : -2147483648 ≤ l1 ∧ l1 ≤ 2147483647 := hl1
  have b_2 : 0 ≤ (M 2 0 5) ∧ (M 2 0 5) ≤ 6 := iM 2 0 5
  refine wp_ite (fun c_3 => ?_) (fun c_3 => ?_)
  · skip
    exact wp_ret ⟨iM, kM, by omega⟩
  · skip
    refine wp_bp (s_fX11_isDay M iM l2 hl2 ) (fun v5 hv5 => ?_)
    have b_4 : -2147483648 ≤ l2 ∧ l2 ≤ 2147483647 := hl2
    refine wp_ite (fun c_5 => ?_) (fun c_5 => ?_)
    · skip
      exact wp_ret ⟨iM, kM, by omega⟩
    · skip
      refine wp_bk (s_fX2_reckon fu hfu M iM   ) (fun v9 M10 iM10 jM10 hv9 => ?_)
      have kM10 := kM.tr jM10 (fun _ _ _ h => h)
      refine wp_bk (s_fX5_reckonFor fu hfu M10 iM10 l2 ⟨by omega, by omega⟩ ) (fun v11 M12 iM12 jM12 hv11 => ?_)
      have kM12 := kM10.tr jM12 tt_TA_TJ
      refine wp_T ⟨by omega, by omega⟩ ?_
      have b_7 : (-2147483648) ≤ (M12 36 0 l1) ∧ (M12 36 0 l1) ≤ 2147483647 := iM12 36 0 l1
      refine wp_ite (fun c_6 => ?_) (fun c_6 => ?_)
      · skip
        exact wp_ret ⟨iM12, kM12, by omega⟩
      · skip
        refine wp_T ⟨by omega, by omega⟩ ?_
        have b_8 : (-2147483648) ≤ (M12 38 0 l1) ∧ (M12 38 0 l1) ≤ 2147483647 := iM12 38 0 l1
        exact wp_ret ⟨iM12, kM12, by omega⟩
set_option maxHeartbeats 4000000 in
set_option maxRecDepth 100000 in
theorem s_fX11_tyre (M : jm_M) (iM : bI bx1 M) (l1 l2 l3 : Int) (hl1 : jm_in l1) (hl2 : jm_in l2) (hl3 : jm_in l3) : wp (fX11_tyre M l1 l2 l3) (fun r M1 => bI bx1 M1 ∧ Kp (TM1 l1) M M1 ∧ ((-2) ≤ r ∧ r ≤ 29 ∧ ((r = -1 ∧ ¬ (0 ≤ l1 ∧ l1 < M 2 0 5 ∧ l1 < 6 ∧ 0 ≤ l2 ∧ l2 < 4 ∧ 0 ≤ l3 ∧ l3 ≤ 100 ∧ M 10 l1 3 < lim1 l1) ∧ M1 10 l1 3 = M 10 l1 3) ∨ ((0 ≤ l1 ∧ l1 < M 2 0 5 ∧ l1 < 6 ∧ 0 ≤ l2 ∧ l2 < 4 ∧ 0 ≤ l3 ∧ l3 ≤ 100) ∧ M 10 l1 3 < lim1 l1 ∧ M1 10 l1 3 = M 10 l1 3 + 1 ∧ r = M1 10 l1 3 - 1)))) := by
  have kM : Kp (TM1 l1) M M := Kp.rf
  unfold fX11_tyre
  refine wp_bp (s_fX2_has M iM l1 hl1 ) (fun v1 hv1 => ?_)
  have b_1 : -2147483648 ≤ l1 ∧ l1 ≤ 2147483647 := hl1
  have b_2 : 0 ≤ (M 2 0 5) ∧ (M 2 0 5) ≤ 6 := iM 2 0 5
  refine wp_ite (fun c_3 => ?_) (fun c_3 => ?_)
  · skip
    have b_4 : 0 ≤ (M 10 l1 3) ∧ (M 10 l1 3) ≤ 30 := jm_b10 (iM 10 l1 3) (lim1_any _).2
    exact wp_ret ⟨iM, kM, by omega, by omega, by omega⟩
  · skip
    refine wp_bp (s_fX11_isIndex M iM l2 4 hl2 ⟨by omega, by omega⟩ ) (fun v5 hv5 => ?_)
    have b_5 : -2147483648 ≤ l2 ∧ l2 ≤ 2147483647 := hl2
    refine wp_ite (fun c_6 => ?_) (fun c_6 => ?_)
    · skip
      have b_7 : 0 ≤ (M 10 l1 3) ∧ (M 10 l1 3) ≤ 4 := jm_b10 (iM 10 l1 3) (Int.le_of_eq (lim1_0 (by omega) (by omega)))
      exact wp_ret ⟨iM, kM, by omega, by omega, by omega⟩
    · skip
      refine wp_bp (s_fX11_isWithin M iM l3 0 100 hl3 (jm_inL (by decide) (by decide)) (jm_inL (by decide) (by decide)) ) (fun v9 hv9 => ?_)
      have b_8 : -2147483648 ≤ l3 ∧ l3 ≤ 2147483647 := hl3
      refine wp_ite (fun c_9 => ?_) (fun c_9 => ?_)
      · skip
        have b_10 : 0 ≤ (M 10 l1 3) ∧ (M 10 l1 3) ≤ 4 := jm_b10 (iM 10 l1 3) (Int.le_of_eq (lim1_0 (by omega) (by omega)))
        exact wp_ret ⟨iM, kM, by omega, by omega, by omega⟩
      · skip
        refine wp_T ⟨by omega, by omega⟩ ?_
        refine wp_bp (s_fX7_isFull M iM l1 ⟨by omega, by omega⟩ ) (fun v14 hv14 => ?_)
        have b_11 : (M 10 l1 0) = lim1 l1 ∧ 2 ≤ lim1 l1 ∧ lim1 l1 ≤ 4 := ⟨iM 10 l1 0, (lim1_any _).1, (Int.le_of_eq (lim1_0 (by omega) (by omega)))⟩
        have b_12 : 0 ≤ (M 10 l1 3) ∧ (M 10 l1 3) ≤ 4 := jm_b10 (iM 10 l1 3) (Int.le_of_eq (lim1_0 (by omega) (by omega)))
        refine wp_ite (fun c_13 => ?_) (fun c_13 => ?_)
        · skip
          refine wp_sk iM (jm_inL (by decide) (by decide)) kM (by unfold TM1 RC1; omega) (fun M18 u_14 iM18 kM18 => ?_)
          have q_15 : (M18 10 l1 3) = (M 10 l1 3) := by rw [u_14]; exact jm_une_f (by decide)
          refine wp_bk (s_fX7_push M18 iM18 l1 l2 l3 0 0 ⟨by omega, by omega⟩ hl2 hl3 (jm_inL (by decide) (by decide)) (jm_inL (by decide) (by decide)) ) (fun v19 M20 iM20 jM20 hv19 => ?_)
          have kM20 := kM18.tr jM20 tt_TM1_TPU
          have w_16 : (jm_w (v19 - 1)) = (v19 - 1) := jm_wid (by omega) (by omega)
          have b_17 : 0 ≤ (M20 10 l1 3) ∧ (M20 10 l1 3) ≤ 4 := jm_b10 (iM20 10 l1 3) (Int.le_of_eq (lim1_0 (by omega) (by omega)))
          exact wp_ret ⟨iM20, kM20, by omega, by omega, by omega⟩
        · skip
          exact wp_ret ⟨iM, kM, by omega, by omega, by omega⟩
set_option maxHeartbeats 4000000 in
set_option maxRecDepth 100000 in
theorem s_fX11_tyres (M : jm_M) (iM : bI bx1 M) (l1 l2 l3 : Int) (hl1 : jm_in l1) (hl2 : jm_in l2) (hl3 : jm_in l3) : wp (fX11_tyres M l1 l2 l3) (fun r M1 => bI bx1 M1 ∧ Kp (TN1 17 (jm_w ((jm_w (l1 * 6)) + l2))) M M1 ∧ (jm_in r ∧ (((0 ≤ l1 ∧ l1 < 4 ∧ 0 ≤ l2 ∧ l2 < 6 ∧ 0 ≤ l3 ∧ l3 ≤ jm_z 4 l2) ∧ r = M 17 0 (jm_w ((jm_w (l1 * 6)) + l2)) ∧ M1 17 0 (jm_w ((jm_w (l1 * 6)) + l2)) = l3) ∨ (¬ (0 ≤ l1 ∧ l1 < 4 ∧ 0 ≤ l2 ∧ l2 < 6 ∧ 0 ≤ l3 ∧ l3 ≤ jm_z 4 l2) ∧ r = -1 ∧ M1 17 0 (jm_w ((jm_w (l1 * 6)) + l2)) = M 17 0 (jm_w ((jm_w (l1 * 6)) + l2)))))) := by
  have kM : Kp (TN1 17 (jm_w ((jm_w (l1 * 6)) + l2))) M M := Kp.rf
  unfold fX11_tyres
  refine wp_bp (s_fX11_isIndex M iM l1 4 hl1 ⟨by omega, by omega⟩ ) (fun v1 hv1 => ?_)
  have b_1 : -2147483648 ≤ l1 ∧ l1 ≤ 2147483647 := hl1
  refine wp_ite (fun c_2 => ?_) (fun c_2 => ?_)
  · skip
    have w_3 : -2147483648 ≤ (jm_w (l1 * 6)) ∧ (jm_w (l1 * 6)) ≤ 2147483647 := jm_w_in _
    have b_4 : -2147483648 ≤ l2 ∧ l2 ≤ 2147483647 := hl2
    have w_5 : -2147483648 ≤ (jm_w ((jm_w (l1 * 6)) + l2)) ∧ (jm_w ((jm_w (l1 * 6)) + l2)) ≤ 2147483647 := jm_w_in _
    have b_6 : (-2147483648) ≤ (M 17 0 (jm_w ((jm_w (l1 * 6)) + l2))) ∧ (M 17 0 (jm_w ((jm_w (l1 * 6)) + l2))) ≤ 2147483647 := iM 17 0 (jm_w ((jm_w (l1 * 6)) + l2))
    exact wp_ret ⟨iM, kM, (jm_inL (by decide) (by decide)), by omega⟩
  · skip
    refine wp_bp (s_fX11_isIndex M iM l2 6 hl2 ⟨by omega, by omega⟩ ) (fun v5 hv5 => ?_)
    have b_7 : -2147483648 ≤ l2 ∧ l2 ≤ 2147483647 := hl2
    refine wp_ite (fun c_8 => ?_) (fun c_8 => ?_)
    · skip
      have w_9 : (jm_w (l1 * 6)) = (l1 * 6) := jm_wid (by omega) (by omega)
      have w_10 : -2147483648 ≤ (jm_w ((jm_w (l1 * 6)) + l2)) ∧ (jm_w ((jm_w (l1 * 6)) + l2)) ≤ 2147483647 := jm_w_in _
      have b_11 : (-2147483648) ≤ (M 17 0 (jm_w ((jm_w (l1 * 6)) + l2))) ∧ (M 17 0 (jm_w ((jm_w (l1 * 6)) + l2))) ≤ 2147483647 := iM 17 0 (jm_w ((jm_w (l1 * 6)) + l2))
      exact wp_ret ⟨iM, kM, (jm_inL (by decide) (by decide)), by omega⟩
    · skip
      refine wp_T ⟨by omega, by omega⟩ ?_
      refine wp_bp (s_fX11_isWithin M iM l3 0 (jm_z 4 l2) hl3 (jm_inL (by decide) (by decide)) (jm_z_in _ _) ) (fun v10 hv10 => ?_)
      have b_12 : -2147483648 ≤ l3 ∧ l3 ≤ 2147483647 := hl3
      have f_13 : -2147483648 ≤ (jm_z 4 l2) ∧ (jm_z 4 l2) ≤ 2147483647 := jm_z_in _ _
      refine wp_ite (fun c_14 => ?_) (fun c_14 => ?_)
      · skip
        have w_15 : (jm_w (l1 * 6)) = (l1 * 6) := jm_wid (by omega) (by omega)
        have w_16 : (jm_w ((jm_w (l1 * 6)) + l2)) = ((jm_w (l1 * 6)) + l2) := jm_wid (by omega) (by omega)
        have b_17 : (-2147483648) ≤ (M 17 0 (jm_w ((jm_w (l1 * 6)) + l2))) ∧ (M 17 0 (jm_w ((jm_w (l1 * 6)) + l2))) ≤ 2147483647 := iM 17 0 (jm_w ((jm_w (l1 * 6)) + l2))
        exact wp_ret ⟨iM, kM, (jm_inL (by decide) (by decide)), by omega⟩
      · skip
        refine wp_bp (s_fX9_tyreNumber M iM l1 l2 hl1 ⟨by omega, by omega⟩ ) (fun v14 hv14 => ?_)
        have hv14b := hv14.1
        have w_18 : (jm_w (l1 * 6)) = (l1 * 6) := jm_wid (by omega) (by omega)
        have w_19 : (jm_w ((jm_w (l1 * 6)) + l2)) = ((jm_w (l1 * 6)) + l2) := jm_wid (by omega) (by omega)
        refine wp_T ⟨by omega, by omega⟩ ?_
        refine wp_sk iM hl3 kM (by unfold TN1 RC1; omega) (fun M18 u_20 iM18 kM18 => ?_)
        refine wp_sk iM18 (jm_inL (by decide) (by decide)) kM18 (by unfold TN1 RC1; omega) (fun M19 u_21 iM19 kM19 => ?_)
        have b_22 : -2147483648 ≤ v14 ∧ v14 ≤ 2147483647 := hv14b
        have q_23 : (M19 17 0 (jm_w ((jm_w (l1 * 6)) + l2))) = (M18 17 0 (jm_w ((jm_w (l1 * 6)) + l2))) := by rw [u_21]; exact jm_une_f (by decide)
        have q_24 : (M18 17 0 (jm_w ((jm_w (l1 * 6)) + l2))) = l3 := by rw [u_20]; exact jm_ueq
        exact wp_ret ⟨iM19, kM19, hv14b, by omega⟩
set_option maxHeartbeats 4000000 in
set_option maxRecDepth 100000 in
theorem s_fX11_unplan (M : jm_M) (iM : bI bx1 M) (l1 : Int) (hl1 : jm_in l1) : wp (fX11_unplan M l1) (fun r M1 => bI bx1 M1 ∧ Kp TU1 M M1 ∧ (0 ≤ r ∧ r ≤ 1)) := by
  have kM : Kp TU1 M M := Kp.rf
  unfold fX11_unplan
  refine wp_bp (s_fX2_has M iM l1 hl1 ) (fun v1 hv1 => ?_)
  have b_1 : -2147483648 ≤ l1 ∧ l1 ≤ 2147483647 := hl1
  have b_2 : 0 ≤ (M 2 0 5) ∧ (M 2 0 5) ≤ 6 := iM 2 0 5
  refine wp_ite (fun c_3 => ?_) (fun c_3 => ?_)
  · skip
    exact wp_ret ⟨iM, kM, by omega⟩
  · skip
    refine wp_T ⟨by omega, by omega⟩ ?_
    have b_5 : (-2147483648) ≤ (M 8 l1 12) ∧ (M 8 l1 12) ≤ 2147483647 := iM 8 l1 12
    refine wp_ite (fun c_4 => ?_) (fun c_4 => ?_)
    · skip
      exact wp_ret ⟨iM, kM, by omega⟩
    · skip
      refine wp_T ⟨by omega, by omega⟩ ?_
      refine wp_sk iM (jm_inL (by decide) (by decide)) kM (by unfold TU1 RC1; omega) (fun M9 u_6 iM9 kM9 => ?_)
      refine wp_sk iM9 (jm_inL (by decide) (by decide)) kM9 (by unfold TU1 RC1; omega) (fun M10 u_7 iM10 kM10 => ?_)
      exact wp_ret ⟨iM10, kM10, by omega⟩
set_option maxHeartbeats 4000000 in
set_option maxRecDepth 100000 in
theorem s_fX11_waited (fu : Nat) (hfu : 4000 ≤ fu) (M : jm_M) (iM : bI bx1 M) (l1 : Int) (hl1 : jm_in l1) : wp (fX11_waited fu M l1) (fun r M1 => bI bx1 M1 ∧ Kp TA M M1 ∧ (jm_in r)) := by
  have kM : Kp TA M M := Kp.rf
  unfold fX11_waited
  refine wp_bp (s_fX2_has M iM l1 hl1 ) (fun v1 hv1 => ?_)
  have b_1 : -2147483648 ≤ l1 ∧ l1 ≤ 2147483647 := hl1
  have b_2 : 0 ≤ (M 2 0 5) ∧ (M 2 0 5) ≤ 6 := iM 2 0 5
  refine wp_ite (fun c_3 => ?_) (fun c_3 => ?_)
  · skip
    exact wp_ret ⟨iM, kM, (jm_inL (by decide) (by decide))⟩
  · skip
    refine wp_bk (s_fX2_reckon fu hfu M iM   ) (fun v5 M6 iM6 jM6 hv5 => ?_)
    have kM6 := kM.tr jM6 (fun _ _ _ h => h)
    refine wp_T ⟨by omega, by omega⟩ ?_
    have b_4 : (-2147483648) ≤ (M6 9 l1 12) ∧ (M6 9 l1 12) ≤ 2147483647 := iM6 9 l1 12
    exact wp_ret ⟨iM6, kM6, (iM6 9 l1 12)⟩
set_option maxHeartbeats 4000000 in
set_option maxRecDepth 100000 in
theorem s_gX2_endedByWall_22 (fu : Nat) (hfu : 4000 ≤ fu) (M : jm_M) (iM : bI bx1 M) (k22 : jm_M → Int → Int → Int → jm_R) (N22 : Int) (hk22 : ∀ (l1 l2 l3 : Int) (hl1 : 0 ≤ l1 ∧ l1 ≤ 5) (hl2 : 0 ≤ l2 ∧ l2 ≤ 2147483647) (hl3 : (-1) ≤ l3 ∧ l3 ≤ 59), l3 - (-2) < N22 → wp (k22 M l1 l2 l3) (fun r M1 => M1 = M ∧ (0 ≤ r ∧ r ≤ 60))) : ∀ (l1 l2 l3 : Int) (hl1 : 0 ≤ l1 ∧ l1 ≤ 5) (hl2 : 0 ≤ l2 ∧ l2 ≤ 2147483647) (hl3 : (-1) ≤ l3 ∧ l3 ≤ 59), l3 - (-2) < N22 + 1 → wp (gX2_endedByWall_22 fu k22 M l1 l2 l3) (fun r M1 => M1 = M ∧ (0 ≤ r ∧ r ≤ 60)) := by
  intro l1 l2 l3 hl1 hl2 hl3 m22
  unfold gX2_endedByWall_22
  refine wp_ite (fun c_1 => ?_) (fun c_1 => ?_)
  · skip
    exact wp_ret ⟨rfl, by omega⟩
  · skip
    refine wp_bp (s_fX9_tells M iM l3 ⟨by omega, by omega⟩ ) (fun v2 hv2 => ?_)
    refine wp_ite (fun c_2 => ?_) (fun c_2 => ?_)
    · skip
      have w_3 : (jm_w (l3 + (-1))) = (l3 + (-1)) := jm_wid (by omega) (by omega)
      refine wp_e (by exact (jm_w_in _)) (fun v6 e_4 hv6 => ?_)
      have b_5 : -2147483648 ≤ v6 ∧ v6 ≤ 2147483647 := hv6
      exact hk22 l1 l2 v6  ⟨by omega, by omega⟩ ⟨by omega, by omega⟩ ⟨by omega, by omega⟩  (by omega)
    · skip
      refine wp_T ⟨by omega, by omega⟩ ?_
      refine wp_bp (s_fX6_timeAt M iM l1 l3 ⟨by omega, by omega⟩ ⟨by omega, by omega⟩ ) (fun v9 hv9 => ?_)
      have b_7 : -2147483648 ≤ v9 ∧ v9 ≤ 2147483647 := hv9
      refine wp_ite (fun c_6 => ?_) (fun c_6 => ?_)
      · skip
        have w_8 : (jm_w (l3 + (-1))) = (l3 + (-1)) := jm_wid (by omega) (by omega)
        refine wp_e (by exact (jm_w_in _)) (fun v13 e_9 hv13 => ?_)
        have b_10 : -2147483648 ≤ v13 ∧ v13 ≤ 2147483647 := hv13
        exact hk22 l1 l2 v13  ⟨by omega, by omega⟩ ⟨by omega, by omega⟩ ⟨by omega, by omega⟩  (by omega)
      · skip
        have w_11 : (jm_w (l3 + 1)) = (l3 + 1) := jm_wid (by omega) (by omega)
        exact wp_ret ⟨rfl, by omega⟩
set_option maxHeartbeats 4000000 in
set_option maxRecDepth 100000 in
theorem s_fX2_endedByWall_22 (fu : Nat) (hfu : 4000 ≤ fu) (M : jm_M) (iM : bI bx1 M) : ∀ (n : Nat) (l1 l2 l3 : Int) (hl1 : 0 ≤ l1 ∧ l1 ≤ 5) (hl2 : 0 ≤ l2 ∧ l2 ≤ 2147483647) (hl3 : (-1) ≤ l3 ∧ l3 ≤ 59), l3 - (-2) < (n : Int) → wp (fX2_endedByWall_22 fu  n M l1 l2 l3) (fun r M1 => M1 = M ∧ (0 ≤ r ∧ r ≤ 60)) := by
  intro n
  induction n with
  | zero => intro l1 l2 l3 hl1 hl2 hl3 hm; exfalso; omega
  | succ n ih =>
    intro l1 l2 l3 hl1 hl2 hl3 hm
    exact s_gX2_endedByWall_22 fu hfu M iM (fX2_endedByWall_22 fu  n) (n : Int) ih l1 l2 l3 hl1 hl2 hl3 (by omega)
set_option maxHeartbeats 4000000 in
set_option maxRecDepth 100000 in
theorem s_fX2_endedByWall (fu : Nat) (hfu : 4000 ≤ fu) (M : jm_M) (iM : bI bx1 M) (l1 l2 : Int) (hl1 : 0 ≤ l1 ∧ l1 ≤ 5) (hl2 : 0 ≤ l2 ∧ l2 ≤ 2147483647) : wp (fX2_endedByWall fu M l1 l2) (fun r M1 => M1 = M ∧ (0 ≤ r ∧ r ≤ 60)) := by
  unfold fX2_endedByWall
  refine wp_bp (s_fX2_has M iM l1 (jm_inL (by omega) (by omega)) ) (fun v1 hv1 => ?_)
  have b_1 : 0 ≤ (M 2 0 5) ∧ (M 2 0 5) ≤ 6 := iM 2 0 5
  refine wp_ite (fun c_2 => ?_) (fun c_2 => ?_)
  · skip
    exact wp_ret ⟨rfl, by omega⟩
  · skip
    refine wp_T ⟨by omega, by omega⟩ ?_
    have b_3 : 0 ≤ (M 9 l1 2) ∧ (M 9 l1 2) ≤ 60 := iM 9 l1 2
    have w_4 : (jm_w ((M 9 l1 2) - 1)) = ((M 9 l1 2) - 1) := jm_wid (by omega) (by omega)
    refine wp_e (by exact (jm_w_in _)) (fun v7 e_5 hv7 => ?_)
    have b_6 : -2147483648 ≤ v7 ∧ v7 ≤ 2147483647 := hv7
    exact s_fX2_endedByWall_22 fu hfu M iM    fu l1 l2 v7  ⟨by omega, by omega⟩ ⟨by omega, by omega⟩ ⟨by omega, by omega⟩   (by omega)
set_option maxHeartbeats 4000000 in
set_option maxRecDepth 100000 in
theorem s_fX6_timeOrStart (M : jm_M) (iM : bI bx1 M) (r0 l1 : Int) (hr0 : 0 ≤ r0 ∧ r0 ≤ 5) (hl1 : (-1) ≤ l1 ∧ l1 ≤ 59) : wp (fX6_timeOrStart M r0 l1) (fun r M1 => M1 = M ∧ (jm_in r)) := by
  unfold fX6_timeOrStart
  have b_1 : 0 ≤ (M 9 r0 2) ∧ (M 9 r0 2) ≤ 60 := iM 9 r0 2
  refine wp_bp (s_fX11_isIndex M iM l1 (M 9 r0 2) (jm_inL (by omega) (by omega)) ⟨by omega, by omega⟩ ) (fun v2 hv2 => ?_)
  refine wp_ite (fun c_2 => ?_) (fun c_2 => ?_)
  · skip
    exact wp_ret ⟨rfl, (jm_inL (by decide) (by decide))⟩
  · skip
    refine wp_T ⟨by omega, by omega⟩ ?_
    have b_3 : (-2147483648) ≤ (M 30 r0 l1) ∧ (M 30 r0 l1) ≤ 2147483647 := iM 30 r0 l1
    exact wp_ret ⟨rfl, (iM 30 r0 l1)⟩
set_option maxHeartbeats 4000000 in
set_option maxRecDepth 100000 in
theorem s_gX11_wall_132 (fu : Nat) (hfu : 4000 ≤ fu) (M0 : jm_M) (k57 : jm_M → Int → Int → Int → Int → Int → Int → jm_R) (N57 : Int) (hk57 : ∀ (l1 l2 l3 l4 l5 l6 : Int) (M : jm_M) (iM : bI bx1 M) (kM : Kp TA M0 M) (hl1 : 0 ≤ l1 ∧ l1 ≤ 5) (hl2 : 0 ≤ l2 ∧ l2 ≤ 2147483647) (hl3 : 0 ≤ l3 ∧ l3 ≤ 60) (hl4 : jm_in l4) (hl5 : jm_in l5) (hl6 : 0 ≤ l6 ∧ l6 ≤ 6), 7 - l6 < N57 → wp (k57 M l1 l2 l3 l4 l5 l6) (fun r M1 => bI bx1 M1 ∧ Kp TA M0 M1 ∧ (jm_in r))) : ∀ (l1 l2 l3 l4 l5 l6 l7 s0 : Int) (M : jm_M) (iM : bI bx1 M) (kM : Kp TA M0 M) (hl1 : 0 ≤ l1 ∧ l1 ≤ 5) (hl2 : 0 ≤ l2 ∧ l2 ≤ 2147483647) (hl3 : 0 ≤ l3 ∧ l3 ≤ 60) (hl4 : jm_in l4) (hl5 : jm_in l5) (hl6 : 0 ≤ l6 ∧ l6 ≤ 5) (hl7 : 0 ≤ l7 ∧ l7 ≤ 60) (hs0 : 0 ≤ s0 ∧ s0 ≤ 1), 7 - l6 < N57 + 1 → wp (gX11_wall_132 fu k57 M l1 l2 l3 l4 l5 l6 l7 s0) (fun r M1 => bI bx1 M1 ∧ Kp TA M0 M1 ∧ (jm_in r)) := by
  intro l1 l2 l3 l4 l5 l6 l7 s0 M iM kM hl1 hl2 hl3 hl4 hl5 hl6 hl7 hs0 m57
  unfold gX11_wall_132
  refine wp_ite (fun c_1 => ?_) (fun c_1 => ?_)
  · skip
    have b_2 : -2147483648 ≤ l5 ∧ l5 ≤ 2147483647 := hl5
    have w_3 : -2147483648 ≤ (jm_w (l5 + 1)) ∧ (jm_w (l5 + 1)) ≤ 2147483647 := jm_w_in _
    refine wp_e (by exact (jm_w_in _)) (fun v2 e_4 hv2 => ?_)
    have w_5 : (jm_w (l6 + 1)) = (l6 + 1) := jm_wid (by omega) (by omega)
    refine wp_e (by exact (jm_w_in _)) (fun v4 e_6 hv4 => ?_)
    have b_7 : -2147483648 ≤ v4 ∧ v4 ≤ 2147483647 := hv4
    have b_8 : -2147483648 ≤ l4 ∧ l4 ≤ 2147483647 := hl4
    have b_9 : -2147483648 ≤ v2 ∧ v2 ≤ 2147483647 := hv2
    exact hk57 l1 l2 l3 l4 v2 v4 M iM kM ⟨by omega, by omega⟩ ⟨by omega, by omega⟩ ⟨by omega, by omega⟩ hl4 hv2 ⟨by omega, by omega⟩  (by omega)
  · skip
    refine wp_ite (fun c_10 => ?_) (fun c_10 => ?_)
    · skip
      refine wp_ite (fun c_11 => ?_) (fun c_11 => ?_)
      · skip
        have w_12 : (jm_w (l6 + 1)) = (l6 + 1) := jm_wid (by omega) (by omega)
        refine wp_e (by exact (jm_w_in _)) (fun v8 e_13 hv8 => ?_)
        have b_14 : -2147483648 ≤ v8 ∧ v8 ≤ 2147483647 := hv8
        have b_15 : -2147483648 ≤ l4 ∧ l4 ≤ 2147483647 := hl4
        have b_16 : -2147483648 ≤ l5 ∧ l5 ≤ 2147483647 := hl5
        exact hk57 l1 l2 l3 l4 l5 v8 M iM kM ⟨by omega, by omega⟩ ⟨by omega, by omega⟩ ⟨by omega, by omega⟩ hl4 hl5 ⟨by omega, by omega⟩  (by omega)
      · skip
        have b_17 : -2147483648 ≤ l5 ∧ l5 ≤ 2147483647 := hl5
        have w_18 : -2147483648 ≤ (jm_w (l5 + 1)) ∧ (jm_w (l5 + 1)) ≤ 2147483647 := jm_w_in _
        refine wp_e (by exact (jm_w_in _)) (fun v10 e_19 hv10 => ?_)
        have w_20 : (jm_w (l6 + 1)) = (l6 + 1) := jm_wid (by omega) (by omega)
        refine wp_e (by exact (jm_w_in _)) (fun v12 e_21 hv12 => ?_)
        have b_22 : -2147483648 ≤ v12 ∧ v12 ≤ 2147483647 := hv12
        have b_23 : -2147483648 ≤ l4 ∧ l4 ≤ 2147483647 := hl4
        have b_24 : -2147483648 ≤ v10 ∧ v10 ≤ 2147483647 := hv10
        exact hk57 l1 l2 l3 l4 v10 v12 M iM kM ⟨by omega, by omega⟩ ⟨by omega, by omega⟩ ⟨by omega, by omega⟩ hl4 hv10 ⟨by omega, by omega⟩  (by omega)
    · skip
      have w_25 : (jm_w (l6 + 1)) = (l6 + 1) := jm_wid (by omega) (by omega)
      refine wp_e (by exact (jm_w_in _)) (fun v14 e_26 hv14 => ?_)
      have b_27 : -2147483648 ≤ v14 ∧ v14 ≤ 2147483647 := hv14
      have b_28 : -2147483648 ≤ l4 ∧ l4 ≤ 2147483647 := hl4
      have b_29 : -2147483648 ≤ l5 ∧ l5 ≤ 2147483647 := hl5
      exact hk57 l1 l2 l3 l4 l5 v14 M iM kM ⟨by omega, by omega⟩ ⟨by omega, by omega⟩ ⟨by omega, by omega⟩ hl4 hl5 ⟨by omega, by omega⟩  (by omega)
set_option maxHeartbeats 4000000 in
set_option maxRecDepth 100000 in
theorem s_gX11_wall_57 (fu : Nat) (hfu : 4000 ≤ fu) (M0 : jm_M) (k57 : jm_M → Int → Int → Int → Int → Int → Int → jm_R) (N57 : Int) (hk57 : ∀ (l1 l2 l3 l4 l5 l6 : Int) (M : jm_M) (iM : bI bx1 M) (kM : Kp TA M0 M) (hl1 : 0 ≤ l1 ∧ l1 ≤ 5) (hl2 : 0 ≤ l2 ∧ l2 ≤ 2147483647) (hl3 : 0 ≤ l3 ∧ l3 ≤ 60) (hl4 : jm_in l4) (hl5 : jm_in l5) (hl6 : 0 ≤ l6 ∧ l6 ≤ 6), 7 - l6 < N57 → wp (k57 M l1 l2 l3 l4 l5 l6) (fun r M1 => bI bx1 M1 ∧ Kp TA M0 M1 ∧ (jm_in r))) : ∀ (l1 l2 l3 l4 l5 l6 : Int) (M : jm_M) (iM : bI bx1 M) (kM : Kp TA M0 M) (hl1 : 0 ≤ l1 ∧ l1 ≤ 5) (hl2 : 0 ≤ l2 ∧ l2 ≤ 2147483647) (hl3 : 0 ≤ l3 ∧ l3 ≤ 60) (hl4 : jm_in l4) (hl5 : jm_in l5) (hl6 : 0 ≤ l6 ∧ l6 ≤ 6), 7 - l6 < N57 + 1 → wp (gX11_wall_57 fu k57 M l1 l2 l3 l4 l5 l6) (fun r M1 => bI bx1 M1 ∧ Kp TA M0 M1 ∧ (jm_in r)) := by
  intro l1 l2 l3 l4 l5 l6 M iM kM hl1 hl2 hl3 hl4 hl5 hl6 m57
  unfold gX11_wall_57
  have b_2 : 0 ≤ (M 2 0 5) ∧ (M 2 0 5) ≤ 6 := iM 2 0 5
  refine wp_ite (fun c_1 => ?_) (fun c_1 => ?_)
  · skip
    have b_3 : -2147483648 ≤ l5 ∧ l5 ≤ 2147483647 := hl5
    exact wp_ret ⟨iM, kM, hl5⟩
  · skip
    refine wp_F (by omega) ?_
    refine wp_bp (s_fX2_endedByWall fu hfu M iM l6 l2 ⟨by omega, by omega⟩ ⟨by omega, by omega⟩ ) (fun v4 hv4 => ?_)
    refine wp_T ⟨by omega, by omega⟩ ?_
    have w_5 : (jm_w (v4 - 1)) = (v4 - 1) := jm_wid (by omega) (by omega)
    refine wp_bp (s_fX6_timeOrStart M iM l6 (jm_w (v4 - 1)) ⟨by omega, by omega⟩ ⟨by omega, by omega⟩ ) (fun v8 hv8 => ?_)
    have b_7 : -2147483648 ≤ v8 ∧ v8 ≤ 2147483647 := hv8
    have b_8 : -2147483648 ≤ l4 ∧ l4 ≤ 2147483647 := hl4
    refine wp_ite (fun c_6 => ?_) (fun c_6 => ?_)
    · skip
      have b_9 : -2147483648 ≤ l5 ∧ l5 ≤ 2147483647 := hl5
      exact s_gX11_wall_132 fu hfu M0 k57 N57 hk57 l1 l2 l3 l4 l5 l6 v4 1 M iM kM ⟨by omega, by omega⟩ ⟨by omega, by omega⟩ ⟨by omega, by omega⟩ hl4 hl5 ⟨by omega, by omega⟩ ⟨by omega, by omega⟩ ⟨by omega, by omega⟩  (by omega)
    · skip
      refine wp_ite (fun c_10 => ?_) (fun c_10 => ?_)
      · skip
        refine wp_ite (fun c_11 => ?_) (fun c_11 => ?_)
        · skip
          have b_12 : -2147483648 ≤ l5 ∧ l5 ≤ 2147483647 := hl5
          exact s_gX11_wall_132 fu hfu M0 k57 N57 hk57 l1 l2 l3 l4 l5 l6 v4 0 M iM kM ⟨by omega, by omega⟩ ⟨by omega, by omega⟩ ⟨by omega, by omega⟩ hl4 hl5 ⟨by omega, by omega⟩ ⟨by omega, by omega⟩ ⟨by omega, by omega⟩  (by omega)
        · skip
          have b_13 : -2147483648 ≤ l5 ∧ l5 ≤ 2147483647 := hl5
          exact s_gX11_wall_132 fu hfu M0 k57 N57 hk57 l1 l2 l3 l4 l5 l6 v4 1 M iM kM ⟨by omega, by omega⟩ ⟨by omega, by omega⟩ ⟨by omega, by omega⟩ hl4 hl5 ⟨by omega, by omega⟩ ⟨by omega, by omega⟩ ⟨by omega, by omega⟩  (by omega)
      · skip
        have b_14 : -2147483648 ≤ l5 ∧ l5 ≤ 2147483647 := hl5
        exact s_gX11_wall_132 fu hfu M0 k57 N57 hk57 l1 l2 l3 l4 l5 l6 v4 0 M iM kM ⟨by omega, by omega⟩ ⟨by omega, by omega⟩ ⟨by omega, by omega⟩ hl4 hl5 ⟨by omega, by omega⟩ ⟨by omega, by omega⟩ ⟨by omega, by omega⟩  (by omega)
set_option maxHeartbeats 4000000 in
set_option maxRecDepth 100000 in
theorem s_fX11_wall_57 (fu : Nat) (hfu : 4000 ≤ fu) (M0 : jm_M) : ∀ (n : Nat) (l1 l2 l3 l4 l5 l6 : Int) (M : jm_M) (iM : bI bx1 M) (kM : Kp TA M0 M) (hl1 : 0 ≤ l1 ∧ l1 ≤ 5) (hl2 : 0 ≤ l2 ∧ l2 ≤ 2147483647) (hl3 : 0 ≤ l3 ∧ l3 ≤ 60) (hl4 : jm_in l4) (hl5 : jm_in l5) (hl6 : 0 ≤ l6 ∧ l6 ≤ 6), 7 - l6 < (n : Int) → wp (fX11_wall_57 fu  n M l1 l2 l3 l4 l5 l6) (fun r M1 => bI bx1 M1 ∧ Kp TA M0 M1 ∧ (jm_in r)) := by
  intro n
  induction n with
  | zero => intro l1 l2 l3 l4 l5 l6 M iM kM hl1 hl2 hl3 hl4 hl5 hl6 hm; exfalso; omega
  | succ n ih =>
    intro l1 l2 l3 l4 l5 l6 M iM kM hl1 hl2 hl3 hl4 hl5 hl6 hm
    exact s_gX11_wall_57 fu hfu M0 (fX11_wall_57 fu  n) (n : Int) ih l1 l2 l3 l4 l5 l6 M iM kM hl1 hl2 hl3 hl4 hl5 hl6 (by omega)
set_option maxHeartbeats 4000000 in
set_option maxRecDepth 100000 in
theorem s_fX11_wall (fu : Nat) (hfu : 4000 ≤ fu) (M : jm_M) (iM : bI bx1 M) (l1 l2 : Int) (hl1 : jm_in l1) (hl2 : jm_in l2) : wp (fX11_wall fu M l1 l2) (fun r M1 => bI bx1 M1 ∧ Kp TA M M1 ∧ (jm_in r)) := by
  have kM : Kp TA M M := Kp.rf
  unfold fX11_wall
  refine wp_bp (s_fX2_has M iM l1 hl1 ) (fun v1 hv1 => ?_)
  have b_1 : -2147483648 ≤ l1 ∧ l1 ≤ 2147483647 := hl1
  have b_2 : 0 ≤ (M 2 0 5) ∧ (M 2 0 5) ≤ 6 := iM 2 0 5
  refine wp_ite (fun c_3 => ?_) (fun c_3 => ?_)
  · skip
    exact wp_ret ⟨iM, kM, (jm_inL (by decide) (by decide))⟩
  · skip
    have b_5 : -2147483648 ≤ l2 ∧ l2 ≤ 2147483647 := hl2
    refine wp_ite (fun c_4 => ?_) (fun c_4 => ?_)
    · skip
      refine wp_bk (s_fX2_reckon fu hfu M iM   ) (fun v6 M7 iM7 jM7 hv6 => ?_)
      have kM7 := kM.tr jM7 (fun _ _ _ h => h)
      refine wp_bp (s_fX2_endedByWall fu hfu M7 iM7 l1 l2 ⟨by omega, by omega⟩ ⟨by omega, by omega⟩ ) (fun v8 hv8 => ?_)
      refine wp_T ⟨by omega, by omega⟩ ?_
      have w_6 : (jm_w (v8 - 1)) = (v8 - 1) := jm_wid (by omega) (by omega)
      refine wp_bp (s_fX6_timeOrStart M7 iM7 l1 (jm_w (v8 - 1)) ⟨by omega, by omega⟩ ⟨by omega, by omega⟩ ) (fun v12 hv12 => ?_)
      have b_7 : -2147483648 ≤ v12 ∧ v12 ≤ 2147483647 := hv12
      exact s_fX11_wall_57 fu hfu M    fu l1 l2 v8 v12 0 0 M7 iM7 kM7 ⟨by omega, by omega⟩ ⟨by omega, by omega⟩ ⟨by omega, by omega⟩ hv12 (jm_inL (by decide) (by decide)) ⟨by omega, by omega⟩   (by omega)
    · skip
      exact wp_ret ⟨iM, kM, (jm_inL (by decide) (by decide))⟩
set_option maxHeartbeats 4000000 in
set_option maxRecDepth 100000 in
theorem s_fX11_why (fu : Nat) (hfu : 4000 ≤ fu) (M : jm_M) (iM : bI bx1 M) (l1 l2 : Int) (hl1 : jm_in l1) (hl2 : jm_in l2) : wp (fX11_why fu M l1 l2) (fun r M1 => bI bx1 M1 ∧ Kp TA M M1 ∧ (jm_in r)) := by
  have kM : Kp TA M M := Kp.rf
  unfold fX11_why
  refine wp_bp (s_fX2_has M iM l1 hl1 ) (fun v1 hv1 => ?_)
  have b_1 : -2147483648 ≤ l1 ∧ l1 ≤ 2147483647 := hl1
  have b_2 : 0 ≤ (M 2 0 5) ∧ (M 2 0 5) ≤ 6 := iM 2 0 5
  refine wp_ite (fun c_3 => ?_) (fun c_3 => ?_)
  · skip
    exact wp_ret ⟨iM, kM, (jm_inL (by decide) (by decide))⟩
  · skip
    have b_4 : 1 ≤ (M 1 0 1) ∧ (M 1 0 1) ≤ 12 := iM 1 0 1
    refine wp_bp (s_fX11_isIndex M iM l2 (M 1 0 1) hl2 ⟨by omega, by omega⟩ ) (fun v6 hv6 => ?_)
    have b_5 : -2147483648 ≤ l2 ∧ l2 ≤ 2147483647 := hl2
    refine wp_ite (fun c_6 => ?_) (fun c_6 => ?_)
    · skip
      exact wp_ret ⟨iM, kM, (jm_inL (by decide) (by decide))⟩
    · skip
      refine wp_bk (s_fX2_reckon fu hfu M iM   ) (fun v10 M11 iM11 jM11 hv10 => ?_)
      have kM11 := kM.tr jM11 (fun _ _ _ h => h)
      refine wp_T ⟨by omega, by omega⟩ ?_
      refine wp_T ⟨by omega, by omega⟩ ?_
      have b_7 : (-2147483648) ≤ (M11 31 l1 l2) ∧ (M11 31 l1 l2) ≤ 2147483647 := iM11 31 l1 l2
      exact wp_ret ⟨iM11, kM11, (iM11 31 l1 l2)⟩
set_option maxHeartbeats 4000000 in
set_option maxRecDepth 100000 in
theorem s_fX11_within (fu : Nat) (hfu : 4000 ≤ fu) (M : jm_M) (iM : bI bx1 M) (l1 l2 : Int) (hl1 : jm_in l1) (hl2 : jm_in l2) : wp (fX11_within fu M l1 l2) (fun r M1 => bI bx1 M1 ∧ Kp TA M M1 ∧ (jm_in r)) := by
  have kM : Kp TA M M := Kp.rf
  unfold fX11_within
  refine wp_bp (s_fX2_has M iM l1 hl1 ) (fun v1 hv1 => ?_)
  have b_1 : -2147483648 ≤ l1 ∧ l1 ≤ 2147483647 := hl1
  have b_2 : 0 ≤ (M 2 0 5) ∧ (M 2 0 5) ≤ 6 := iM 2 0 5
  refine wp_ite (fun c_3 => ?_) (fun c_3 => ?_)
  · skip
    exact wp_ret ⟨iM, kM, (jm_inL (by decide) (by decide))⟩
  · skip
    refine wp_bp (s_fX11_isDay M iM l2 hl2 ) (fun v5 hv5 => ?_)
    have b_4 : -2147483648 ≤ l2 ∧ l2 ≤ 2147483647 := hl2
    refine wp_ite (fun c_5 => ?_) (fun c_5 => ?_)
    · skip
      exact wp_ret ⟨iM, kM, (jm_inL (by decide) (by decide))⟩
    · skip
      refine wp_bk (s_fX2_reckon fu hfu M iM   ) (fun v9 M10 iM10 jM10 hv9 => ?_)
      have kM10 := kM.tr jM10 (fun _ _ _ h => h)
      refine wp_bk (s_fX5_reckonFor fu hfu M10 iM10 l2 ⟨by omega, by omega⟩ ) (fun v11 M12 iM12 jM12 hv11 => ?_)
      have kM12 := kM10.tr jM12 tt_TA_TJ
      refine wp_T ⟨by omega, by omega⟩ ?_
      have q_6 : (M12 8 l1 4) = (M10 8 l1 4) := jM12 8 l1 4 (by unfold TJ; omega)
      have q_7 : (M10 8 l1 4) = (M 8 l1 4) := jM10 8 l1 4 (by unfold TA; omega)
      refine wp_bp (s_fX5_placeAmong fu hfu M12 iM12 l1 (M12 8 l1 4) ⟨by omega, by omega⟩ (bx1_in (iM12 8 l1 4)) ) (fun v15 hv15 => ?_)
      have b_8 : -2147483648 ≤ v15 ∧ v15 ≤ 2147483647 := hv15
      exact wp_ret ⟨iM12, kM12, hv15⟩
